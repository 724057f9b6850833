theorem rz_canE {G : ZG} {cc : ByteArray} {K : ZK} {bc bs pc : Nat} {L : List (Option Zv)} {st : List Zv} {Sh : ZS} {P : ZP} {C : ZI} {S : ZT} {X : ZX} {Q : ZQ} {idx n0 p how : Nat} {cc' : ByteArray} {K' : ZK} {As stk : List Zv} {e n w : Int32} {off : Int} (hz : zr_sh Sh P) (hd : decode cc pc = .ok (.invokevirtual idx, 3)) (hw : zt_cV K idx cc' K' n0 10) (hC : rc G cc' K' Sh P C S X As (fun x S' X' => S' = S ∧ (canK S p e n w how = 0 → x = 1 ∧ X' = X) ∧ (canK S p e n w how ≠ 0 → x = 0 ∧ X' = fX X (nI (canK S p e n w how)) e n w))) (hstk : stk = As.reverse ++ .inr (some (60, 99, 0)) :: st) (hn : As.length = n0) (h8 : st.length ≤ 8) (tgt : Nat) (hd2 : decode cc (pc + 3) = .ok (.ifCond .eq off, 3)) (ht : ((pc + 3 : Nat) : Int) + off = (tgt : Int))
    (kk1 : canK S p e n w how = 0 → zw G cc K bc bs (pc + 6) L st Sh P (zl C S X) Q) (kk2 : ¬ canK S p e n w how = 0 → ∀ X2, zw G cc K bc bs tgt L st Sh P (zl C S X2) Q) : zw G cc K bc bs pc L stk Sh P (zl C S X) Q := by
  refine rz_callX hz hd hw hC hstk hn h8 (fun x X2 h => ?_)
  obtain ⟨qa, qb⟩ := h
  by_cases hc : canK S p e n w how = 0
  · obtain ⟨e1, e2⟩ := qa hc
    rw [e1, e2]
    exact zw_if_eq tgt hd2 ht (fun z => absurd z (by decide)) (fun _ => kk1 hc)
  · obtain ⟨e1, e2⟩ := qb hc
    rw [e1]
    exact zw_if_eq tgt hd2 ht (fun _ => kk2 hc X2) (fun z => absurd rfl z)
set_option maxHeartbeats 4000000 in
set_option maxRecDepth 100000 in
theorem l_does156a {G : ZG} {Sh : ZS} {P : ZP} {C : ZI} {X : ZX} (hz : zr_sh Sh P) (S : ZT) (p : Nat) (hp : p < 4) (hk : kOK S p) (hs : sOK S) (hy : yOK S) (v ring n w : Int32) (hb : ¬ bad v) (ho : oN v = 1 ∨ (3 ≤ oN v ∧ oN v ≤ 9) ∨ oN v = 15) (g158 : mN v = 3) : zw G cX10_does kX10_does 0 0 184 [some (.inr (some (60, 99, 0))), some (.inl (nI p)), some (.inl (nI (30 * p))), some (.inl ring), some (.inl n), some (.inl w), some (.inl v), some (.inl (nI (oN v))), some (.inl (nI (rN v))), some (.inl (zb (mN v = 3))), none] [] Sh P (zl C S X) (rq C Sh P (oc (dop S p v ring n w (X 28) (X 29) (X 30)))) := by
  have ho32 := (f_op_n v).2
  have hr8 := (f_r_n v).2
  have hkc := hk.2.2.1
  refine zw_iload dX10_does_184 rfl ?_
  refine zw_if_eq 196 dX10_does_186 (by decide) (fun h186 => ?_) (fun h186 => ?_)
  · exact absurd g158 (zb_eq h186)
  · have g186 := zb_ne h186
    refine zw_aload_n dX10_does_189 rfl rfl ?_
    refine rz_intX hz dX10_does_190 fX10_136 rfl (by decide) ?_
    refine zw_goto 209 dX10_does_193 (by decide) ?_
    refine zw_istore dX10_does_209 (by decide) ?_
    dsimp only [List.set]
    refine zw_iload dX10_does_211 rfl ?_
    refine zw_bipush (nI 15) dX10_does_213 (by decide) ?_
    refine zw_icmp_ne 234 dX10_does_215 (by decide) (fun h215 => ?_) (fun h215 => ?_)
    · have g215 : ¬ ((oN v) = 15) := fun z => h215 ((nI_eq (by omega) (by omega)).mpr z)
      refine zw_aload_n dX10_does_234 rfl rfl ?_
      refine zw_iload_n dX10_does_235 rfl rfl ?_
      refine zw_iload dX10_does_236 rfl ?_
      refine zw_iload dX10_does_238 rfl ?_
      refine rz_callT hz dX10_does_240 eX10_does_240 (c_works hz S p hp (oN v) (by omega) _) rfl rfl (Nat.le_of_ble_eq_true rfl) ?_
      refine zw_aload_n dX10_does_243 rfl rfl ?_
      refine rz_arr hz dX10_does_244 fX10_53 rfl ?_
      refine zw_iload_n dX10_does_247 rfl rfl ?_
      refine zw_iconst (nI 3) dX10_does_248 (by decide) ?_
      refine zw_iaddN dX10_does_249 ?_
      refine zw_iload dX10_does_250 rfl ?_
      refine zw_iconst (nI 1) dX10_does_252 (by decide) ?_
      refine zw_iadd dX10_does_253 ?_
      refine rz_ast (((30 * p) + 3)) hz dX10_does_254 rfl (by decide) (by show ((30 * p) + 3) < 120; omega) rfl ?_
      refine zw_iconst (nI 1) dX10_does_255 (by decide) ?_
      first | exact rz_zret dX10_does_256 rfl rfl (by unfold dop opS; rw [if_pos ho, if_pos g158, if_pos g215]; exact oc_ok) | exact rz_zret dX10_does_256 rfl rfl (by unfold dop opS; rw [if_pos ho, if_pos g158, if_neg g215]; exact oc_ok)
    · have g215 : (oN v) = 15 := (nI_eq (by omega) (by omega)).mp h215
      refine zw_aload_n dX10_does_218 rfl rfl ?_
      refine rz_arr hz dX10_does_219 fX10_53 rfl ?_
      refine zw_iload_n dX10_does_222 rfl rfl ?_
      refine zw_iconst (nI 4) dX10_does_223 (by decide) ?_
      refine zw_iaddN dX10_does_224 ?_
      refine zw_iload dX10_does_225 rfl ?_
      refine zw_iaddN dX10_does_227 ?_
      refine zw_iload dX10_does_228 rfl ?_
      refine rz_ast ((((30 * p) + 4) + (rN v))) hz dX10_does_230 rfl (by decide) (by show (((30 * p) + 4) + (rN v)) < 120; omega) rfl ?_
      refine zw_goto 243 dX10_does_231 (by decide) ?_
      refine zw_aload_n dX10_does_243 rfl rfl ?_
      refine rz_arr hz dX10_does_244 fX10_53 rfl ?_
      refine zw_iload_n dX10_does_247 rfl rfl ?_
      refine zw_iconst (nI 3) dX10_does_248 (by decide) ?_
      refine zw_iaddN dX10_does_249 ?_
      refine zw_iload dX10_does_250 rfl ?_
      refine zw_iconst (nI 1) dX10_does_252 (by decide) ?_
      refine zw_iadd dX10_does_253 ?_
      refine rz_ast (((30 * p) + 3)) hz dX10_does_254 rfl (by decide) (by show ((30 * p) + 3) < 120; omega) rfl ?_
      refine zw_iconst (nI 1) dX10_does_255 (by decide) ?_
      first | exact rz_zret dX10_does_256 rfl rfl (by unfold dop opS; rw [if_pos ho, if_pos g158, if_pos g215]; exact oc_ok) | exact rz_zret dX10_does_256 rfl rfl (by unfold dop opS; rw [if_pos ho, if_pos g158, if_neg g215]; exact oc_ok)
set_option maxHeartbeats 4000000 in
set_option maxRecDepth 100000 in
theorem l_does156b {G : ZG} {Sh : ZS} {P : ZP} {C : ZI} {X : ZX} (hz : zr_sh Sh P) (S : ZT) (p : Nat) (hp : p < 4) (hk : kOK S p) (hs : sOK S) (hy : yOK S) (v ring n w : Int32) (hb : ¬ bad v) (ho : oN v = 1 ∨ (3 ≤ oN v ∧ oN v ≤ 9) ∨ oN v = 15) (g158 : ¬ mN v = 3) (k176 : canK S p (X 28) (X 29) (X 30) 0 = 0) : zw G cX10_does kX10_does 0 0 184 [some (.inr (some (60, 99, 0))), some (.inl (nI p)), some (.inl (nI (30 * p))), some (.inl ring), some (.inl n), some (.inl w), some (.inl v), some (.inl (nI (oN v))), some (.inl (nI (rN v))), some (.inl (zb (mN v = 3))), none] [] Sh P (zl C S X) (rq C Sh P (oc (dop S p v ring n w (X 28) (X 29) (X 30)))) := by
  have ho32 := (f_op_n v).2
  have hr8 := (f_r_n v).2
  have hkc := hk.2.2.1
  have hc3 := canK_0' k176
  have hn1 := zin_zn hc3.1 (by omega)
  have hsz := sz_le hk hs hn1.1
  have hw1 := zin_zn hc3.2.1 (by omega)
  refine zw_iload dX10_does_184 rfl ?_
  refine zw_if_eq 196 dX10_does_186 (by decide) (fun h186 => ?_) (fun h186 => ?_)
  · have g186 := zb_eq h186
    refine zw_aload_n dX10_does_196 rfl rfl ?_
    refine zw_iload_n dX10_does_197 rfl rfl ?_
    refine zw_aload_n dX10_does_198 rfl rfl ?_
    refine rz_intX hz dX10_does_199 fX10_133 rfl (by decide) ?_
    refine zw_top hn1.2 ?_
    refine zw_aload_n dX10_does_202 rfl rfl ?_
    refine rz_intX hz dX10_does_203 fX10_136 rfl (by decide) ?_
    refine zw_top hw1.2 ?_
    refine rz_callP hz dX10_does_206 eX10_does_206 (c_get hz S p hp hk hs _ hn1.1 _ hw1.1) rfl rfl (Nat.le_of_ble_eq_true rfl) (fun x206 q206 => ?_)
    subst q206
    refine zw_istore dX10_does_209 (by decide) ?_
    dsimp only [List.set]
    refine zw_iload dX10_does_211 rfl ?_
    refine zw_bipush (nI 15) dX10_does_213 (by decide) ?_
    refine zw_icmp_ne 234 dX10_does_215 (by decide) (fun h215 => ?_) (fun h215 => ?_)
    · have g215 : ¬ ((oN v) = 15) := fun z => h215 ((nI_eq (by omega) (by omega)).mpr z)
      refine zw_aload_n dX10_does_234 rfl rfl ?_
      refine zw_iload_n dX10_does_235 rfl rfl ?_
      refine zw_iload dX10_does_236 rfl ?_
      refine zw_iload dX10_does_238 rfl ?_
      refine rz_callT hz dX10_does_240 eX10_does_240 (c_works hz S p hp (oN v) (by omega) _) rfl rfl (Nat.le_of_ble_eq_true rfl) ?_
      refine zw_aload_n dX10_does_243 rfl rfl ?_
      refine rz_arr hz dX10_does_244 fX10_53 rfl ?_
      refine zw_iload_n dX10_does_247 rfl rfl ?_
      refine zw_iconst (nI 3) dX10_does_248 (by decide) ?_
      refine zw_iaddN dX10_does_249 ?_
      refine zw_iload dX10_does_250 rfl ?_
      refine zw_iconst (nI 1) dX10_does_252 (by decide) ?_
      refine zw_iadd dX10_does_253 ?_
      refine rz_ast (((30 * p) + 3)) hz dX10_does_254 rfl (by decide) (by show ((30 * p) + 3) < 120; omega) rfl ?_
      refine zw_iconst (nI 1) dX10_does_255 (by decide) ?_
      first | exact rz_zret dX10_does_256 rfl rfl (by unfold dop opS; rw [if_pos ho, if_neg g158, if_pos k176, if_pos g215]; exact oc_ok) | exact rz_zret dX10_does_256 rfl rfl (by unfold dop opS; rw [if_pos ho, if_neg g158, if_pos k176, if_neg g215]; exact oc_ok)
    · have g215 : (oN v) = 15 := (nI_eq (by omega) (by omega)).mp h215
      refine zw_aload_n dX10_does_218 rfl rfl ?_
      refine rz_arr hz dX10_does_219 fX10_53 rfl ?_
      refine zw_iload_n dX10_does_222 rfl rfl ?_
      refine zw_iconst (nI 4) dX10_does_223 (by decide) ?_
      refine zw_iaddN dX10_does_224 ?_
      refine zw_iload dX10_does_225 rfl ?_
      refine zw_iaddN dX10_does_227 ?_
      refine zw_iload dX10_does_228 rfl ?_
      refine rz_ast ((((30 * p) + 4) + (rN v))) hz dX10_does_230 rfl (by decide) (by show (((30 * p) + 4) + (rN v)) < 120; omega) rfl ?_
      refine zw_goto 243 dX10_does_231 (by decide) ?_
      refine zw_aload_n dX10_does_243 rfl rfl ?_
      refine rz_arr hz dX10_does_244 fX10_53 rfl ?_
      refine zw_iload_n dX10_does_247 rfl rfl ?_
      refine zw_iconst (nI 3) dX10_does_248 (by decide) ?_
      refine zw_iaddN dX10_does_249 ?_
      refine zw_iload dX10_does_250 rfl ?_
      refine zw_iconst (nI 1) dX10_does_252 (by decide) ?_
      refine zw_iadd dX10_does_253 ?_
      refine rz_ast (((30 * p) + 3)) hz dX10_does_254 rfl (by decide) (by show ((30 * p) + 3) < 120; omega) rfl ?_
      refine zw_iconst (nI 1) dX10_does_255 (by decide) ?_
      first | exact rz_zret dX10_does_256 rfl rfl (by unfold dop opS; rw [if_pos ho, if_neg g158, if_pos k176, if_pos g215]; exact oc_ok) | exact rz_zret dX10_does_256 rfl rfl (by unfold dop opS; rw [if_pos ho, if_neg g158, if_pos k176, if_neg g215]; exact oc_ok)
  · exact absurd (zb_ne h186) g158
set_option maxHeartbeats 4000000 in
set_option maxRecDepth 100000 in
theorem l_does156 {G : ZG} {Sh : ZS} {P : ZP} {C : ZI} {X : ZX} (hz : zr_sh Sh P) (S : ZT) (p : Nat) (hp : p < 4) (hk : kOK S p) (hs : sOK S) (hy : yOK S) (v ring n w : Int32) (hb : ¬ bad v) (ho : oN v = 1 ∨ (3 ≤ oN v ∧ oN v ≤ 9) ∨ oN v = 15) : zw G cX10_does kX10_does 0 0 156 [some (.inr (some (60, 99, 0))), some (.inl (nI p)), some (.inl (nI (30 * p))), some (.inl ring), some (.inl n), some (.inl w), some (.inl v), some (.inl (nI (oN v))), some (.inl (nI (rN v))), some (.inl (zb (mN v = 3))), none] [] Sh P (zl C S X) (rq C Sh P (oc (dop S p v ring n w (X 28) (X 29) (X 30)))) := by
  have ho32 := (f_op_n v).2
  have hr8 := (f_r_n v).2
  have hkc := hk.2.2.1
  refine zw_iload dX10_does_156 rfl ?_
  refine zw_if_ne 184 dX10_does_158 (by decide) (fun h158 => ?_) (fun h158 => ?_)
  · have g158 := zb_ne h158
    first | exact l_does156a hz S p hp hk hs hy v ring n w hb ho g158 | exact l_does156b hz S p hp hk hs hy v ring n w hb ho g158 k176
  · have g158 := zb_eq h158
    refine zw_aload_n dX10_does_161 rfl rfl ?_
    refine zw_iload_n dX10_does_162 rfl rfl ?_
    refine zw_aload_n dX10_does_163 rfl rfl ?_
    refine rz_intX hz dX10_does_164 fX10_139 rfl (by decide) ?_
    refine zw_aload_n dX10_does_167 rfl rfl ?_
    refine rz_intX hz dX10_does_168 fX10_133 rfl (by decide) ?_
    refine zw_aload_n dX10_does_171 rfl rfl ?_
    refine rz_intX hz dX10_does_172 fX10_136 rfl (by decide) ?_
    refine zw_iconst (nI 0) dX10_does_175 (by decide) ?_
    refine rz_can hz dX10_does_176 eX10_does_176 (c_can hz S p hp hk hs _ _ _ 0 (by omega)) rfl rfl (Nat.le_of_ble_eq_true rfl) 184 dX10_does_179 (by decide) (fun k176 => ?_) (fun k176 => ?_)
    · first | exact l_does156a hz S p hp hk hs hy v ring n w hb ho g158 | exact l_does156b hz S p hp hk hs hy v ring n w hb ho g158 k176
    · refine zw_iconst (nI 0) dX10_does_182 (by decide) ?_
      exact rz_zret dX10_does_183 rfl rfl (by unfold dop; rw [if_pos ho, if_neg g158, if_neg k176]; exact oc_no k176)
set_option maxHeartbeats 4000000 in
set_option maxRecDepth 100000 in
theorem l_does277 {G : ZG} {Sh : ZS} {P : ZP} {C : ZI} {X : ZX} (hz : zr_sh Sh P) (S : ZT) (p : Nat) (hp : p < 4) (hk : kOK S p) (hs : sOK S) (hy : yOK S) (v ring n w : Int32) (hb : ¬ bad v) (ho : oN v = 2 ∨ oN v = 16 ∨ oN v = 19) {o9 : Option Zv} : zw G cX10_does kX10_does 0 0 277 [some (.inr (some (60, 99, 0))), some (.inl (nI p)), some (.inl (nI (30 * p))), some (.inl ring), some (.inl n), some (.inl w), some (.inl v), some (.inl (nI (oN v))), some (.inl (nI (rN v))), o9, none] [] Sh P (zl C S X) (rq C Sh P (oc (dop S p v ring n w (X 28) (X 29) (X 30)))) := by
  have ho32 := (f_op_n v).2
  have hr8 := (f_r_n v).2
  have hkc := hk.2.2.1
  refine zw_aload_n dX10_does_277 rfl rfl ?_
  refine zw_iload_n dX10_does_278 rfl rfl ?_
  refine zw_aload_n dX10_does_279 rfl rfl ?_
  refine rz_intX hz dX10_does_280 fX10_139 rfl (by decide) ?_
  refine zw_aload_n dX10_does_283 rfl rfl ?_
  refine rz_intX hz dX10_does_284 fX10_133 rfl (by decide) ?_
  refine zw_aload_n dX10_does_287 rfl rfl ?_
  refine rz_intX hz dX10_does_288 fX10_136 rfl (by decide) ?_
  refine zw_iconst (nI 1) dX10_does_291 (by decide) ?_
  refine rz_can hz dX10_does_292 eX10_does_292 (c_can hz S p hp hk hs _ _ _ 1 (by omega)) rfl rfl (Nat.le_of_ble_eq_true rfl) 300 dX10_does_295 (by decide) (fun k292 => ?_) (fun k292 => ?_)
  · have hc3 := canK_0' k292
    have hn1 := zin_zn hc3.1 (by omega)
    have hsz := sz_le hk hs hn1.1
    have hw1 := zin_zn hc3.2.1 (by omega)
    refine zw_bipush (nI 24) dX10_does_300 (by decide) ?_
    refine zw_iload_n dX10_does_302 rfl rfl ?_
    refine zw_imulN dX10_does_303 ?_
    refine zw_iconst (nI 3) dX10_does_304 (by decide) ?_
    refine zw_iload dX10_does_305 rfl ?_
    refine zw_imulN dX10_does_307 ?_
    refine zw_iaddN dX10_does_308 ?_
    refine zw_istore dX10_does_309 (by decide) ?_
    dsimp only [List.set]
    refine zw_aload_n dX10_does_311 rfl rfl ?_
    refine zw_iload_n dX10_does_312 rfl rfl ?_
    refine zw_aload_n dX10_does_313 rfl rfl ?_
    refine rz_intX hz dX10_does_314 fX10_133 rfl (by decide) ?_
    refine zw_top hn1.2 ?_
    refine zw_aload_n dX10_does_317 rfl rfl ?_
    refine rz_intX hz dX10_does_318 fX10_136 rfl (by decide) ?_
    refine zw_top hw1.2 ?_
    refine zw_iload dX10_does_321 rfl ?_
    refine zw_iconst (nI 2) dX10_does_323 (by decide) ?_
    refine zw_icmp_ne 338 dX10_does_324 (by decide) (fun h324 => ?_) (fun h324 => ?_)
    · have g324 : ¬ ((oN v) = 2) := fun z => h324 ((nI_eq (by omega) (by omega)).mpr z)
      refine zw_iload dX10_does_338 rfl ?_
      refine zw_bipush (nI 16) dX10_does_340 (by decide) ?_
      refine zw_icmp_ne 359 dX10_does_342 (by decide) (fun h342 => ?_) (fun h342 => ?_)
      · have g342 : ¬ ((oN v) = 16) := fun z => h342 ((nI_eq (by omega) (by omega)).mpr z)
        refine zw_aload_n dX10_does_359 rfl rfl ?_
        refine rz_arr hz dX10_does_360 fX10_56 rfl ?_
        refine zw_iload dX10_does_363 rfl ?_
        refine rz_ald (((24 * p) + (3 * (rN v)))) hz dX10_does_365 rfl (by decide) (by show ((24 * p) + (3 * (rN v))) < 96; omega) rfl ?_
        refine zw_bipush (nI 28) dX10_does_366 (by decide) ?_
        refine zw_ishl dX10_does_368 ?_
        refine zw_aload_n dX10_does_369 rfl rfl ?_
        refine rz_arr hz dX10_does_370 fX10_56 rfl ?_
        refine zw_iload dX10_does_373 rfl ?_
        refine zw_iconst (nI 1) dX10_does_375 (by decide) ?_
        refine zw_iaddN dX10_does_376 ?_
        refine rz_ald ((((24 * p) + (3 * (rN v))) + 1)) hz dX10_does_377 rfl (by decide) (by show (((24 * p) + (3 * (rN v))) + 1) < 96; omega) rfl ?_
        refine zw_bipush (nI 16) dX10_does_378 (by decide) ?_
        refine zw_ishl dX10_does_380 ?_
        refine zw_ior dX10_does_381 ?_
        refine zw_aload_n dX10_does_382 rfl rfl ?_
        refine rz_arr hz dX10_does_383 fX10_56 rfl ?_
        refine zw_iload dX10_does_386 rfl ?_
        refine zw_iconst (nI 2) dX10_does_388 (by decide) ?_
        refine zw_iaddN dX10_does_389 ?_
        refine rz_ald ((((24 * p) + (3 * (rN v))) + 2)) hz dX10_does_390 rfl (by decide) (by show (((24 * p) + (3 * (rN v))) + 2) < 96; omega) rfl ?_
        refine zw_ior dX10_does_391 ?_
        refine zw_top (y := stv S p v) (by unfold stv; first | exact (if_pos g324).symm | (rw [if_neg g324]; exact (if_pos g342).symm) | (rw [if_neg g324]; exact (if_neg g342).symm)) ?_
        refine rz_callT hz dX10_does_392 eX10_does_392 (c_put hz S p hp hk hs _ hn1.1 _ hw1.1 _) rfl rfl (Nat.le_of_ble_eq_true rfl) ?_
        refine zw_aload_n dX10_does_395 rfl rfl ?_
        refine rz_arr hz dX10_does_396 fX10_53 rfl ?_
        refine zw_iload_n dX10_does_399 rfl rfl ?_
        refine zw_iconst (nI 3) dX10_does_400 (by decide) ?_
        refine zw_iaddN dX10_does_401 ?_
        refine zw_iload dX10_does_402 rfl ?_
        refine zw_iconst (nI 1) dX10_does_404 (by decide) ?_
        refine zw_iadd dX10_does_405 ?_
        refine rz_ast (((30 * p) + 3)) hz dX10_does_406 rfl (by decide) (by show ((30 * p) + 3) < 120; omega) rfl ?_
        refine zw_iconst (nI 1) dX10_does_407 (by decide) ?_
        exact rz_zret dX10_does_408 rfl rfl (by unfold dop; rw [if_neg (by omega), if_pos ho, if_pos k292]; exact oc_ok)
      · have g342 : (oN v) = 16 := (nI_eq (by omega) (by omega)).mp h342
        refine zw_aload_n dX10_does_345 rfl rfl ?_
        refine rz_arr hz dX10_does_346 fX10_53 rfl ?_
        refine zw_iload_n dX10_does_349 rfl rfl ?_
        refine zw_iconst (nI 4) dX10_does_350 (by decide) ?_
        refine zw_iaddN dX10_does_351 ?_
        refine zw_iload dX10_does_352 rfl ?_
        refine zw_iaddN dX10_does_354 ?_
        refine rz_ald ((((30 * p) + 4) + (rN v))) hz dX10_does_355 rfl (by decide) (by show (((30 * p) + 4) + (rN v)) < 120; omega) rfl ?_
        refine zw_goto 392 dX10_does_356 (by decide) ?_
        refine zw_top (y := stv S p v) (by unfold stv; first | exact (if_pos g324).symm | (rw [if_neg g324]; exact (if_pos g342).symm) | (rw [if_neg g324]; exact (if_neg g342).symm)) ?_
        refine rz_callT hz dX10_does_392 eX10_does_392 (c_put hz S p hp hk hs _ hn1.1 _ hw1.1 _) rfl rfl (Nat.le_of_ble_eq_true rfl) ?_
        refine zw_aload_n dX10_does_395 rfl rfl ?_
        refine rz_arr hz dX10_does_396 fX10_53 rfl ?_
        refine zw_iload_n dX10_does_399 rfl rfl ?_
        refine zw_iconst (nI 3) dX10_does_400 (by decide) ?_
        refine zw_iaddN dX10_does_401 ?_
        refine zw_iload dX10_does_402 rfl ?_
        refine zw_iconst (nI 1) dX10_does_404 (by decide) ?_
        refine zw_iadd dX10_does_405 ?_
        refine rz_ast (((30 * p) + 3)) hz dX10_does_406 rfl (by decide) (by show ((30 * p) + 3) < 120; omega) rfl ?_
        refine zw_iconst (nI 1) dX10_does_407 (by decide) ?_
        exact rz_zret dX10_does_408 rfl rfl (by unfold dop; rw [if_neg (by omega), if_pos ho, if_pos k292]; exact oc_ok)
    · have g324 : (oN v) = 2 := (nI_eq (by omega) (by omega)).mp h324
      refine zw_aload_n dX10_does_327 rfl rfl ?_
      refine rz_arr hz dX10_does_328 fX10_53 rfl ?_
      refine zw_iload_n dX10_does_331 rfl rfl ?_
      refine zw_iconst (nI 4) dX10_does_332 (by decide) ?_
      refine zw_iaddN dX10_does_333 ?_
      refine rz_ald (((30 * p) + 4)) hz dX10_does_334 rfl (by decide) (by show ((30 * p) + 4) < 120; omega) rfl ?_
      refine zw_goto 392 dX10_does_335 (by decide) ?_
      refine zw_top (y := stv S p v) (by unfold stv; first | exact (if_pos g324).symm | (rw [if_neg g324]; exact (if_pos g342).symm) | (rw [if_neg g324]; exact (if_neg g342).symm)) ?_
      refine rz_callT hz dX10_does_392 eX10_does_392 (c_put hz S p hp hk hs _ hn1.1 _ hw1.1 _) rfl rfl (Nat.le_of_ble_eq_true rfl) ?_
      refine zw_aload_n dX10_does_395 rfl rfl ?_
      refine rz_arr hz dX10_does_396 fX10_53 rfl ?_
      refine zw_iload_n dX10_does_399 rfl rfl ?_
      refine zw_iconst (nI 3) dX10_does_400 (by decide) ?_
      refine zw_iaddN dX10_does_401 ?_
      refine zw_iload dX10_does_402 rfl ?_
      refine zw_iconst (nI 1) dX10_does_404 (by decide) ?_
      refine zw_iadd dX10_does_405 ?_
      refine rz_ast (((30 * p) + 3)) hz dX10_does_406 rfl (by decide) (by show ((30 * p) + 3) < 120; omega) rfl ?_
      refine zw_iconst (nI 1) dX10_does_407 (by decide) ?_
      exact rz_zret dX10_does_408 rfl rfl (by unfold dop; rw [if_neg (by omega), if_pos ho, if_pos k292]; exact oc_ok)
  · refine zw_iconst (nI 0) dX10_does_298 (by decide) ?_
    exact rz_zret dX10_does_299 rfl rfl (by unfold dop; rw [if_neg (by omega), if_pos ho, if_neg k292]; exact oc_no k292)
set_option maxHeartbeats 4000000 in
set_option maxRecDepth 100000 in
theorem l_does434 {G : ZG} {Sh : ZS} {P : ZP} {C : ZI} {X : ZX} (hz : zr_sh Sh P) (S : ZT) (p : Nat) (hp : p < 4) (hk : kOK S p) (hs : sOK S) (hy : yOK S) (v ring n w : Int32) (hb : ¬ bad v) (ho : ¬ (oN v = 1 ∨ (3 ≤ oN v ∧ oN v ≤ 9) ∨ oN v = 15)) (ho2 : ¬ (oN v = 2 ∨ oN v = 16 ∨ oN v = 19)) (ho3 : ¬ (10 ≤ oN v ∧ oN v ≤ 14)) {o9 : Option Zv} : zw G cX10_does kX10_does 0 0 432 [some (.inr (some (60, 99, 0))), some (.inl (nI p)), some (.inl (nI (30 * p))), some (.inl ring), some (.inl n), some (.inl w), some (.inl v), some (.inl (nI (oN v))), some (.inl (nI (rN v))), o9, none] [] Sh P (zl C S X) (rq C Sh P (oc (dop S p v ring n w (X 28) (X 29) (X 30)))) := by
  have ho32 := (f_op_n v).2
  have hr8 := (f_r_n v).2
  have hkc := hk.2.2.1
  have h25 : oN v ≤ 25 := by unfold bad at hb; omega
  have hy2 := hy.2
  refine zw_iload dX10_does_432 rfl ?_
  rcases (show (oN v) = 0 ∨ (oN v) = 17 ∨ (oN v) = 18 ∨ (oN v) = 20 ∨ (oN v) = 21 ∨ (oN v) = 22 ∨ (oN v) = 23 ∨ (oN v) = 24 ∨ (oN v) = 25 by omega) with e434 | e434 | e434 | e434 | e434 | e434 | e434 | e434 | e434
  · refine zw_top (y := nI 0) (congrArg nI e434) ?_
    refine zw_tabIn 548 dX10_does_434 (by decide) (by decide) rfl (by decide) ?_
    refine zw_aload_n dX10_does_548 rfl rfl ?_
    refine rz_arr hz dX10_does_549 fX10_53 rfl ?_
    refine zw_iload_n dX10_does_552 rfl rfl ?_
    refine zw_iconst (nI 2) dX10_does_553 (by decide) ?_
    refine rz_ast ((30 * p)) hz dX10_does_554 rfl (by decide) (by show (30 * p) < 120; omega) rfl ?_
    refine zw_iconst (nI 1) dX10_does_555 (by decide) ?_
    exact rz_zret dX10_does_556 rfl rfl (by unfold dop; rw [if_neg (by omega), if_neg (by omega), if_neg (by omega), if_pos e434]; exact oc_ok)
  · refine zw_top (y := nI 17) (congrArg nI e434) ?_
    refine zw_tabIn 557 dX10_does_434 (by decide) (by decide) rfl (by decide) ?_
    refine zw_aload_n dX10_does_557 rfl rfl ?_
    refine rz_arr hz dX10_does_558 fX10_53 rfl ?_
    refine zw_iload_n dX10_does_561 rfl rfl ?_
    refine zw_iconst (nI 4) dX10_does_562 (by decide) ?_
    refine zw_iaddN dX10_does_563 ?_
    refine zw_iload dX10_does_564 rfl ?_
    refine zw_iaddN dX10_does_566 ?_
    refine zw_aload_n dX10_does_567 rfl rfl ?_
    refine rz_intX hz dX10_does_568 fX10_136 rfl (by decide) ?_
    refine rz_ast ((((30 * p) + 4) + (rN v))) hz dX10_does_571 rfl (by decide) (by show (((30 * p) + 4) + (rN v)) < 120; omega) rfl ?_
    refine zw_goto 752 dX10_does_572 (by decide) ?_
    refine zw_aload_n dX10_does_752 rfl rfl ?_
    refine rz_arr hz dX10_does_753 fX10_53 rfl ?_
    refine zw_iload_n dX10_does_756 rfl rfl ?_
    refine zw_iconst (nI 3) dX10_does_757 (by decide) ?_
    refine zw_iaddN dX10_does_758 ?_
    refine zw_iload dX10_does_759 rfl ?_
    refine zw_iconst (nI 1) dX10_does_761 (by decide) ?_
    refine zw_iadd dX10_does_762 ?_
    refine rz_ast (((30 * p) + 3)) hz dX10_does_763 rfl (by decide) (by show ((30 * p) + 3) < 120; omega) rfl ?_
    refine zw_iconst (nI 1) dX10_does_764 (by decide) ?_
    first | exact rz_zret dX10_does_765 rfl rfl (by unfold dop; rw [if_neg (by omega), if_neg (by omega), if_neg (by omega), if_neg (by omega), if_pos e434]; exact oc_ok) | exact rz_zret dX10_does_765 rfl rfl (by unfold dop; rw [if_neg (by omega), if_neg (by omega), if_neg (by omega), if_neg (by omega), if_neg (by omega), if_pos e434, if_pos g585]; exact oc_ok) | exact rz_zret dX10_does_765 rfl rfl (by unfold dop; rw [if_neg (by omega), if_neg (by omega), if_neg (by omega), if_neg (by omega), if_neg (by omega), if_neg (by omega), if_neg (by omega), if_neg (by omega), if_pos (by omega), e434, if_pos k673]; exact oc_ok) | exact rz_zret dX10_does_765 rfl rfl (by unfold dop; rw [if_neg (by omega), if_neg (by omega), if_neg (by omega), if_neg (by omega), if_neg (by omega), if_neg (by omega), if_neg (by omega), if_neg (by omega), if_pos (by omega), e434, if_neg k673]; exact oc_ok) | exact rz_zret dX10_does_765 rfl rfl (by unfold dop; rw [if_neg (by omega), if_neg (by omega), if_neg (by omega), if_neg (by omega), if_neg (by omega), if_neg (by omega), if_neg (by omega), if_neg (by omega), if_neg (by omega), if_pos e434, if_pos h694]; show oc (okO (us (us (if _ then _ else _ : ZT) _ _ _) _ _ _)) _ _ _; first | (rw [if_pos (show nI 200 ≤ S 99 23 by rw [hy.1]; exact h712)]; exact oc_ok) | (rw [if_neg (show ¬ nI 200 ≤ S 99 23 by rw [hy.1]; exact h712)]; exact oc_ok))
  · refine zw_top (y := nI 18) (congrArg nI e434) ?_
    refine zw_tabIn 575 dX10_does_434 (by decide) (by decide) rfl (by decide) ?_
    refine zw_aload_n dX10_does_575 rfl rfl ?_
    refine rz_intX hz dX10_does_576 fX10_136 rfl (by decide) ?_
    refine zw_iconst (nI 0) dX10_does_579 (by decide) ?_
    refine zw_ldc (65535) dX10_does_580 lX10_93 ?_
    refine zw_top (y := nI 65535) rfl ?_
    refine rz_callS dX10_does_582 eX10_does_582 (c_in _ _ _) rfl rfl (Nat.le_of_ble_eq_true rfl) (fun x582 q582 => ?_)
    rw [zb_congr (in_zin2 (m := 65535) (by omega))] at q582
    subst q582
    refine zw_if_ne 606 dX10_does_585 (by decide) (fun h585 => ?_) (fun h585 => ?_)
    · have g585 := zb_ne h585
      refine zw_aload_n dX10_does_606 rfl rfl ?_
      refine zw_iload_n dX10_does_607 rfl rfl ?_
      refine zw_iload dX10_does_608 rfl ?_
      refine zw_aload_n dX10_does_610 rfl rfl ?_
      refine rz_intX hz dX10_does_611 fX10_139 rfl (by decide) ?_
      refine zw_aload_n dX10_does_614 rfl rfl ?_
      refine rz_intX hz dX10_does_615 fX10_133 rfl (by decide) ?_
      refine zw_aload_n dX10_does_618 rfl rfl ?_
      refine rz_intX hz dX10_does_619 fX10_136 rfl (by decide) ?_
      refine rz_callT hz dX10_does_622 eX10_does_622 (c_points hz S p hp (rN v) hr8 _ _ _) rfl rfl (Nat.le_of_ble_eq_true rfl) ?_
      refine zw_goto 752 dX10_does_625 (by decide) ?_
      refine zw_aload_n dX10_does_752 rfl rfl ?_
      refine rz_arr hz dX10_does_753 fX10_53 rfl ?_
      refine zw_iload_n dX10_does_756 rfl rfl ?_
      refine zw_iconst (nI 3) dX10_does_757 (by decide) ?_
      refine zw_iaddN dX10_does_758 ?_
      refine zw_iload dX10_does_759 rfl ?_
      refine zw_iconst (nI 1) dX10_does_761 (by decide) ?_
      refine zw_iadd dX10_does_762 ?_
      refine rz_ast (((30 * p) + 3)) hz dX10_does_763 rfl (by decide) (by show ((30 * p) + 3) < 120; omega) rfl ?_
      refine zw_iconst (nI 1) dX10_does_764 (by decide) ?_
      first | exact rz_zret dX10_does_765 rfl rfl (by unfold dop; rw [if_neg (by omega), if_neg (by omega), if_neg (by omega), if_neg (by omega), if_pos e434]; exact oc_ok) | exact rz_zret dX10_does_765 rfl rfl (by unfold dop; rw [if_neg (by omega), if_neg (by omega), if_neg (by omega), if_neg (by omega), if_neg (by omega), if_pos e434, if_pos g585]; exact oc_ok) | exact rz_zret dX10_does_765 rfl rfl (by unfold dop; rw [if_neg (by omega), if_neg (by omega), if_neg (by omega), if_neg (by omega), if_neg (by omega), if_neg (by omega), if_neg (by omega), if_neg (by omega), if_pos (by omega), e434, if_pos k673]; exact oc_ok) | exact rz_zret dX10_does_765 rfl rfl (by unfold dop; rw [if_neg (by omega), if_neg (by omega), if_neg (by omega), if_neg (by omega), if_neg (by omega), if_neg (by omega), if_neg (by omega), if_neg (by omega), if_pos (by omega), e434, if_neg k673]; exact oc_ok) | exact rz_zret dX10_does_765 rfl rfl (by unfold dop; rw [if_neg (by omega), if_neg (by omega), if_neg (by omega), if_neg (by omega), if_neg (by omega), if_neg (by omega), if_neg (by omega), if_neg (by omega), if_neg (by omega), if_pos e434, if_pos h694]; show oc (okO (us (us (if _ then _ else _ : ZT) _ _ _) _ _ _)) _ _ _; first | (rw [if_pos (show nI 200 ≤ S 99 23 by rw [hy.1]; exact h712)]; exact oc_ok) | (rw [if_neg (show ¬ nI 200 ≤ S 99 23 by rw [hy.1]; exact h712)]; exact oc_ok))
    · have g585 := zb_eq h585
      refine zw_aload_n dX10_does_588 rfl rfl ?_
      refine zw_iconst (nI 2) dX10_does_589 (by decide) ?_
      refine zw_aload_n dX10_does_590 rfl rfl ?_
      refine rz_intX hz dX10_does_591 fX10_139 rfl (by decide) ?_
      refine zw_aload_n dX10_does_594 rfl rfl ?_
      refine rz_intX hz dX10_does_595 fX10_133 rfl (by decide) ?_
      refine zw_aload_n dX10_does_598 rfl rfl ?_
      refine rz_intX hz dX10_does_599 fX10_136 rfl (by decide) ?_
      refine rz_callX hz dX10_does_602 eX10_does_602 (c_fails hz _ _ _ _ _) rfl rfl (Nat.le_of_ble_eq_true rfl) (fun x602 X602 q602 => ?_)
      exact rz_zret dX10_does_605 rfl (by rw [q602.1]; rfl) (by unfold dop; rw [if_neg (by omega), if_neg (by omega), if_neg (by omega), if_neg (by omega), if_neg (by omega), if_pos e434, if_neg g585]; exact oc_no' (by decide) q602.1 rfl q602.2)
  · refine zw_top (y := nI 20) (congrArg nI e434) ?_
    refine zw_tabIn 628 dX10_does_434 (by decide) (by decide) rfl (by decide) ?_
    refine zw_aload_n dX10_does_628 rfl rfl ?_
    refine zw_iload_n dX10_does_629 rfl rfl ?_
    refine zw_iload_n dX10_does_630 rfl rfl ?_
    refine zw_iload dX10_does_631 rfl ?_
    refine zw_iload dX10_does_633 rfl ?_
    refine rz_callV hz dX10_does_635 eX10_does_635 (c_calls hz S p hp hk hs _ _ _) rfl rfl (Nat.le_of_ble_eq_true rfl) (fun x635 S635 X635 q635 => ?_)
    exact rz_zret dX10_does_638 rfl (oc_nar q635) (by unfold dop; rw [if_neg (by omega), if_neg (by omega), if_neg (by omega), if_neg (by omega), if_neg (by omega), if_neg (by omega), if_pos e434]; exact q635)
  · refine zw_top (y := nI 21) (congrArg nI e434) ?_
    refine zw_tabIn 639 dX10_does_434 (by decide) (by decide) rfl (by decide) ?_
    refine zw_aload_n dX10_does_639 rfl rfl ?_
    refine zw_iload_n dX10_does_640 rfl rfl ?_
    refine zw_iload_n dX10_does_641 rfl rfl ?_
    refine rz_callV hz dX10_does_642 eX10_does_642 (c_returns hz S p hp hk hs _) rfl rfl (Nat.le_of_ble_eq_true rfl) (fun x642 S642 X642 q642 => ?_)
    exact rz_zret dX10_does_645 rfl (oc_nar q642) (by unfold dop; rw [if_neg (by omega), if_neg (by omega), if_neg (by omega), if_neg (by omega), if_neg (by omega), if_neg (by omega), if_neg (by omega), if_pos e434]; exact q642)
  · refine zw_top (y := nI 22) (congrArg nI e434) ?_
    refine zw_tabIn 646 dX10_does_434 (by decide) (by decide) rfl (by decide) ?_
    refine zw_aload_n dX10_does_646 rfl rfl ?_
    refine rz_arr hz dX10_does_647 fX10_53 rfl ?_
    refine zw_iload_n dX10_does_650 rfl rfl ?_
    refine zw_bipush (nI 8) dX10_does_651 (by decide) ?_
    refine zw_iaddN dX10_does_653 ?_
    refine zw_aload_n dX10_does_654 rfl rfl ?_
    refine zw_iload_n dX10_does_655 rfl rfl ?_
    refine zw_aload_n dX10_does_656 rfl rfl ?_
    refine rz_intX hz dX10_does_657 fX10_139 rfl (by decide) ?_
    refine zw_aload_n dX10_does_660 rfl rfl ?_
    refine rz_intX hz dX10_does_661 fX10_133 rfl (by decide) ?_
    refine zw_aload_n dX10_does_664 rfl rfl ?_
    refine rz_intX hz dX10_does_665 fX10_136 rfl (by decide) ?_
    refine zw_iload dX10_does_668 rfl ?_
    refine zw_bipush (nI 22) dX10_does_670 (by decide) ?_
    refine zw_isub dX10_does_672 ?_
    refine zw_top (y := nI 0) (by rw [e434]; rfl) ?_
    refine rz_canE hz dX10_does_673 eX10_does_673 (c_can hz S p hp hk hs _ _ _ 0 (by omega)) rfl rfl (Nat.le_of_ble_eq_true rfl) 683 dX10_does_676 (by decide) (fun k673 => ?_) (fun k673 X2 => ?_)
    · refine zw_iconst (nI 0) dX10_does_679 (by decide) ?_
      refine zw_goto 684 dX10_does_680 (by decide) ?_
      refine rz_ast (((30 * p) + 8)) hz dX10_does_684 rfl (by decide) (by show ((30 * p) + 8) < 120; omega) rfl ?_
      refine zw_aload_n dX10_does_685 rfl rfl ?_
      refine zw_iconst (nI 0) dX10_does_686 (by decide) ?_
      refine rz_putX hz dX10_does_687 fX10_107 rfl rfl ⟨rfl, rfl⟩ (by decide) ?_
      refine zw_goto 752 dX10_does_690 (by decide) ?_
      refine zw_aload_n dX10_does_752 rfl rfl ?_
      refine rz_arr hz dX10_does_753 fX10_53 rfl ?_
      refine zw_iload_n dX10_does_756 rfl rfl ?_
      refine zw_iconst (nI 3) dX10_does_757 (by decide) ?_
      refine zw_iaddN dX10_does_758 ?_
      refine zw_iload dX10_does_759 rfl ?_
      refine zw_iconst (nI 1) dX10_does_761 (by decide) ?_
      refine zw_iadd dX10_does_762 ?_
      refine rz_ast (((30 * p) + 3)) hz dX10_does_763 rfl (by decide) (by show ((30 * p) + 3) < 120; omega) rfl ?_
      refine zw_iconst (nI 1) dX10_does_764 (by decide) ?_
      first | exact rz_zret dX10_does_765 rfl rfl (by unfold dop; rw [if_neg (by omega), if_neg (by omega), if_neg (by omega), if_neg (by omega), if_pos e434]; exact oc_ok) | exact rz_zret dX10_does_765 rfl rfl (by unfold dop; rw [if_neg (by omega), if_neg (by omega), if_neg (by omega), if_neg (by omega), if_neg (by omega), if_pos e434, if_pos g585]; exact oc_ok) | exact rz_zret dX10_does_765 rfl rfl (by unfold dop; rw [if_neg (by omega), if_neg (by omega), if_neg (by omega), if_neg (by omega), if_neg (by omega), if_neg (by omega), if_neg (by omega), if_neg (by omega), if_pos (by omega), e434, if_pos k673]; exact oc_ok) | exact rz_zret dX10_does_765 rfl rfl (by unfold dop; rw [if_neg (by omega), if_neg (by omega), if_neg (by omega), if_neg (by omega), if_neg (by omega), if_neg (by omega), if_neg (by omega), if_neg (by omega), if_pos (by omega), e434, if_neg k673]; exact oc_ok) | exact rz_zret dX10_does_765 rfl rfl (by unfold dop; rw [if_neg (by omega), if_neg (by omega), if_neg (by omega), if_neg (by omega), if_neg (by omega), if_neg (by omega), if_neg (by omega), if_neg (by omega), if_neg (by omega), if_pos e434, if_pos h694]; show oc (okO (us (us (if _ then _ else _ : ZT) _ _ _) _ _ _)) _ _ _; first | (rw [if_pos (show nI 200 ≤ S 99 23 by rw [hy.1]; exact h712)]; exact oc_ok) | (rw [if_neg (show ¬ nI 200 ≤ S 99 23 by rw [hy.1]; exact h712)]; exact oc_ok))
    · refine zw_iconst (nI 1) dX10_does_683 (by decide) ?_
      refine rz_ast (((30 * p) + 8)) hz dX10_does_684 rfl (by decide) (by show ((30 * p) + 8) < 120; omega) rfl ?_
      refine zw_aload_n dX10_does_685 rfl rfl ?_
      refine zw_iconst (nI 0) dX10_does_686 (by decide) ?_
      refine rz_putX hz dX10_does_687 fX10_107 rfl rfl ⟨rfl, rfl⟩ (by decide) ?_
      refine zw_goto 752 dX10_does_690 (by decide) ?_
      refine zw_aload_n dX10_does_752 rfl rfl ?_
      refine rz_arr hz dX10_does_753 fX10_53 rfl ?_
      refine zw_iload_n dX10_does_756 rfl rfl ?_
      refine zw_iconst (nI 3) dX10_does_757 (by decide) ?_
      refine zw_iaddN dX10_does_758 ?_
      refine zw_iload dX10_does_759 rfl ?_
      refine zw_iconst (nI 1) dX10_does_761 (by decide) ?_
      refine zw_iadd dX10_does_762 ?_
      refine rz_ast (((30 * p) + 3)) hz dX10_does_763 rfl (by decide) (by show ((30 * p) + 3) < 120; omega) rfl ?_
      refine zw_iconst (nI 1) dX10_does_764 (by decide) ?_
      first | exact rz_zret dX10_does_765 rfl rfl (by unfold dop; rw [if_neg (by omega), if_neg (by omega), if_neg (by omega), if_neg (by omega), if_pos e434]; exact oc_ok) | exact rz_zret dX10_does_765 rfl rfl (by unfold dop; rw [if_neg (by omega), if_neg (by omega), if_neg (by omega), if_neg (by omega), if_neg (by omega), if_pos e434, if_pos g585]; exact oc_ok) | exact rz_zret dX10_does_765 rfl rfl (by unfold dop; rw [if_neg (by omega), if_neg (by omega), if_neg (by omega), if_neg (by omega), if_neg (by omega), if_neg (by omega), if_neg (by omega), if_neg (by omega), if_pos (by omega), e434, if_pos k673]; exact oc_ok) | exact rz_zret dX10_does_765 rfl rfl (by unfold dop; rw [if_neg (by omega), if_neg (by omega), if_neg (by omega), if_neg (by omega), if_neg (by omega), if_neg (by omega), if_neg (by omega), if_neg (by omega), if_pos (by omega), e434, if_neg k673]; exact oc_ok) | exact rz_zret dX10_does_765 rfl rfl (by unfold dop; rw [if_neg (by omega), if_neg (by omega), if_neg (by omega), if_neg (by omega), if_neg (by omega), if_neg (by omega), if_neg (by omega), if_neg (by omega), if_neg (by omega), if_pos e434, if_pos h694]; show oc (okO (us (us (if _ then _ else _ : ZT) _ _ _) _ _ _)) _ _ _; first | (rw [if_pos (show nI 200 ≤ S 99 23 by rw [hy.1]; exact h712)]; exact oc_ok) | (rw [if_neg (show ¬ nI 200 ≤ S 99 23 by rw [hy.1]; exact h712)]; exact oc_ok))
  · refine zw_top (y := nI 23) (congrArg nI e434) ?_
    refine zw_tabIn 646 dX10_does_434 (by decide) (by decide) rfl (by decide) ?_
    refine zw_aload_n dX10_does_646 rfl rfl ?_
    refine rz_arr hz dX10_does_647 fX10_53 rfl ?_
    refine zw_iload_n dX10_does_650 rfl rfl ?_
    refine zw_bipush (nI 8) dX10_does_651 (by decide) ?_
    refine zw_iaddN dX10_does_653 ?_
    refine zw_aload_n dX10_does_654 rfl rfl ?_
    refine zw_iload_n dX10_does_655 rfl rfl ?_
    refine zw_aload_n dX10_does_656 rfl rfl ?_
    refine rz_intX hz dX10_does_657 fX10_139 rfl (by decide) ?_
    refine zw_aload_n dX10_does_660 rfl rfl ?_
    refine rz_intX hz dX10_does_661 fX10_133 rfl (by decide) ?_
    refine zw_aload_n dX10_does_664 rfl rfl ?_
    refine rz_intX hz dX10_does_665 fX10_136 rfl (by decide) ?_
    refine zw_iload dX10_does_668 rfl ?_
    refine zw_bipush (nI 22) dX10_does_670 (by decide) ?_
    refine zw_isub dX10_does_672 ?_
    refine zw_top (y := nI 1) (by rw [e434]; rfl) ?_
    refine rz_canE hz dX10_does_673 eX10_does_673 (c_can hz S p hp hk hs _ _ _ 1 (by omega)) rfl rfl (Nat.le_of_ble_eq_true rfl) 683 dX10_does_676 (by decide) (fun k673 => ?_) (fun k673 X2 => ?_)
    · refine zw_iconst (nI 0) dX10_does_679 (by decide) ?_
      refine zw_goto 684 dX10_does_680 (by decide) ?_
      refine rz_ast (((30 * p) + 8)) hz dX10_does_684 rfl (by decide) (by show ((30 * p) + 8) < 120; omega) rfl ?_
      refine zw_aload_n dX10_does_685 rfl rfl ?_
      refine zw_iconst (nI 0) dX10_does_686 (by decide) ?_
      refine rz_putX hz dX10_does_687 fX10_107 rfl rfl ⟨rfl, rfl⟩ (by decide) ?_
      refine zw_goto 752 dX10_does_690 (by decide) ?_
      refine zw_aload_n dX10_does_752 rfl rfl ?_
      refine rz_arr hz dX10_does_753 fX10_53 rfl ?_
      refine zw_iload_n dX10_does_756 rfl rfl ?_
      refine zw_iconst (nI 3) dX10_does_757 (by decide) ?_
      refine zw_iaddN dX10_does_758 ?_
      refine zw_iload dX10_does_759 rfl ?_
      refine zw_iconst (nI 1) dX10_does_761 (by decide) ?_
      refine zw_iadd dX10_does_762 ?_
      refine rz_ast (((30 * p) + 3)) hz dX10_does_763 rfl (by decide) (by show ((30 * p) + 3) < 120; omega) rfl ?_
      refine zw_iconst (nI 1) dX10_does_764 (by decide) ?_
      first | exact rz_zret dX10_does_765 rfl rfl (by unfold dop; rw [if_neg (by omega), if_neg (by omega), if_neg (by omega), if_neg (by omega), if_pos e434]; exact oc_ok) | exact rz_zret dX10_does_765 rfl rfl (by unfold dop; rw [if_neg (by omega), if_neg (by omega), if_neg (by omega), if_neg (by omega), if_neg (by omega), if_pos e434, if_pos g585]; exact oc_ok) | exact rz_zret dX10_does_765 rfl rfl (by unfold dop; rw [if_neg (by omega), if_neg (by omega), if_neg (by omega), if_neg (by omega), if_neg (by omega), if_neg (by omega), if_neg (by omega), if_neg (by omega), if_pos (by omega), e434, if_pos k673]; exact oc_ok) | exact rz_zret dX10_does_765 rfl rfl (by unfold dop; rw [if_neg (by omega), if_neg (by omega), if_neg (by omega), if_neg (by omega), if_neg (by omega), if_neg (by omega), if_neg (by omega), if_neg (by omega), if_pos (by omega), e434, if_neg k673]; exact oc_ok) | exact rz_zret dX10_does_765 rfl rfl (by unfold dop; rw [if_neg (by omega), if_neg (by omega), if_neg (by omega), if_neg (by omega), if_neg (by omega), if_neg (by omega), if_neg (by omega), if_neg (by omega), if_neg (by omega), if_pos e434, if_pos h694]; show oc (okO (us (us (if _ then _ else _ : ZT) _ _ _) _ _ _)) _ _ _; first | (rw [if_pos (show nI 200 ≤ S 99 23 by rw [hy.1]; exact h712)]; exact oc_ok) | (rw [if_neg (show ¬ nI 200 ≤ S 99 23 by rw [hy.1]; exact h712)]; exact oc_ok))
    · refine zw_iconst (nI 1) dX10_does_683 (by decide) ?_
      refine rz_ast (((30 * p) + 8)) hz dX10_does_684 rfl (by decide) (by show ((30 * p) + 8) < 120; omega) rfl ?_
      refine zw_aload_n dX10_does_685 rfl rfl ?_
      refine zw_iconst (nI 0) dX10_does_686 (by decide) ?_
      refine rz_putX hz dX10_does_687 fX10_107 rfl rfl ⟨rfl, rfl⟩ (by decide) ?_
      refine zw_goto 752 dX10_does_690 (by decide) ?_
      refine zw_aload_n dX10_does_752 rfl rfl ?_
      refine rz_arr hz dX10_does_753 fX10_53 rfl ?_
      refine zw_iload_n dX10_does_756 rfl rfl ?_
      refine zw_iconst (nI 3) dX10_does_757 (by decide) ?_
      refine zw_iaddN dX10_does_758 ?_
      refine zw_iload dX10_does_759 rfl ?_
      refine zw_iconst (nI 1) dX10_does_761 (by decide) ?_
      refine zw_iadd dX10_does_762 ?_
      refine rz_ast (((30 * p) + 3)) hz dX10_does_763 rfl (by decide) (by show ((30 * p) + 3) < 120; omega) rfl ?_
      refine zw_iconst (nI 1) dX10_does_764 (by decide) ?_
      first | exact rz_zret dX10_does_765 rfl rfl (by unfold dop; rw [if_neg (by omega), if_neg (by omega), if_neg (by omega), if_neg (by omega), if_pos e434]; exact oc_ok) | exact rz_zret dX10_does_765 rfl rfl (by unfold dop; rw [if_neg (by omega), if_neg (by omega), if_neg (by omega), if_neg (by omega), if_neg (by omega), if_pos e434, if_pos g585]; exact oc_ok) | exact rz_zret dX10_does_765 rfl rfl (by unfold dop; rw [if_neg (by omega), if_neg (by omega), if_neg (by omega), if_neg (by omega), if_neg (by omega), if_neg (by omega), if_neg (by omega), if_neg (by omega), if_pos (by omega), e434, if_pos k673]; exact oc_ok) | exact rz_zret dX10_does_765 rfl rfl (by unfold dop; rw [if_neg (by omega), if_neg (by omega), if_neg (by omega), if_neg (by omega), if_neg (by omega), if_neg (by omega), if_neg (by omega), if_neg (by omega), if_pos (by omega), e434, if_neg k673]; exact oc_ok) | exact rz_zret dX10_does_765 rfl rfl (by unfold dop; rw [if_neg (by omega), if_neg (by omega), if_neg (by omega), if_neg (by omega), if_neg (by omega), if_neg (by omega), if_neg (by omega), if_neg (by omega), if_neg (by omega), if_pos e434, if_pos h694]; show oc (okO (us (us (if _ then _ else _ : ZT) _ _ _) _ _ _)) _ _ _; first | (rw [if_pos (show nI 200 ≤ S 99 23 by rw [hy.1]; exact h712)]; exact oc_ok) | (rw [if_neg (show ¬ nI 200 ≤ S 99 23 by rw [hy.1]; exact h712)]; exact oc_ok))
  · refine zw_top (y := nI 24) (congrArg nI e434) ?_
    refine zw_tabIn 693 dX10_does_434 (by decide) (by decide) rfl (by decide) ?_
    refine zw_iload_n dX10_does_693 rfl rfl ?_
    refine zw_if_eq 705 dX10_does_694 (by decide) (fun h694 => ?_) (fun h694 => ?_)
    · refine zw_aload_n dX10_does_705 rfl rfl ?_
      refine rz_int hz dX10_does_706 fX10_185 rfl (by decide) ?_
      refine zw_top hy.1 ?_
      refine zw_sipush (nI 200) dX10_does_709 (by decide) ?_
      refine zw_icmp_ge 732 dX10_does_712 (by decide) (fun h712 => ?_) (fun h712 => ?_)
      · have g712 : 200 ≤ (zn (S 99 23)) := (nI_leI (by omega) (by omega)).mp h712
        refine zw_aload_n dX10_does_732 rfl rfl ?_
        refine zw_dup dX10_does_733 ?_
        refine rz_int hz dX10_does_734 fX10_185 rfl (by decide) ?_
        refine zw_iconst (nI 1) dX10_does_737 (by decide) ?_
        refine zw_iadd dX10_does_738 ?_
        refine rz_put hz dX10_does_739 fX10_185 rfl rfl ⟨rfl, rfl⟩ (by decide) ?_
        refine zw_goto 752 dX10_does_742 (by decide) ?_
        refine zw_aload_n dX10_does_752 rfl rfl ?_
        refine rz_arr hz dX10_does_753 fX10_53 rfl ?_
        refine zw_iload_n dX10_does_756 rfl rfl ?_
        refine zw_iconst (nI 3) dX10_does_757 (by decide) ?_
        refine zw_iaddN dX10_does_758 ?_
        refine zw_iload dX10_does_759 rfl ?_
        refine zw_iconst (nI 1) dX10_does_761 (by decide) ?_
        refine zw_iadd dX10_does_762 ?_
        refine rz_ast (((30 * p) + 3)) hz dX10_does_763 rfl (by decide) (by show ((30 * p) + 3) < 120; omega) rfl ?_
        refine zw_iconst (nI 1) dX10_does_764 (by decide) ?_
        first | exact rz_zret dX10_does_765 rfl rfl (by unfold dop; rw [if_neg (by omega), if_neg (by omega), if_neg (by omega), if_neg (by omega), if_pos e434]; exact oc_ok) | exact rz_zret dX10_does_765 rfl rfl (by unfold dop; rw [if_neg (by omega), if_neg (by omega), if_neg (by omega), if_neg (by omega), if_neg (by omega), if_pos e434, if_pos g585]; exact oc_ok) | exact rz_zret dX10_does_765 rfl rfl (by unfold dop; rw [if_neg (by omega), if_neg (by omega), if_neg (by omega), if_neg (by omega), if_neg (by omega), if_neg (by omega), if_neg (by omega), if_neg (by omega), if_pos (by omega), e434, if_pos k673]; exact oc_ok) | exact rz_zret dX10_does_765 rfl rfl (by unfold dop; rw [if_neg (by omega), if_neg (by omega), if_neg (by omega), if_neg (by omega), if_neg (by omega), if_neg (by omega), if_neg (by omega), if_neg (by omega), if_pos (by omega), e434, if_neg k673]; exact oc_ok) | exact rz_zret dX10_does_765 rfl rfl (by unfold dop; rw [if_neg (by omega), if_neg (by omega), if_neg (by omega), if_neg (by omega), if_neg (by omega), if_neg (by omega), if_neg (by omega), if_neg (by omega), if_neg (by omega), if_pos e434, if_pos h694]; show oc (okO (us (us (if _ then _ else _ : ZT) _ _ _) _ _ _)) _ _ _; first | (rw [if_pos (show nI 200 ≤ S 99 23 by rw [hy.1]; exact h712)]; exact oc_ok) | (rw [if_neg (show ¬ nI 200 ≤ S 99 23 by rw [hy.1]; exact h712)]; exact oc_ok))
      · have g712 : ¬ (200 ≤ (zn (S 99 23))) := fun z => h712 ((nI_leI (by omega) (by omega)).mpr z)
        refine zw_aload_n dX10_does_715 rfl rfl ?_
        refine rz_arr hz dX10_does_716 fX10_74 rfl ?_
        refine zw_aload_n dX10_does_719 rfl rfl ?_
        refine rz_int hz dX10_does_720 fX10_185 rfl (by decide) ?_
        refine zw_top hy.1 ?_
        refine zw_aload_n dX10_does_723 rfl rfl ?_
        refine rz_arr hz dX10_does_724 fX10_53 rfl ?_
        refine zw_iload_n dX10_does_727 rfl rfl ?_
        refine zw_iconst (nI 4) dX10_does_728 (by decide) ?_
        refine zw_iaddN dX10_does_729 ?_
        refine rz_ald (((30 * p) + 4)) hz dX10_does_730 rfl (by decide) (by show ((30 * p) + 4) < 120; omega) rfl ?_
        refine rz_ast ((zn (S 99 23))) hz dX10_does_731 rfl (by decide) (by show (zn (S 99 23)) < 200; omega) rfl ?_
        refine zw_aload_n dX10_does_732 rfl rfl ?_
        refine zw_dup dX10_does_733 ?_
        refine rz_int hz dX10_does_734 fX10_185 rfl (by decide) ?_
        refine zw_iconst (nI 1) dX10_does_737 (by decide) ?_
        refine zw_iadd dX10_does_738 ?_
        refine rz_put hz dX10_does_739 fX10_185 rfl rfl ⟨rfl, rfl⟩ (by decide) ?_
        refine zw_goto 752 dX10_does_742 (by decide) ?_
        refine zw_aload_n dX10_does_752 rfl rfl ?_
        refine rz_arr hz dX10_does_753 fX10_53 rfl ?_
        refine zw_iload_n dX10_does_756 rfl rfl ?_
        refine zw_iconst (nI 3) dX10_does_757 (by decide) ?_
        refine zw_iaddN dX10_does_758 ?_
        refine zw_iload dX10_does_759 rfl ?_
        refine zw_iconst (nI 1) dX10_does_761 (by decide) ?_
        refine zw_iadd dX10_does_762 ?_
        refine rz_ast (((30 * p) + 3)) hz dX10_does_763 rfl (by decide) (by show ((30 * p) + 3) < 120; omega) rfl ?_
        refine zw_iconst (nI 1) dX10_does_764 (by decide) ?_
        first | exact rz_zret dX10_does_765 rfl rfl (by unfold dop; rw [if_neg (by omega), if_neg (by omega), if_neg (by omega), if_neg (by omega), if_pos e434]; exact oc_ok) | exact rz_zret dX10_does_765 rfl rfl (by unfold dop; rw [if_neg (by omega), if_neg (by omega), if_neg (by omega), if_neg (by omega), if_neg (by omega), if_pos e434, if_pos g585]; exact oc_ok) | exact rz_zret dX10_does_765 rfl rfl (by unfold dop; rw [if_neg (by omega), if_neg (by omega), if_neg (by omega), if_neg (by omega), if_neg (by omega), if_neg (by omega), if_neg (by omega), if_neg (by omega), if_pos (by omega), e434, if_pos k673]; exact oc_ok) | exact rz_zret dX10_does_765 rfl rfl (by unfold dop; rw [if_neg (by omega), if_neg (by omega), if_neg (by omega), if_neg (by omega), if_neg (by omega), if_neg (by omega), if_neg (by omega), if_neg (by omega), if_pos (by omega), e434, if_neg k673]; exact oc_ok) | exact rz_zret dX10_does_765 rfl rfl (by unfold dop; rw [if_neg (by omega), if_neg (by omega), if_neg (by omega), if_neg (by omega), if_neg (by omega), if_neg (by omega), if_neg (by omega), if_neg (by omega), if_neg (by omega), if_pos e434, if_pos h694]; show oc (okO (us (us (if _ then _ else _ : ZT) _ _ _) _ _ _)) _ _ _; first | (rw [if_pos (show nI 200 ≤ S 99 23 by rw [hy.1]; exact h712)]; exact oc_ok) | (rw [if_neg (show ¬ nI 200 ≤ S 99 23 by rw [hy.1]; exact h712)]; exact oc_ok))
    · refine zw_aload_n dX10_does_697 rfl rfl ?_
      refine zw_iload_n dX10_does_698 rfl rfl ?_
      refine zw_bipush (nI 14) dX10_does_699 (by decide) ?_
      refine rz_callX hz dX10_does_701 eX10_does_701 (c_failsHere hz S p hp _) rfl rfl (Nat.le_of_ble_eq_true rfl) (fun x701 X701 q701 => ?_)
      exact rz_zret dX10_does_704 rfl (by rw [q701.1]; rfl) (by unfold dop here; rw [if_neg (by omega), if_neg (by omega), if_neg (by omega), if_neg (by omega), if_neg (by omega), if_neg (by omega), if_neg (by omega), if_neg (by omega), if_neg (by omega), if_pos e434, if_neg h694]; exact oc_no' (by decide) q701.1 rfl q701.2)
  · refine zw_top (y := nI 25) (congrArg nI e434) ?_
    refine zw_tabOut 745 dX10_does_434 (by decide) (by decide) ?_
    refine zw_aload_n dX10_does_745 rfl rfl ?_
    refine zw_iload_n dX10_does_746 rfl rfl ?_
    refine zw_iload_n dX10_does_747 rfl rfl ?_
    refine rz_callV hz dX10_does_748 eX10_does_748 (c_resumes hz S p hp _) rfl rfl (Nat.le_of_ble_eq_true rfl) (fun x748 S748 X748 q748 => ?_)
    exact rz_zret dX10_does_751 rfl (oc_nar q748) (by unfold dop; rw [if_neg (by omega), if_neg (by omega), if_neg (by omega), if_neg (by omega), if_neg (by omega), if_neg (by omega), if_neg (by omega), if_neg (by omega), if_neg (by omega), if_neg (by omega)]; exact q748)
set_option maxHeartbeats 4000000 in
set_option maxRecDepth 100000 in
theorem l_does132 {G : ZG} {Sh : ZS} {P : ZP} {C : ZI} {X : ZX} (hz : zr_sh Sh P) (S : ZT) (p : Nat) (hp : p < 4) (hk : kOK S p) (hs : sOK S) (hy : yOK S) (v ring n w : Int32) (hb : ¬ bad v) : zw G cX10_does kX10_does 0 0 132 [some (.inr (some (60, 99, 0))), some (.inl (nI p)), some (.inl (nI (30 * p))), some (.inl ring), some (.inl n), some (.inl w), some (.inl v), some (.inl (nI (oN v))), some (.inl (nI (rN v))), some (.inl (zb (mN v = 3))), none] [] Sh P (zl C S X) (rq C Sh P (oc (dop S p v ring n w (X 28) (X 29) (X 30)))) := by
  have ho32 := (f_op_n v).2
  have hr8 := (f_r_n v).2
  have hkc := hk.2.2.1
  refine zw_iload dX10_does_132 rfl ?_
  refine zw_iconst (nI 1) dX10_does_134 (by decide) ?_
  refine zw_icmp_eq 156 dX10_does_135 (by decide) (fun h135 => ?_) (fun h135 => ?_)
  · have g135 : (oN v) = 1 := (nI_eq (by omega) (by omega)).mp h135
    exact l_does156 hz S p hp hk hs hy v ring n w hb (by omega)
  · have g135 : ¬ ((oN v) = 1) := fun z => h135 ((nI_eq (by omega) (by omega)).mpr z)
    refine zw_iload dX10_does_138 rfl ?_
    refine zw_iconst (nI 3) dX10_does_140 (by decide) ?_
    refine zw_bipush (nI 9) dX10_does_141 (by decide) ?_
    refine rz_callS dX10_does_143 eX10_does_143 (c_inN _ _ _ (by omega) (by omega) (by omega)) rfl rfl (Nat.le_of_ble_eq_true rfl) (fun x143 q143 => ?_)
    subst q143
    refine zw_if_ne 156 dX10_does_146 (by decide) (fun h146 => ?_) (fun h146 => ?_)
    · have g146 := zb_ne h146
      exact l_does156 hz S p hp hk hs hy v ring n w hb (by omega)
    · have g146 := zb_eq h146
      refine zw_iload dX10_does_149 rfl ?_
      refine zw_bipush (nI 15) dX10_does_151 (by decide) ?_
      refine zw_icmp_ne 257 dX10_does_153 (by decide) (fun h153 => ?_) (fun h153 => ?_)
      · have g153 : ¬ ((oN v) = 15) := fun z => h153 ((nI_eq (by omega) (by omega)).mpr z)
        refine zw_iload dX10_does_257 rfl ?_
        refine zw_iconst (nI 2) dX10_does_259 (by decide) ?_
        refine zw_icmp_eq 277 dX10_does_260 (by decide) (fun h260 => ?_) (fun h260 => ?_)
        · have g260 : (oN v) = 2 := (nI_eq (by omega) (by omega)).mp h260
          exact l_does277 hz S p hp hk hs hy v ring n w hb (by omega)
        · have g260 : ¬ ((oN v) = 2) := fun z => h260 ((nI_eq (by omega) (by omega)).mpr z)
          refine zw_iload dX10_does_263 rfl ?_
          refine zw_bipush (nI 16) dX10_does_265 (by decide) ?_
          refine zw_icmp_eq 277 dX10_does_267 (by decide) (fun h267 => ?_) (fun h267 => ?_)
          · have g267 : (oN v) = 16 := (nI_eq (by omega) (by omega)).mp h267
            exact l_does277 hz S p hp hk hs hy v ring n w hb (by omega)
          · have g267 : ¬ ((oN v) = 16) := fun z => h267 ((nI_eq (by omega) (by omega)).mpr z)
            refine zw_iload dX10_does_270 rfl ?_
            refine zw_bipush (nI 19) dX10_does_272 (by decide) ?_
            refine zw_icmp_ne 409 dX10_does_274 (by decide) (fun h274 => ?_) (fun h274 => ?_)
            · have g274 : ¬ ((oN v) = 19) := fun z => h274 ((nI_eq (by omega) (by omega)).mpr z)
              refine zw_iload dX10_does_409 rfl ?_
              refine zw_bipush (nI 10) dX10_does_411 (by decide) ?_
              refine zw_bipush (nI 14) dX10_does_413 (by decide) ?_
              refine rz_callS dX10_does_415 eX10_does_415 (c_inN _ _ _ (by omega) (by omega) (by omega)) rfl rfl (Nat.le_of_ble_eq_true rfl) (fun x415 q415 => ?_)
              subst q415
              refine zw_if_eq 432 dX10_does_418 (by decide) (fun h418 => ?_) (fun h418 => ?_)
              · have g418 := zb_eq h418
                exact l_does434 hz S p hp hk hs hy v ring n w hb (by omega) (by omega) (by omega)
              · have g418 := zb_ne h418
                refine zw_aload_n dX10_does_421 rfl rfl ?_
                refine zw_iload_n dX10_does_422 rfl rfl ?_
                refine zw_iload dX10_does_423 rfl ?_
                refine zw_iload_n dX10_does_425 rfl rfl ?_
                refine zw_iload dX10_does_426 rfl ?_
                refine rz_callV hz dX10_does_428 eX10_does_428 (c_jumps hz S p hp hk hs (oN v) (by omega) _ _) rfl rfl (Nat.le_of_ble_eq_true rfl) (fun x428 S428 X428 q428 => ?_)
                exact rz_zret dX10_does_431 rfl (oc_nar q428) (by unfold dop; rw [if_neg (by omega), if_neg (by omega), if_pos (by omega)]; exact q428)
            · have g274 : (oN v) = 19 := (nI_eq (by omega) (by omega)).mp h274
              exact l_does277 hz S p hp hk hs hy v ring n w hb (by omega)
      · have g153 : (oN v) = 15 := (nI_eq (by omega) (by omega)).mp h153
        exact l_does156 hz S p hp hk hs hy v ring n w hb (by omega)
set_option maxHeartbeats 4000000 in
set_option maxRecDepth 100000 in
theorem l_does114 {G : ZG} {Sh : ZS} {P : ZP} {C : ZI} {X : ZX} (hz : zr_sh Sh P) (S : ZT) (p : Nat) (hp : p < 4) (hk : kOK S p) (hs : sOK S) (hy : yOK S) (v ring n w : Int32) (hb : ¬ bad v) : zw G cX10_does kX10_does 0 0 114 [some (.inr (some (60, 99, 0))), some (.inl (nI p)), some (.inl (nI (30 * p))), some (.inl ring), some (.inl n), some (.inl w), some (.inl v), some (.inl (nI (oN v))), some (.inl (nI (rN v))), none, none] [] Sh P (zl C S X) (rq C Sh P (oc (dop S p v ring n w (X 28) (X 29) (X 30)))) := by
  have ho32 := (f_op_n v).2
  have hr8 := (f_r_n v).2
  have hkc := hk.2.2.1
  have hm4 := (f_md_n v).2
  refine zw_iload dX10_does_114 rfl ?_
  refine zw_bipush (nI 24) dX10_does_116 (by decide) ?_
  refine zw_ishr dX10_does_118 ?_
  refine zw_iconst (nI 3) dX10_does_119 (by decide) ?_
  refine zw_iand dX10_does_120 ?_
  refine zw_top (y := nI (mN v)) (f_md_n v).1 ?_
  refine zw_iconst (nI 3) dX10_does_121 (by decide) ?_
  refine zw_icmp_ne 129 dX10_does_122 (by decide) (fun h122 => ?_) (fun h122 => ?_)
  · have g122 : ¬ ((mN v) = 3) := fun z => h122 ((nI_eq (by omega) (by omega)).mpr z)
    refine zw_iconst (nI 0) dX10_does_129 (by decide) ?_
    refine zw_top (y := zb (mN v = 3)) (by first | exact (zb_t g122).symm | exact (zb_f g122).symm) ?_
    refine zw_istore dX10_does_130 (by decide) ?_
    exact l_does132 hz S p hp hk hs hy v ring n w hb
  · have g122 : (mN v) = 3 := (nI_eq (by omega) (by omega)).mp h122
    refine zw_iconst (nI 1) dX10_does_125 (by decide) ?_
    refine zw_goto 130 dX10_does_126 (by decide) ?_
    refine zw_top (y := zb (mN v = 3)) (by first | exact (zb_t g122).symm | exact (zb_f g122).symm) ?_
    refine zw_istore dX10_does_130 (by decide) ?_
    exact l_does132 hz S p hp hk hs hy v ring n w hb
theorem rz_adr {G : ZG} {cc : ByteArray} {K : ZK} {bc bs pc : Nat} {L : List (Option Zv)} {st : List Zv} {Sh : ZS} {P : ZP} {C : ZI} {S : ZT} {X : ZX} {Q : ZQ} {idx n0 p : Nat} {v : Int32} {cc' : ByteArray} {K' : ZK} {As stk : List Zv} {off : Int} (hz : zr_sh Sh P) (hd : decode cc pc = .ok (.invokevirtual idx, 3)) (hw : zt_cV K idx cc' K' n0 10) (hC : rc G cc' K' Sh P C S X As (adP S p v)) (hstk : stk = As.reverse ++ .inr (some (60, 99, 0)) :: st) (hn : As.length = n0) (h8 : st.length ≤ 8) (tgt : Nat) (hd2 : decode cc (pc + 3) = .ok (.ifCond .ne off, 3)) (ht : ((pc + 3 : Nat) : Int) + off = (tgt : Int))
    (kk1 : (adr S p v).2.1 = 0 → ∀ X2 : ZX, X2 28 = (adr S p v).2.2.1 → (mN v ≠ 3 → X2 29 = (adr S p v).2.2.2.1) → X2 30 = (adr S p v).2.2.2.2 → zw G cc K bc bs tgt L st Sh P (zl C (adr S p v).1 X2) Q)
    (kk2 : ¬ (adr S p v).2.1 = 0 → ∀ X2 : ZX, X2 24 = nI (adr S p v).2.1 → X2 25 = (adr S p v).2.2.1 → X2 26 = (adr S p v).2.2.2.1 → X2 27 = (adr S p v).2.2.2.2 → zw G cc K bc bs (pc + 6) L st Sh P (zl C (adr S p v).1 X2) Q) : zw G cc K bc bs pc L stk Sh P (zl C S X) Q := by
  refine rz_callV hz hd hw hC hstk hn h8 (fun x S2 X2 h => ?_)
  obtain ⟨e0, qa, qb⟩ := h
  rw [e0]
  by_cases hc : (adr S p v).2.1 = 0
  · obtain ⟨e1, e2, e3, e4⟩ := qa hc
    rw [e1]
    exact zw_if_ne tgt hd2 ht (fun _ => kk1 hc X2 e2 e3 e4) (fun z => absurd z (by decide))
  · obtain ⟨e1, e2, e3, e4, e5⟩ := qb hc
    rw [e1]
    exact zw_if_ne tgt hd2 ht (fun z => absurd rfl z) (fun _ => kk2 hc X2 e2 e3 e4 e5)
set_option maxHeartbeats 4000000 in
set_option maxRecDepth 100000 in
theorem c_does {G : ZG} {Sh : ZS} {P : ZP} {C : ZI} {X : ZX} (hz : zr_sh Sh P) (S : ZT) (p : Nat) (hp : p < 4) (hk : kOK S p) (hs : sOK S) (hd : ∀ s, s < 32 → dOK S s) (hr : rOK S p) (hy : yOK S) : rc G cX10_does kX10_does Sh P C S X [.inl (nI p)] (oc (doS S p)) := by
  refine zw_C.of (by decide) rfl (Nat.le_of_ble_eq_true rfl) ?_
  show zw G cX10_does kX10_does 0 0 0 [some (.inr (some (60, 99, 0))), some (.inl (nI p)), none, none, none, none, none, none, none, none, none] [] Sh P (zl C S X) _
  have hkc := hk.2.2.1
  refine zw_bipush (nI 30) dX10_does_0 (by decide) ?_
  refine zw_iload_n dX10_does_2 rfl rfl ?_
  refine zw_imulN dX10_does_3 ?_
  refine zw_istore_n dX10_does_4 rfl (by decide) ?_
  dsimp only [List.set]
  refine zw_aload_n dX10_does_5 rfl rfl ?_
  refine rz_arr hz dX10_does_6 fX10_53 rfl ?_
  refine zw_iload_n dX10_does_9 rfl rfl ?_
  refine zw_iconst (nI 1) dX10_does_10 (by decide) ?_
  refine zw_iaddN dX10_does_11 ?_
  refine rz_ald (((30 * p) + 1)) hz dX10_does_12 rfl (by decide) (by show ((30 * p) + 1) < 120; omega) rfl ?_
  refine zw_istore_n dX10_does_13 rfl (by decide) ?_
  dsimp only [List.set]
  refine zw_aload_n dX10_does_14 rfl rfl ?_
  refine rz_arr hz dX10_does_15 fX10_53 rfl ?_
  refine zw_iload_n dX10_does_18 rfl rfl ?_
  refine zw_iconst (nI 2) dX10_does_19 (by decide) ?_
  refine zw_iaddN dX10_does_20 ?_
  refine rz_ald (((30 * p) + 2)) hz dX10_does_21 rfl (by decide) (by show ((30 * p) + 2) < 120; omega) rfl ?_
  refine zw_istore dX10_does_22 (by decide) ?_
  dsimp only [List.set]
  refine zw_aload_n dX10_does_24 rfl rfl ?_
  refine rz_arr hz dX10_does_25 fX10_53 rfl ?_
  refine zw_iload_n dX10_does_28 rfl rfl ?_
  refine zw_iconst (nI 3) dX10_does_29 (by decide) ?_
  refine zw_iaddN dX10_does_30 ?_
  refine rz_ald (((30 * p) + 3)) hz dX10_does_31 rfl (by decide) (by show ((30 * p) + 3) < 120; omega) rfl ?_
  refine zw_istore dX10_does_32 (by decide) ?_
  dsimp only [List.set]
  refine zw_aload_n dX10_does_34 rfl rfl ?_
  refine zw_iload_n dX10_does_35 rfl rfl ?_
  refine zw_iload_n dX10_does_36 rfl rfl ?_
  refine zw_iload dX10_does_37 rfl ?_
  refine zw_iload dX10_does_39 rfl ?_
  refine zw_iconst (nI 2) dX10_does_41 (by decide) ?_
  refine rz_can hz dX10_does_42 eX10_does_42 (c_can hz S p hp hk hs _ _ _ 2 (by omega)) rfl rfl (Nat.le_of_ble_eq_true rfl) 50 dX10_does_45 (by decide) (fun k42 => ?_) (fun k42 => ?_)
  · have hc3 := canK_0' k42
    have hn1 := zin_zn hc3.1 (by omega)
    have hsz := sz_le hk hs hn1.1
    have hw1 := zin_zn hc3.2.1 (by omega)
    have ho32 := (f_op_n (getW S p (zn (S 15 (30 * p + 2))) (zn (S 15 (30 * p + 3))))).2
    refine zw_aload_n dX10_does_50 rfl rfl ?_
    refine zw_iload_n dX10_does_51 rfl rfl ?_
    refine zw_iload dX10_does_52 rfl ?_
    refine zw_top hn1.2 ?_
    refine zw_iload dX10_does_54 rfl ?_
    refine zw_top hw1.2 ?_
    refine rz_callP hz dX10_does_56 eX10_does_56 (c_get hz S p hp hk hs _ hn1.1 _ hw1.1) rfl rfl (Nat.le_of_ble_eq_true rfl) (fun x56 q56 => ?_)
    subst q56
    refine zw_istore dX10_does_59 (by decide) ?_
    dsimp only [List.set]
    refine zw_iload dX10_does_61 rfl ?_
    refine rz_callS dX10_does_63 eX10_does_63 (c_isNone _) rfl rfl (Nat.le_of_ble_eq_true rfl) (fun x63 q63 => ?_)
    subst q63
    refine zw_if_eq 77 dX10_does_66 (by decide) (fun h66 => ?_) (fun h66 => ?_)
    · have g66 := zb_eq h66
      refine zw_iload dX10_does_77 rfl ?_
      refine zw_bipush (nI 27) dX10_does_79 (by decide) ?_
      refine zw_iushr dX10_does_81 ?_
      refine zw_top (y := nI (oN (getW S p (zn (S 15 (30 * p + 2))) (zn (S 15 (30 * p + 3)))))) (f_op_n _).1 ?_
      refine zw_istore dX10_does_82 (by decide) ?_
      dsimp only [List.set]
      refine zw_iload dX10_does_84 rfl ?_
      refine zw_bipush (nI 16) dX10_does_86 (by decide) ?_
      refine zw_ishr dX10_does_88 ?_
      refine zw_bipush (nI 7) dX10_does_89 (by decide) ?_
      refine zw_iand dX10_does_91 ?_
      refine zw_top (y := nI (rN (getW S p (zn (S 15 (30 * p + 2))) (zn (S 15 (30 * p + 3)))))) (f_r_n _).1 ?_
      refine zw_istore dX10_does_92 (by decide) ?_
      dsimp only [List.set]
      refine zw_iload dX10_does_94 rfl ?_
      refine rz_callS dX10_does_96 eX10_does_96 (c_hasAddress _ ho32) rfl rfl (Nat.le_of_ble_eq_true rfl) (fun x96 q96 => ?_)
      subst q96
      refine zw_if_eq 114 dX10_does_99 (by decide) (fun h99 => ?_) (fun h99 => ?_)
      · have g99 := zb_eq h99
        first
          | (have ed : doS S p = dop S p (getW S p (zn (S 15 (30 * p + 2))) (zn (S 15 (30 * p + 3)))) (S 15 (30 * p + 1)) (S 15 (30 * p + 2)) (S 15 (30 * p + 3)) 0 0 0 := by unfold doS; rw [if_pos k42]; show (if _ then _ else _) = _; rw [if_neg g66, if_neg g99]
             rw [ed, ← dop_none (e := X 28) (num := X 29) (wh := X 30) (by omega)]
             exact l_does114 hz S p hp hk hs hy _ _ _ _ g66)
          | (have ed : doS S p = dop (adr S p (getW S p (zn (S 15 (30 * p + 2))) (zn (S 15 (30 * p + 3))))).1 p (getW S p (zn (S 15 (30 * p + 2))) (zn (S 15 (30 * p + 3)))) (S 15 (30 * p + 1)) (S 15 (30 * p + 2)) (S 15 (30 * p + 3)) (X2 28) (X2 29) (X2 30) := by
               unfold doS; rw [if_pos k42]; show (if _ then _ else _) = _; rw [if_neg g66, if_pos g99, if_pos ka, ← a1, ← a3]
               by_cases hm : mN (getW S p (zn (S 15 (30 * p + 2))) (zn (S 15 (30 * p + 3)))) = 3
               · exact dop_m3 hm g99.1 g99.2 g66
               · rw [← a2 hm]
             rw [ed]
             exact l_does114 hz _ p hp (adr_ok hk hs hr hk).1 (adr_ok hk hs hr hk).2 (adr_y hy) _ _ _ _ g66)
      · have g99 := zb_ne h99
        refine zw_aload_n dX10_does_102 rfl rfl ?_
        refine zw_iload_n dX10_does_103 rfl rfl ?_
        refine zw_iload dX10_does_104 rfl ?_
        refine rz_adr hz dX10_does_106 eX10_does_106 (c_address hz S p hp hk hs hd hr _ hn1.2 hn1.1 _) rfl rfl (Nat.le_of_ble_eq_true rfl) 114 dX10_does_109 (by decide) (fun ka X2 a1 a2 a3 => ?_) (fun ka X2 a1 a2 a3 a4 => ?_)
        · first
            | (have ed : doS S p = dop S p (getW S p (zn (S 15 (30 * p + 2))) (zn (S 15 (30 * p + 3)))) (S 15 (30 * p + 1)) (S 15 (30 * p + 2)) (S 15 (30 * p + 3)) 0 0 0 := by unfold doS; rw [if_pos k42]; show (if _ then _ else _) = _; rw [if_neg g66, if_neg g99]
               rw [ed, ← dop_none (e := X 28) (num := X 29) (wh := X 30) (by omega)]
               exact l_does114 hz S p hp hk hs hy _ _ _ _ g66)
            | (have ed : doS S p = dop (adr S p (getW S p (zn (S 15 (30 * p + 2))) (zn (S 15 (30 * p + 3))))).1 p (getW S p (zn (S 15 (30 * p + 2))) (zn (S 15 (30 * p + 3)))) (S 15 (30 * p + 1)) (S 15 (30 * p + 2)) (S 15 (30 * p + 3)) (X2 28) (X2 29) (X2 30) := by
                 unfold doS; rw [if_pos k42]; show (if _ then _ else _) = _; rw [if_neg g66, if_pos g99, if_pos ka, ← a1, ← a3]
                 by_cases hm : mN (getW S p (zn (S 15 (30 * p + 2))) (zn (S 15 (30 * p + 3)))) = 3
                 · exact dop_m3 hm g99.1 g99.2 g66
                 · rw [← a2 hm]
               rw [ed]
               exact l_does114 hz _ p hp (adr_ok hk hs hr hk).1 (adr_ok hk hs hr hk).2 (adr_y hy) _ _ _ _ g66)
        · refine zw_iconst (nI 0) dX10_does_112 (by decide) ?_
          have ed : doS S p = adr S p (getW S p (zn (S 15 (30 * p + 2))) (zn (S 15 (30 * p + 3)))) := by unfold doS; rw [if_pos k42]; show (if _ then _ else _) = _; rw [if_neg g66, if_pos g99, if_neg ka]
          exact rz_zret dX10_does_113 rfl rfl (by rw [ed]; exact ⟨rfl, fun z => absurd z ka, fun _ => ⟨rfl, a1, a2, a3, a4⟩⟩)
    · have g66 := zb_ne h66
      refine zw_aload_n dX10_does_69 rfl rfl ?_
      refine zw_iload_n dX10_does_70 rfl rfl ?_
      refine zw_bipush (nI 13) dX10_does_71 (by decide) ?_
      refine rz_callX hz dX10_does_73 eX10_does_73 (c_failsHere hz S p hp _) rfl rfl (Nat.le_of_ble_eq_true rfl) (fun x73 X73 q73 => ?_)
      exact rz_zret dX10_does_76 rfl (by rw [q73.1]; rfl) (by unfold doS; rw [if_pos k42]; show oc (if _ then _ else _) _ _ _; rw [if_pos g66]; exact oc_no' (by decide) q73.1 rfl q73.2)
  · refine zw_iconst (nI 0) dX10_does_48 (by decide) ?_
    exact rz_zret dX10_does_49 rfl rfl (by unfold doS; rw [if_neg k42]; exact oc_no k42)
