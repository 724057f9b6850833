set_option maxHeartbeats 4000000 in
set_option maxRecDepth 100000 in
theorem l_lk3 {G : ZG} {Sh : ZS} {P : ZP} {C : ZI} {X : ZX} {o5 o7 o8 : Option Zv} (hz : zr_sh Sh P) (S : ZT) (p : Nat) (hp : p < 4) (n0 k i : Nat) (hi : i < 2048) : zw G cX10_linked kX10_linked 0 0 204 [some (.inr (some (60, 99, 0))), some (.inl (nI p)), some (.inl (nI k)), some (.inl (nI (30 * p))), some (.inl (nI n0)), o5, some (.inl (nI i)), o7, o8] [] Sh P (zl C S X) (rq C Sh P (lnkP S p i (nI n0) (nI k) X)) := by
  refine zw_aload_n dX10_linked_204 rfl rfl ?_
  refine rz_arr hz dX10_linked_205 fX10_65 rfl ?_
  refine zw_iload dX10_linked_208 rfl ?_
  refine rz_ald (i) hz dX10_linked_210 rfl (by decide) (by show i < 2048; omega) rfl ?_
  refine zw_if_le 238 dX10_linked_211 (by decide) (fun h211 => ?_) (fun h211 => ?_)
  · refine zw_aload_n dX10_linked_238 rfl rfl ?_
    refine zw_bipush (nI 12) dX10_linked_239 (by decide) ?_
    refine zw_aload_n dX10_linked_241 rfl rfl ?_
    refine rz_arr hz dX10_linked_242 fX10_53 rfl ?_
    refine zw_iload_n dX10_linked_245 rfl rfl ?_
    refine zw_iconst (nI 1) dX10_linked_246 (by decide) ?_
    refine zw_iaddN dX10_linked_247 ?_
    refine rz_ald (((30 * p) + 1)) hz dX10_linked_248 rfl (by decide) (by show ((30 * p) + 1) < 120; omega) rfl ?_
    refine zw_iload dX10_linked_249 rfl ?_
    refine zw_iload_n dX10_linked_251 rfl rfl ?_
    refine rz_callX hz dX10_linked_252 eX10_linked_252 (c_fails hz _ _ _ _ _) rfl rfl (Nat.le_of_ble_eq_true rfl) (fun x252 X252 q252 => ?_)
    exact rz_zret dX10_linked_255 rfl (by rw [q252.1]; rfl) ⟨rfl, fun z => absurd h211 (Int32.not_le.mpr z), fun _ => q252⟩
  · refine zw_aload_n dX10_linked_214 rfl rfl ?_
    refine zw_aload_n dX10_linked_215 rfl rfl ?_
    refine rz_arr hz dX10_linked_216 fX10_65 rfl ?_
    refine zw_iload dX10_linked_219 rfl ?_
    refine rz_ald (i) hz dX10_linked_221 rfl (by decide) (by show i < 2048; omega) rfl ?_
    refine rz_putX hz dX10_linked_222 fX10_133 rfl rfl ⟨rfl, rfl⟩ (by decide) ?_
    refine zw_aload_n dX10_linked_225 rfl rfl ?_
    refine zw_aload_n dX10_linked_226 rfl rfl ?_
    refine rz_arr hz dX10_linked_227 fX10_68 rfl ?_
    refine zw_iload dX10_linked_230 rfl ?_
    refine rz_ald (i) hz dX10_linked_232 rfl (by decide) (by show i < 2048; omega) rfl ?_
    refine rz_putX hz dX10_linked_233 fX10_136 rfl rfl ⟨rfl, rfl⟩ (by decide) ?_
    refine zw_iconst (nI 1) dX10_linked_236 (by decide) ?_
    exact rz_zret dX10_linked_237 rfl rfl ⟨rfl, fun _ => ⟨rfl, rfl⟩, fun z => absurd (Int32.not_le.mp h211) z⟩
set_option maxHeartbeats 4000000 in
set_option maxRecDepth 100000 in
theorem l_lk1 {G : ZG} {Sh : ZS} {P : ZP} {C : ZI} {X : ZX} {Q : ZQ} {o3 o4 o6 : Option Zv} (hz : zr_sh Sh P) (S : ZT) (p : Nat) (hp : p < 4) (hs : sOK S) (s k : Nat) (hss : s < 32) (hkk : k < 16) : ∀ (f t : Nat) (a : Int32), t + f = sg S → zw G cX10_linked kX10_linked 0 0 147 [some (.inr (some (60, 99, 0))), some (.inl (nI p)), some (.inl (nI k)), o3, o4, some (.inl (nI s)), o6, some (.inl (fndF S p (S 11 (16 * s + k)) f t a)), some (.inl (nI (sg S)))] [] Sh P (zl C S X) Q → zw G cX10_linked kX10_linked 0 0 92 [some (.inr (some (60, 99, 0))), some (.inl (nI p)), some (.inl (nI k)), o3, o4, some (.inl (nI s)), o6, some (.inl a), some (.inl (nI t))] [] Sh P (zl C S X) Q := by
  have hsg := hs.2.1
  intro f
  induction f with
  | zero =>
    intro t a hf hx
    have et : t = sg S := by omega
    rw [et]
    rw [et] at hx
    refine zw_iload dX10_linked_92 rfl ?_
    refine zw_aload_n dX10_linked_94 rfl rfl ?_
    refine rz_int hz dX10_linked_95 fX10_77 rfl (by decide) ?_
    refine zw_top hs.1 ?_
    refine zw_icmp_ge 147 dX10_linked_98 (by decide) (fun h98 => ?_) (fun h98 => ?_)
    · have g98 : (sg S) ≤ (sg S) := (nI_leI (by omega) (by omega)).mp h98
      exact hx
    · exact absurd ((nI_leI (by omega) (by omega)).mpr (by omega)) h98
  | succ f ih =>
    intro t a hf hx
    refine zw_iload dX10_linked_92 rfl ?_
    refine zw_aload_n dX10_linked_94 rfl rfl ?_
    refine rz_int hz dX10_linked_95 fX10_77 rfl (by decide) ?_
    refine zw_top hs.1 ?_
    refine zw_icmp_ge 147 dX10_linked_98 (by decide) (fun h98 => ?_) (fun h98 => ?_)
    · exact absurd ((nI_leI (by omega) (by omega)).mp h98) (by omega)
    · have g98 : ¬ ((sg S) ≤ t) := fun z => h98 ((nI_leI (by omega) (by omega)).mpr z)
      refine zw_aload_n dX10_linked_101 rfl rfl ?_
      refine rz_arr hz dX10_linked_102 fX10_7 rfl ?_
      refine zw_iload dX10_linked_105 rfl ?_
      refine rz_ald (t) hz dX10_linked_107 rfl (by decide) (by show t < 32; omega) rfl ?_
      refine zw_aload_n dX10_linked_108 rfl rfl ?_
      refine rz_arr hz dX10_linked_109 fX10_43 rfl ?_
      refine zw_bipush (nI 16) dX10_linked_112 (by decide) ?_
      refine zw_iload dX10_linked_114 rfl ?_
      refine zw_imulN dX10_linked_116 ?_
      refine zw_iload_n dX10_linked_117 rfl rfl ?_
      refine zw_iaddN dX10_linked_118 ?_
      refine rz_ald (((16 * s) + k)) hz dX10_linked_119 rfl (by decide) (by show ((16 * s) + k) < 512; omega) rfl ?_
      refine zw_icmp_ne 141 dX10_linked_120 (by decide) (fun h120 => ?_) (fun h120 => ?_)
      · have ef : fndF S p (S 11 (16 * s + k)) (f + 1) t a = fndF S p (S 11 (16 * s + k)) f (t + 1) a := by rw [fndF, if_neg (fun z => h120 z.1)]
        rw [ef] at hx
        refine zw_iinc (nI (t + 1)) dX10_linked_141 rfl (nI_1 _) (by decide) ?_
        dsimp only [List.set]
        refine zw_goto 92 dX10_linked_144 (by decide) ?_
        exact ih (t + 1) _ (by omega) hx
      · refine zw_aload_n dX10_linked_123 rfl rfl ?_
        refine rz_arr hz dX10_linked_124 fX10_28 rfl ?_
        refine zw_iconst (nI 4) dX10_linked_127 (by decide) ?_
        refine zw_iload dX10_linked_128 rfl ?_
        refine zw_imulN dX10_linked_130 ?_
        refine zw_iload_n dX10_linked_131 rfl rfl ?_
        refine zw_iaddN dX10_linked_132 ?_
        refine rz_ald (((4 * t) + p)) hz dX10_linked_133 rfl (by decide) (by show ((4 * t) + p) < 128; omega) rfl ?_
        refine zw_if_eq 141 dX10_linked_134 (by decide) (fun h134 => ?_) (fun h134 => ?_)
        · have ef : fndF S p (S 11 (16 * s + k)) (f + 1) t a = fndF S p (S 11 (16 * s + k)) f (t + 1) a := by rw [fndF, if_neg (fun z => z.2 h134)]
          rw [ef] at hx
          refine zw_iinc (nI (t + 1)) dX10_linked_141 rfl (nI_1 _) (by decide) ?_
          dsimp only [List.set]
          refine zw_goto 92 dX10_linked_144 (by decide) ?_
          exact ih (t + 1) _ (by omega) hx
        · have ef : fndF S p (S 11 (16 * s + k)) (f + 1) t a = fndF S p (S 11 (16 * s + k)) f (t + 1) (nI t) := by rw [fndF, if_pos ⟨h120, h134⟩]
          rw [ef] at hx
          refine zw_iload dX10_linked_137 rfl ?_
          refine zw_istore dX10_linked_139 (by decide) ?_
          dsimp only [List.set]
          refine zw_iinc (nI (t + 1)) dX10_linked_141 rfl (nI_1 _) (by decide) ?_
          dsimp only [List.set]
          refine zw_goto 92 dX10_linked_144 (by decide) ?_
          exact ih (t + 1) _ (by omega) hx
set_option maxHeartbeats 4000000 in
set_option maxRecDepth 100000 in
theorem l_lk2 {G : ZG} {Sh : ZS} {P : ZP} {C : ZI} {X : ZX} (hz : zr_sh Sh P) (S : ZT) (p : Nat) (hp : p < 4) (hk : kOK S p) (hs : sOK S) (hd : ∀ s, s < 32 → dOK S s) (hr : rOK S p) (n0 s k : Nat) (hss : s < 32) (hkk : k < 16) {o8 : Option Zv} (h68 : S 19 (512 * p + 16 * s + k) = 0) (h83 : ¬ S 13 (16 * s + k) = 0) : zw G cX10_linked kX10_linked 0 0 147 [some (.inr (some (60, 99, 0))), some (.inl (nI p)), some (.inl (nI k)), some (.inl (nI (30 * p))), some (.inl (nI n0)), some (.inl (nI s)), some (.inl (nI (512 * p + 16 * s + k))), some (.inl (fnd S p (S 11 (16 * s + k)))), o8] [] Sh P (zl C S X) (rq C Sh P (lnkP (lnk S p s k) p (512 * p + 16 * s + k) (nI n0) (nI k) X)) := by
  have hsg := hs.2.1
  rcases fnd_is S p (S 11 (16 * s + k)) with hu | ⟨u, hu1, hu2, hu3⟩
  · rw [hu]
    refine zw_iload dX10_linked_147 rfl ?_
    refine zw_if_ge 156 dX10_linked_149 (by decide) (fun h149 => ?_) (fun h149 => ?_)
    · exact absurd h149 (by decide)
    · refine zw_iconst (-1) dX10_linked_152 (by decide) ?_
      refine zw_goto 174 dX10_linked_153 (by decide) ?_
      refine zw_istore dX10_linked_174 (by decide) ?_
      dsimp only [List.set]
      refine zw_iload dX10_linked_176 rfl ?_
      refine zw_if_lt 204 dX10_linked_178 (by decide) (fun h178 => ?_) (fun h178 => ?_)
      · have er : lnk S p s k = S := by unfold lnk; rw [if_pos h68, if_neg h83, if_neg (by rw [hu]; decide)]
        rw [er]
        exact l_lk3 hz _ p hp n0 k _ (by omega)
      · exact absurd (by decide) h178
  · rw [hu2]
    refine zw_iload dX10_linked_147 rfl ?_
    refine zw_if_ge 156 dX10_linked_149 (by decide) (fun h149 => ?_) (fun h149 => ?_)
    · refine zw_aload_n dX10_linked_156 rfl rfl ?_
      refine zw_iload dX10_linked_157 rfl ?_
      refine zw_aload_n dX10_linked_159 rfl rfl ?_
      refine rz_arr hz dX10_linked_160 fX10_46 rfl ?_
      refine zw_bipush (nI 16) dX10_linked_163 (by decide) ?_
      refine zw_iload dX10_linked_165 rfl ?_
      refine zw_imulN dX10_linked_167 ?_
      refine zw_iload_n dX10_linked_168 rfl rfl ?_
      refine zw_iaddN dX10_linked_169 ?_
      refine rz_ald (((16 * s) + k)) hz dX10_linked_170 rfl (by decide) (by show ((16 * s) + k) < 512; omega) rfl ?_
      refine rz_callP hz dX10_linked_171 eX10_linked_171 (c_wordOf hz S u (by omega) (hd u (by omega)) _) rfl rfl (Nat.le_of_ble_eq_true rfl) (fun x171 q171 => ?_)
      subst q171
      refine zw_istore dX10_linked_174 (by decide) ?_
      dsimp only [List.set]
      refine zw_iload dX10_linked_176 rfl ?_
      refine zw_if_lt 204 dX10_linked_178 (by decide) (fun h178 => ?_) (fun h178 => ?_)
      · have er : lnk S p s k = S := by unfold lnk; rw [if_pos h68, if_neg h83, hu2, if_pos (nI_pos' (by omega)), zn_nI (by omega), if_pos h178]
        rw [er]
        exact l_lk3 hz _ p hp n0 k _ (by omega)
      · have er : lnk S p s k = us (us (lrS S p u) 19 (512 * p + 16 * s + k) (nI (lrN S p u))) 20 (512 * p + 16 * s + k) (wof S u (S 12 (16 * s + k))) := by unfold lnk; rw [if_pos h68, if_neg h83, hu2, if_pos (nI_pos' (by omega)), zn_nI (by omega), if_neg h178]
        rw [er]
        refine zw_aload_n dX10_linked_181 rfl rfl ?_
        refine rz_arr hz dX10_linked_182 fX10_65 rfl ?_
        refine zw_iload dX10_linked_185 rfl ?_
        refine zw_aload_n dX10_linked_187 rfl rfl ?_
        refine zw_iload_n dX10_linked_188 rfl rfl ?_
        refine zw_iload dX10_linked_189 rfl ?_
        refine rz_callV hz dX10_linked_191 eX10_linked_191 (c_knows hz S p hp hk u (by omega) (hr u hu1)) rfl rfl (Nat.le_of_ble_eq_true rfl) (fun x191 S191 X191 q191 => ?_)
        obtain ⟨e1, e2, e3⟩ := q191
        rw [e1, e2, e3]
        refine rz_ast ((512 * p + 16 * s + k)) hz dX10_linked_194 rfl (by decide) (by show (512 * p + 16 * s + k) < 2048; omega) rfl ?_
        refine zw_aload_n dX10_linked_195 rfl rfl ?_
        refine rz_arr hz dX10_linked_196 fX10_68 rfl ?_
        refine zw_iload dX10_linked_199 rfl ?_
        refine zw_iload dX10_linked_201 rfl ?_
        refine rz_ast ((512 * p + 16 * s + k)) hz dX10_linked_203 rfl (by decide) (by show (512 * p + 16 * s + k) < 2048; omega) rfl ?_
        exact l_lk3 hz _ p hp n0 k _ (by omega)
    · exact absurd (nI_pos' (by omega)) h149
set_option maxHeartbeats 4000000 in
set_option maxRecDepth 100000 in
theorem c_linked {G : ZG} {Sh : ZS} {P : ZP} {C : ZI} {X : ZX} (hz : zr_sh Sh P) (S : ZT) (p : Nat) (hp : p < 4) (hk : kOK S p) (hs : sOK S) (hd : ∀ s, s < 32 → dOK S s) (hr : rOK S p) (n0 : Nat) (hn0 : S 15 (30 * p + 2) = nI n0) (hn : n0 < kc S p) (k : Int32) : rc G cX10_linked kX10_linked Sh P C S X [.inl (nI p), .inl k] (fun x S' X' => (8 ≤ n0 ∧ zin k 16 → lnkP (lnk S p (kn S p n0) (zn k)) p (512 * p + 16 * kn S p n0 + zn k) (nI n0) k X x S' X') ∧ (¬ (8 ≤ n0 ∧ zin k 16) → S' = S ∧ x = 0 ∧ X' = fX X (nI 12) (S 15 (30 * p + 1)) (nI n0) k)) := by
  refine zw_C.of (by decide) rfl (Nat.le_of_ble_eq_true rfl) ?_
  show zw G cX10_linked kX10_linked 0 0 0 [some (.inr (some (60, 99, 0))), some (.inl (nI p)), some (.inl k), none, none, none, none, none, none] [] Sh P (zl C S X) _
  have hkc := hk.2.2.1
  have hsg := hs.2.1
  refine zw_bipush (nI 30) dX10_linked_0 (by decide) ?_
  refine zw_iload_n dX10_linked_2 rfl rfl ?_
  refine zw_imulN dX10_linked_3 ?_
  refine zw_istore_n dX10_linked_4 rfl (by decide) ?_
  dsimp only [List.set]
  refine zw_aload_n dX10_linked_5 rfl rfl ?_
  refine rz_arr hz dX10_linked_6 fX10_53 rfl ?_
  refine zw_iload_n dX10_linked_9 rfl rfl ?_
  refine zw_iconst (nI 2) dX10_linked_10 (by decide) ?_
  refine zw_iaddN dX10_linked_11 ?_
  refine rz_ald (((30 * p) + 2)) hz dX10_linked_12 rfl (by decide) (by show ((30 * p) + 2) < 120; omega) rfl ?_
  refine zw_top hn0 ?_
  refine zw_istore dX10_linked_13 (by decide) ?_
  dsimp only [List.set]
  refine zw_iload dX10_linked_15 rfl ?_
  refine zw_bipush (nI 8) dX10_linked_17 (by decide) ?_
  refine zw_icmp_lt 238 dX10_linked_19 (by decide) (fun h19 => ?_) (fun h19 => ?_)
  · have g19 : n0 < 8 := (nI_ltI (by omega) (by omega)).mp h19
    refine zw_aload_n dX10_linked_238 rfl rfl ?_
    refine zw_bipush (nI 12) dX10_linked_239 (by decide) ?_
    refine zw_aload_n dX10_linked_241 rfl rfl ?_
    refine rz_arr hz dX10_linked_242 fX10_53 rfl ?_
    refine zw_iload_n dX10_linked_245 rfl rfl ?_
    refine zw_iconst (nI 1) dX10_linked_246 (by decide) ?_
    refine zw_iaddN dX10_linked_247 ?_
    refine rz_ald (((30 * p) + 1)) hz dX10_linked_248 rfl (by decide) (by show ((30 * p) + 1) < 120; omega) rfl ?_
    refine zw_iload dX10_linked_249 rfl ?_
    refine zw_iload_n dX10_linked_251 rfl rfl ?_
    refine rz_callX hz dX10_linked_252 eX10_linked_252 (c_fails hz _ _ _ _ _) rfl rfl (Nat.le_of_ble_eq_true rfl) (fun x252 X252 q252 => ?_)
    exact rz_zret dX10_linked_255 rfl (by rw [q252.1]; rfl) ⟨fun z => absurd z (by first | exact fun z => absurd z.1 (by omega) | exact fun z => absurd z.2 g29), fun _ => ⟨rfl, q252⟩⟩
  · have g19 : ¬ (n0 < 8) := fun z => h19 ((nI_ltI (by omega) (by omega)).mpr z)
    refine zw_iload_n dX10_linked_22 rfl rfl ?_
    refine zw_iconst (nI 0) dX10_linked_23 (by decide) ?_
    refine zw_bipush (nI 15) dX10_linked_24 (by decide) ?_
    refine rz_callS dX10_linked_26 eX10_linked_26 (c_in _ _ _) rfl rfl (Nat.le_of_ble_eq_true rfl) (fun x26 q26 => ?_)
    rw [zb_congr (in_zin2 (m := 15) (by omega))] at q26
    subst q26
    refine zw_if_eq 238 dX10_linked_29 (by decide) (fun h29 => ?_) (fun h29 => ?_)
    · have g29 := zb_eq h29
      refine zw_aload_n dX10_linked_238 rfl rfl ?_
      refine zw_bipush (nI 12) dX10_linked_239 (by decide) ?_
      refine zw_aload_n dX10_linked_241 rfl rfl ?_
      refine rz_arr hz dX10_linked_242 fX10_53 rfl ?_
      refine zw_iload_n dX10_linked_245 rfl rfl ?_
      refine zw_iconst (nI 1) dX10_linked_246 (by decide) ?_
      refine zw_iaddN dX10_linked_247 ?_
      refine rz_ald (((30 * p) + 1)) hz dX10_linked_248 rfl (by decide) (by show ((30 * p) + 1) < 120; omega) rfl ?_
      refine zw_iload dX10_linked_249 rfl ?_
      refine zw_iload_n dX10_linked_251 rfl rfl ?_
      refine rz_callX hz dX10_linked_252 eX10_linked_252 (c_fails hz _ _ _ _ _) rfl rfl (Nat.le_of_ble_eq_true rfl) (fun x252 X252 q252 => ?_)
      exact rz_zret dX10_linked_255 rfl (by rw [q252.1]; rfl) ⟨fun z => absurd z (by first | exact fun z => absurd z.1 (by omega) | exact fun z => absurd z.2 g29), fun _ => ⟨rfl, q252⟩⟩
    · have g29 := zb_ne h29
      have hkz := zb_ne h29
      have hk1 := zin_zn hkz (by omega)
      have ek : (.inl k : Zv) = .inl (nI (zn k)) := congrArg _ hk1.2
      rw [ek]
      have hkn := hk.2.2.2 n0 (by omega) hn
      have hks : kn S p n0 < 32 := by omega
      refine zw_aload_n dX10_linked_32 rfl rfl ?_
      refine rz_arr hz dX10_linked_33 fX10_62 rfl ?_
      refine zw_bipush (nI 40) dX10_linked_36 (by decide) ?_
      refine zw_iload_n dX10_linked_38 rfl rfl ?_
      refine zw_imulN dX10_linked_39 ?_
      refine zw_iload dX10_linked_40 rfl ?_
      refine zw_iaddN dX10_linked_42 ?_
      refine rz_ald (((40 * p) + n0)) hz dX10_linked_43 rfl (by decide) (by show ((40 * p) + n0) < 160; omega) rfl ?_
      refine zw_top hkn.1 ?_
      refine zw_istore dX10_linked_44 (by decide) ?_
      dsimp only [List.set]
      refine zw_sipush (nI 512) dX10_linked_46 (by decide) ?_
      refine zw_iload_n dX10_linked_49 rfl rfl ?_
      refine zw_imulN dX10_linked_50 ?_
      refine zw_bipush (nI 16) dX10_linked_51 (by decide) ?_
      refine zw_iload dX10_linked_53 rfl ?_
      refine zw_imulN dX10_linked_55 ?_
      refine zw_iaddN dX10_linked_56 ?_
      refine zw_iload_n dX10_linked_57 rfl rfl ?_
      refine zw_iaddN dX10_linked_58 ?_
      refine zw_istore dX10_linked_59 (by decide) ?_
      dsimp only [List.set]
      refine zw_aload_n dX10_linked_61 rfl rfl ?_
      refine rz_arr hz dX10_linked_62 fX10_65 rfl ?_
      refine zw_iload dX10_linked_65 rfl ?_
      refine rz_ald ((((512 * p) + (16 * (kn S p n0))) + (zn k))) hz dX10_linked_67 rfl (by decide) (by show (((512 * p) + (16 * (kn S p n0))) + (zn k)) < 2048; omega) rfl ?_
      refine zw_if_ne 204 dX10_linked_68 (by decide) (fun h68 => ?_) (fun h68 => ?_)
      · have er : lnk S p (kn S p n0) (zn k) = S := by unfold lnk; first | exact if_neg h68 | (rw [if_pos h68]; exact if_pos h83)
        rw [er]
        refine zw.mono (l_lk3 hz S p hp n0 (zn k) (512 * p + 16 * kn S p n0 + zn k) (by omega)) ?_
        rintro v Sh2 P2 I2 ⟨x, S2, X2, e1, e2, e3, e4, e5⟩
        exact ⟨x, S2, X2, e1, e2, e3, e4, fun _ => by rw [← hk1.2] at e5; exact e5, fun z => absurd ⟨Nat.not_lt.mp g19, hkz⟩ z⟩
      · refine zw_aload_n dX10_linked_71 rfl rfl ?_
        refine rz_arr hz dX10_linked_72 fX10_49 rfl ?_
        refine zw_bipush (nI 16) dX10_linked_75 (by decide) ?_
        refine zw_iload dX10_linked_77 rfl ?_
        refine zw_imulN dX10_linked_79 ?_
        refine zw_iload_n dX10_linked_80 rfl rfl ?_
        refine zw_iaddN dX10_linked_81 ?_
        refine rz_zald (((16 * (kn S p n0)) + (zn k))) hz dX10_linked_82 (by show ((16 * (kn S p n0)) + (zn k)) < 512; omega) rfl ?_
        refine zw_if_eq 204 dX10_linked_83 (by decide) (fun h83 => ?_) (fun h83 => ?_)
        · have er : lnk S p (kn S p n0) (zn k) = S := by unfold lnk; first | exact if_neg h68 | (rw [if_pos h68]; exact if_pos h83)
          rw [er]
          refine zw.mono (l_lk3 hz S p hp n0 (zn k) (512 * p + 16 * kn S p n0 + zn k) (by omega)) ?_
          rintro v Sh2 P2 I2 ⟨x, S2, X2, e1, e2, e3, e4, e5⟩
          exact ⟨x, S2, X2, e1, e2, e3, e4, fun _ => by rw [← hk1.2] at e5; exact e5, fun z => absurd ⟨Nat.not_lt.mp g19, hkz⟩ z⟩
        · refine zw_iconst (-1) dX10_linked_86 (by decide) ?_
          refine zw_istore dX10_linked_87 (by decide) ?_
          dsimp only [List.set]
          refine zw_iconst (nI 0) dX10_linked_89 (by decide) ?_
          refine zw_istore dX10_linked_90 (by decide) ?_
          dsimp only [List.set]
          refine zw.mono (l_lk1 hz S p hp hs (kn S p n0) (zn k) hks hk1.1 (sg S) 0 (-1) (by omega) (l_lk2 hz S p hp hk hs hd hr n0 (kn S p n0) (zn k) hks hk1.1 h68 h83)) ?_
          rintro v Sh2 P2 I2 ⟨x, S2, X2, e1, e2, e3, e4, e5⟩
          exact ⟨x, S2, X2, e1, e2, e3, e4, fun _ => by rw [← hk1.2] at e5; exact e5, fun z => absurd ⟨Nat.not_lt.mp g19, hkz⟩ z⟩
