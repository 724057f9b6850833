set_option maxHeartbeats 4000000 in
set_option maxRecDepth 100000 in
theorem l_adE {G : ZG} {Sh : ZS} {P : ZP} {C : ZI} {X : ZX} {o2 o3 o4 o5 o6 o7 o10 o11 o12 : Option Zv} (hz : zr_sh Sh P) (S : ZT) (p : Nat) (hp : p < 4) (hk : kOK S p) (hs : sOK S) (rd : Int32) : zw G cX10_address kX10_address 0 0 262 [some (.inr (some (60, 99, 0))), some (.inl (nI p)), o2, o3, o4, o5, o6, o7, some (.inl (nI 0)), some (.inl (rd)), o10, o11, o12] [] Sh P (zl C S X) (rq C Sh P (fun x S' X' => S' = S ∧ x = 1 ∧ X' = X)) := by
  refine zw_iload dX10_address_262 rfl ?_
  refine zw_if_eq 437 dX10_address_264 (by decide) (fun h264 => ?_) (fun h264 => ?_)
  · refine zw_iconst (nI 1) dX10_address_437 (by decide) ?_
    exact rz_zret dX10_address_438 rfl rfl ⟨rfl, rfl, rfl⟩
  · exact absurd rfl h264
set_option maxHeartbeats 4000000 in
set_option maxRecDepth 100000 in
theorem l_adC {G : ZG} {Sh : ZS} {P : ZP} {C : ZI} {X : ZX} {Q : ZQ} {o2 o3 o4 o5 o6 o7 o8 o11 o12 : Option Zv} (hz : zr_sh Sh P) (S : ZT) (p : Nat) (hp : p < 4) (r : Nat) (v : Int32) (hx : ∀ a : Int32, a = (if 0 ≤ v then nI 0 else nI 1) → zw G cX10_address kX10_address 0 0 262 [some (.inr (some (60, 99, 0))), some (.inl (nI p)), o2, o3, o4, o5, o6, o7, some (.inl a), some (.inl (nI (r + 1))), some (.inl v), o11, o12] [] Sh P (zl C S (ux (ux X 29 (pw_n v)) 30 (pw_w v))) Q) : zw G cX10_address kX10_address 0 0 397 [some (.inr (some (60, 99, 0))), some (.inl (nI p)), o2, o3, o4, o5, o6, o7, o8, some (.inl (nI r)), some (.inl v), o11, o12] [] Sh P (zl C S X) Q := by
  refine zw_aload_n dX10_address_397 rfl rfl ?_
  refine zw_iload dX10_address_398 rfl ?_
  refine zw_bipush (nI 16) dX10_address_400 (by decide) ?_
  refine zw_ishr dX10_address_402 ?_
  refine zw_sipush (nI 4095) dX10_address_403 (by decide) ?_
  refine zw_iand dX10_address_406 ?_
  refine zw_top (y := pw_n v) rfl ?_
  refine rz_putX hz dX10_address_407 fX10_133 rfl rfl ⟨rfl, rfl⟩ (by decide) ?_
  refine zw_aload_n dX10_address_410 rfl rfl ?_
  refine zw_iload dX10_address_411 rfl ?_
  refine zw_ldc (65535) dX10_address_413 lX10_93 ?_
  refine zw_iand dX10_address_415 ?_
  refine zw_top (y := pw_w v) rfl ?_
  refine rz_putX hz dX10_address_416 fX10_136 rfl rfl ⟨rfl, rfl⟩ (by decide) ?_
  refine zw_iload dX10_address_419 rfl ?_
  refine zw_if_ge 428 dX10_address_421 (by decide) (fun h421 => ?_) (fun h421 => ?_)
  · refine zw_iconst (nI 0) dX10_address_428 (by decide) ?_
    refine zw_istore dX10_address_429 (by decide) ?_
    dsimp only [List.set]
    refine zw_iinc (nI (r + 1)) dX10_address_431 rfl (nI_1 _) (by decide) ?_
    dsimp only [List.set]
    refine zw_goto 262 dX10_address_434 (by decide) ?_
    exact hx _ (by first | exact (if_pos h421).symm | exact (if_neg h421).symm)
  · refine zw_iconst (nI 1) dX10_address_424 (by decide) ?_
    refine zw_goto 429 dX10_address_425 (by decide) ?_
    refine zw_istore dX10_address_429 (by decide) ?_
    dsimp only [List.set]
    refine zw_iinc (nI (r + 1)) dX10_address_431 rfl (nI_1 _) (by decide) ?_
    dsimp only [List.set]
    refine zw_goto 262 dX10_address_434 (by decide) ?_
    exact hx _ (by first | exact (if_pos h421).symm | exact (if_neg h421).symm)
set_option maxHeartbeats 4000000 in
set_option maxRecDepth 100000 in
theorem l_adL {G : ZG} {Sh : ZS} {P : ZP} {C : ZI} (hz : zr_sh Sh P) (S : ZT) (p : Nat) (hp : p < 4) (hk : kOK S p) (hs : sOK S) : ∀ (f : Nat), f ≤ 8 → ∀ (X : ZX) {o2 o3 o4 o5 o6 o7 o10 o11 o12 : Option Zv}, zw G cX10_address kX10_address 0 0 262 [some (.inr (some (60, 99, 0))), some (.inl (nI p)), o2, o3, o4, o5, o6, o7, some (.inl (nI 1)), some (.inl (nI (8 - f))), o10, o11, o12] [] Sh P (zl C S X) (rq C Sh P (fun x S' X' => S' = S ∧ ((chF S p f (X 28) (X 29) (X 30)).1 = 0 → x = 1 ∧ X' 28 = (chF S p f (X 28) (X 29) (X 30)).2.1 ∧ X' 29 = (chF S p f (X 28) (X 29) (X 30)).2.2.1 ∧ X' 30 = (chF S p f (X 28) (X 29) (X 30)).2.2.2) ∧ ((chF S p f (X 28) (X 29) (X 30)).1 ≠ 0 → x = 0 ∧ X' 24 = nI (chF S p f (X 28) (X 29) (X 30)).1 ∧ X' 25 = (chF S p f (X 28) (X 29) (X 30)).2.1 ∧ X' 26 = (chF S p f (X 28) (X 29) (X 30)).2.2.1 ∧ X' 27 = (chF S p f (X 28) (X 29) (X 30)).2.2.2))) := by
  intro f
  induction f with
  | zero =>
    intro hf X o2 o3 o4 o5 o6 o7 o10 o11 o12
    refine zw_iload dX10_address_262 rfl ?_
    refine zw_if_eq 437 dX10_address_264 (by decide) (fun h264 => ?_) (fun h264 => ?_)
    · exact absurd h264 (by decide)
    · refine zw_iload dX10_address_267 rfl ?_
      refine zw_bipush (nI 8) dX10_address_269 (by decide) ?_
      refine zw_icmp_ne 293 dX10_address_271 (by decide) (fun h271 => ?_) (fun h271 => ?_)
      · exact absurd rfl h271
      · refine zw_aload_n dX10_address_274 rfl rfl ?_
        refine zw_bipush (nI 11) dX10_address_275 (by decide) ?_
        refine zw_aload_n dX10_address_277 rfl rfl ?_
        refine rz_intX hz dX10_address_278 fX10_139 rfl (by decide) ?_
        refine zw_aload_n dX10_address_281 rfl rfl ?_
        refine rz_intX hz dX10_address_282 fX10_133 rfl (by decide) ?_
        refine zw_aload_n dX10_address_285 rfl rfl ?_
        refine rz_intX hz dX10_address_286 fX10_136 rfl (by decide) ?_
        refine rz_callX hz dX10_address_289 eX10_address_289 (c_fails hz _ _ _ _ _) rfl rfl (Nat.le_of_ble_eq_true rfl) (fun x289 X289 q289 => ?_)
        exact rz_zret dX10_address_292 rfl (by rw [q289.1]; rfl) ⟨rfl, fun z => absurd z (by show ¬ (11 : Nat) = 0; decide), fun _ => ⟨q289.1, by rw [q289.2]; rfl, by rw [q289.2]; rfl, by rw [q289.2]; rfl, by rw [q289.2]; rfl⟩⟩
  | succ f ih =>
    intro hf X o2 o3 o4 o5 o6 o7 o10 o11 o12
    refine zw_iload dX10_address_262 rfl ?_
    refine zw_if_eq 437 dX10_address_264 (by decide) (fun h264 => ?_) (fun h264 => ?_)
    · exact absurd h264 (by decide)
    · refine zw_iload dX10_address_267 rfl ?_
      refine zw_bipush (nI 8) dX10_address_269 (by decide) ?_
      refine zw_icmp_ne 293 dX10_address_271 (by decide) (fun h271 => ?_) (fun h271 => ?_)
      · refine zw_aload_n dX10_address_293 rfl rfl ?_
        refine zw_iload_n dX10_address_294 rfl rfl ?_
        refine zw_aload_n dX10_address_295 rfl rfl ?_
        refine rz_intX hz dX10_address_296 fX10_139 rfl (by decide) ?_
        refine zw_aload_n dX10_address_299 rfl rfl ?_
        refine rz_intX hz dX10_address_300 fX10_133 rfl (by decide) ?_
        refine zw_aload_n dX10_address_303 rfl rfl ?_
        refine rz_intX hz dX10_address_304 fX10_136 rfl (by decide) ?_
        refine zw_iconst (nI 0) dX10_address_307 (by decide) ?_
        refine rz_can hz dX10_address_308 eX10_address_308 (c_can hz S p hp hk hs _ _ _ 0 (by omega)) rfl rfl (Nat.le_of_ble_eq_true rfl) 316 dX10_address_311 (by decide) (fun k308 => ?_) (fun k308 => ?_)
        · have hc3 := canK_0' k308
          have hn1 := zin_zn hc3.1 (by have := hk.2.2.1; omega)
          have hsz := sz_le hk hs hn1.1
          have hw1 := zin_zn hc3.2.1 (by omega)
          refine zw_aload_n dX10_address_316 rfl rfl ?_
          refine zw_iload_n dX10_address_317 rfl rfl ?_
          refine zw_aload_n dX10_address_318 rfl rfl ?_
          refine rz_intX hz dX10_address_319 fX10_133 rfl (by decide) ?_
          refine zw_top hn1.2 ?_
          refine zw_aload_n dX10_address_322 rfl rfl ?_
          refine rz_intX hz dX10_address_323 fX10_136 rfl (by decide) ?_
          refine zw_top hw1.2 ?_
          refine rz_callP hz dX10_address_326 eX10_address_326 (c_get hz S p hp hk hs _ hn1.1 _ hw1.1) rfl rfl (Nat.le_of_ble_eq_true rfl) (fun x326 q326 => ?_)
          subst q326
          refine zw_istore dX10_address_329 (by decide) ?_
          dsimp only [List.set]
          refine zw_aload_n dX10_address_331 rfl rfl ?_
          refine zw_iload_n dX10_address_332 rfl rfl ?_
          refine zw_aload_n dX10_address_333 rfl rfl ?_
          refine rz_intX hz dX10_address_334 fX10_133 rfl (by decide) ?_
          refine zw_top hn1.2 ?_
          refine zw_iconst (nI 1) dX10_address_337 (by decide) ?_
          refine rz_callP hz dX10_address_338 eX10_address_338 (c_ringOf hz S p hp hk hs _ hn1.1 1 (by omega)) rfl rfl (Nat.le_of_ble_eq_true rfl) (fun x338 q338 => ?_)
          subst q338
          refine zw_istore dX10_address_341 (by decide) ?_
          dsimp only [List.set]
          refine zw_iload dX10_address_343 rfl ?_
          refine zw_bipush (nI 28) dX10_address_345 (by decide) ?_
          refine zw_ishr dX10_address_347 ?_
          refine zw_bipush (nI 7) dX10_address_348 (by decide) ?_
          refine zw_iand dX10_address_350 ?_
          refine zw_top (y := pw_r (getW S p (zn (X 29)) (zn (X 30)))) rfl ?_
          refine zw_istore dX10_address_351 (by decide) ?_
          dsimp only [List.set]
          refine zw_aload_n dX10_address_353 rfl rfl ?_
          refine zw_iload dX10_address_354 rfl ?_
          refine zw_aload_n dX10_address_356 rfl rfl ?_
          refine rz_intX hz dX10_address_357 fX10_139 rfl (by decide) ?_
          refine zw_icmp_le 368 dX10_address_360 (by decide) (fun h360 => ?_) (fun h360 => ?_)
          · refine zw_aload_n dX10_address_368 rfl rfl ?_
            refine rz_intX hz dX10_address_369 fX10_139 rfl (by decide) ?_
            refine zw_top (y := (mx (rg S p (zn (X 29)) 1) (X 28))) (by unfold mx; first | exact (if_pos h360).symm | exact (if_neg h360).symm) ?_
            refine rz_putX hz dX10_address_372 fX10_139 rfl rfl ⟨rfl, rfl⟩ (by decide) ?_
            refine zw_aload_n dX10_address_375 rfl rfl ?_
            refine zw_iload dX10_address_376 rfl ?_
            refine zw_aload_n dX10_address_378 rfl rfl ?_
            refine rz_intX hz dX10_address_379 fX10_139 rfl (by decide) ?_
            refine zw_icmp_le 390 dX10_address_382 (by decide) (fun h382 => ?_) (fun h382 => ?_)
            · refine zw_aload_n dX10_address_390 rfl rfl ?_
              refine rz_intX hz dX10_address_391 fX10_139 rfl (by decide) ?_
              refine zw_top (y := mx (pw_r (getW S p (zn (X 29)) (zn (X 30)))) (mx (rg S p (zn (X 29)) 1) (X 28))) (by unfold mx; first | exact (if_pos h382).symm | exact (if_neg h382).symm) ?_
              refine rz_putX hz dX10_address_394 fX10_139 rfl rfl ⟨rfl, rfl⟩ (by decide) ?_
              refine l_adC hz S p hp (8 - (f + 1)) _ (fun a ea => ?_)
              have er : 8 - (f + 1) + 1 = 8 - f := by omega
              rw [er]
              by_cases hv : 0 ≤ (getW S p (zn (X 29)) (zn (X 30)))
              · rw [if_pos hv] at ea
                subst ea
                refine zw.mono (l_adE hz S p hp hk hs _) ?_
                rintro v Sh2 P2 I2 ⟨x, S2, X2, e1, e2, e3, e4, e5, e6, e7⟩
                refine ⟨x, S2, X2, e1, e2, e3, e4, e5, ?_⟩
                have ec : chF S p (f + 1) (X 28) (X 29) (X 30) = (0, mx (pw_r (getW S p (zn (X 29)) (zn (X 30)))) (mx (rg S p (zn (X 29)) 1) (X 28)), pw_n (getW S p (zn (X 29)) (zn (X 30))), pw_w (getW S p (zn (X 29)) (zn (X 30)))) := by rw [chF, if_pos k308]; show (if _ then _ else _) = _; rw [if_pos hv]
                rw [ec]
                exact ⟨fun _ => ⟨e6, by rw [e7]; rfl, by rw [e7]; rfl, by rw [e7]; rfl⟩, fun z => absurd rfl z⟩
              · rw [if_neg hv] at ea
                subst ea
                have ec : chF S p (f + 1) (X 28) (X 29) (X 30) = chF S p f (mx (pw_r (getW S p (zn (X 29)) (zn (X 30)))) (mx (rg S p (zn (X 29)) 1) (X 28))) (pw_n (getW S p (zn (X 29)) (zn (X 30)))) (pw_w (getW S p (zn (X 29)) (zn (X 30)))) := by rw [chF, if_pos k308]; show (if _ then _ else _) = _; rw [if_neg hv]
                rw [ec]
                exact ih (by omega) _
            · refine zw_iload dX10_address_385 rfl ?_
              refine zw_goto 394 dX10_address_387 (by decide) ?_
              refine zw_top (y := mx (pw_r (getW S p (zn (X 29)) (zn (X 30)))) (mx (rg S p (zn (X 29)) 1) (X 28))) (by unfold mx; first | exact (if_pos h382).symm | exact (if_neg h382).symm) ?_
              refine rz_putX hz dX10_address_394 fX10_139 rfl rfl ⟨rfl, rfl⟩ (by decide) ?_
              refine l_adC hz S p hp (8 - (f + 1)) _ (fun a ea => ?_)
              have er : 8 - (f + 1) + 1 = 8 - f := by omega
              rw [er]
              by_cases hv : 0 ≤ (getW S p (zn (X 29)) (zn (X 30)))
              · rw [if_pos hv] at ea
                subst ea
                refine zw.mono (l_adE hz S p hp hk hs _) ?_
                rintro v Sh2 P2 I2 ⟨x, S2, X2, e1, e2, e3, e4, e5, e6, e7⟩
                refine ⟨x, S2, X2, e1, e2, e3, e4, e5, ?_⟩
                have ec : chF S p (f + 1) (X 28) (X 29) (X 30) = (0, mx (pw_r (getW S p (zn (X 29)) (zn (X 30)))) (mx (rg S p (zn (X 29)) 1) (X 28)), pw_n (getW S p (zn (X 29)) (zn (X 30))), pw_w (getW S p (zn (X 29)) (zn (X 30)))) := by rw [chF, if_pos k308]; show (if _ then _ else _) = _; rw [if_pos hv]
                rw [ec]
                exact ⟨fun _ => ⟨e6, by rw [e7]; rfl, by rw [e7]; rfl, by rw [e7]; rfl⟩, fun z => absurd rfl z⟩
              · rw [if_neg hv] at ea
                subst ea
                have ec : chF S p (f + 1) (X 28) (X 29) (X 30) = chF S p f (mx (pw_r (getW S p (zn (X 29)) (zn (X 30)))) (mx (rg S p (zn (X 29)) 1) (X 28))) (pw_n (getW S p (zn (X 29)) (zn (X 30)))) (pw_w (getW S p (zn (X 29)) (zn (X 30)))) := by rw [chF, if_pos k308]; show (if _ then _ else _) = _; rw [if_neg hv]
                rw [ec]
                exact ih (by omega) _
          · refine zw_iload dX10_address_363 rfl ?_
            refine zw_goto 372 dX10_address_365 (by decide) ?_
            refine zw_top (y := (mx (rg S p (zn (X 29)) 1) (X 28))) (by unfold mx; first | exact (if_pos h360).symm | exact (if_neg h360).symm) ?_
            refine rz_putX hz dX10_address_372 fX10_139 rfl rfl ⟨rfl, rfl⟩ (by decide) ?_
            refine zw_aload_n dX10_address_375 rfl rfl ?_
            refine zw_iload dX10_address_376 rfl ?_
            refine zw_aload_n dX10_address_378 rfl rfl ?_
            refine rz_intX hz dX10_address_379 fX10_139 rfl (by decide) ?_
            refine zw_icmp_le 390 dX10_address_382 (by decide) (fun h382 => ?_) (fun h382 => ?_)
            · refine zw_aload_n dX10_address_390 rfl rfl ?_
              refine rz_intX hz dX10_address_391 fX10_139 rfl (by decide) ?_
              refine zw_top (y := mx (pw_r (getW S p (zn (X 29)) (zn (X 30)))) (mx (rg S p (zn (X 29)) 1) (X 28))) (by unfold mx; first | exact (if_pos h382).symm | exact (if_neg h382).symm) ?_
              refine rz_putX hz dX10_address_394 fX10_139 rfl rfl ⟨rfl, rfl⟩ (by decide) ?_
              refine l_adC hz S p hp (8 - (f + 1)) _ (fun a ea => ?_)
              have er : 8 - (f + 1) + 1 = 8 - f := by omega
              rw [er]
              by_cases hv : 0 ≤ (getW S p (zn (X 29)) (zn (X 30)))
              · rw [if_pos hv] at ea
                subst ea
                refine zw.mono (l_adE hz S p hp hk hs _) ?_
                rintro v Sh2 P2 I2 ⟨x, S2, X2, e1, e2, e3, e4, e5, e6, e7⟩
                refine ⟨x, S2, X2, e1, e2, e3, e4, e5, ?_⟩
                have ec : chF S p (f + 1) (X 28) (X 29) (X 30) = (0, mx (pw_r (getW S p (zn (X 29)) (zn (X 30)))) (mx (rg S p (zn (X 29)) 1) (X 28)), pw_n (getW S p (zn (X 29)) (zn (X 30))), pw_w (getW S p (zn (X 29)) (zn (X 30)))) := by rw [chF, if_pos k308]; show (if _ then _ else _) = _; rw [if_pos hv]
                rw [ec]
                exact ⟨fun _ => ⟨e6, by rw [e7]; rfl, by rw [e7]; rfl, by rw [e7]; rfl⟩, fun z => absurd rfl z⟩
              · rw [if_neg hv] at ea
                subst ea
                have ec : chF S p (f + 1) (X 28) (X 29) (X 30) = chF S p f (mx (pw_r (getW S p (zn (X 29)) (zn (X 30)))) (mx (rg S p (zn (X 29)) 1) (X 28))) (pw_n (getW S p (zn (X 29)) (zn (X 30)))) (pw_w (getW S p (zn (X 29)) (zn (X 30)))) := by rw [chF, if_pos k308]; show (if _ then _ else _) = _; rw [if_neg hv]
                rw [ec]
                exact ih (by omega) _
            · refine zw_iload dX10_address_385 rfl ?_
              refine zw_goto 394 dX10_address_387 (by decide) ?_
              refine zw_top (y := mx (pw_r (getW S p (zn (X 29)) (zn (X 30)))) (mx (rg S p (zn (X 29)) 1) (X 28))) (by unfold mx; first | exact (if_pos h382).symm | exact (if_neg h382).symm) ?_
              refine rz_putX hz dX10_address_394 fX10_139 rfl rfl ⟨rfl, rfl⟩ (by decide) ?_
              refine l_adC hz S p hp (8 - (f + 1)) _ (fun a ea => ?_)
              have er : 8 - (f + 1) + 1 = 8 - f := by omega
              rw [er]
              by_cases hv : 0 ≤ (getW S p (zn (X 29)) (zn (X 30)))
              · rw [if_pos hv] at ea
                subst ea
                refine zw.mono (l_adE hz S p hp hk hs _) ?_
                rintro v Sh2 P2 I2 ⟨x, S2, X2, e1, e2, e3, e4, e5, e6, e7⟩
                refine ⟨x, S2, X2, e1, e2, e3, e4, e5, ?_⟩
                have ec : chF S p (f + 1) (X 28) (X 29) (X 30) = (0, mx (pw_r (getW S p (zn (X 29)) (zn (X 30)))) (mx (rg S p (zn (X 29)) 1) (X 28)), pw_n (getW S p (zn (X 29)) (zn (X 30))), pw_w (getW S p (zn (X 29)) (zn (X 30)))) := by rw [chF, if_pos k308]; show (if _ then _ else _) = _; rw [if_pos hv]
                rw [ec]
                exact ⟨fun _ => ⟨e6, by rw [e7]; rfl, by rw [e7]; rfl, by rw [e7]; rfl⟩, fun z => absurd rfl z⟩
              · rw [if_neg hv] at ea
                subst ea
                have ec : chF S p (f + 1) (X 28) (X 29) (X 30) = chF S p f (mx (pw_r (getW S p (zn (X 29)) (zn (X 30)))) (mx (rg S p (zn (X 29)) 1) (X 28))) (pw_n (getW S p (zn (X 29)) (zn (X 30)))) (pw_w (getW S p (zn (X 29)) (zn (X 30)))) := by rw [chF, if_pos k308]; show (if _ then _ else _) = _; rw [if_neg hv]
                rw [ec]
                exact ih (by omega) _
        · refine zw_iconst (nI 0) dX10_address_314 (by decide) ?_
          have ec : chF S p (f + 1) (X 28) (X 29) (X 30) = (canK S p (X 28) (X 29) (X 30) 0, X 28, X 29, X 30) := by rw [chF, if_neg k308]
          exact rz_zret dX10_address_315 rfl rfl ⟨rfl, fun z => absurd (by rw [ec] at z; exact z) k308, fun _ => by rw [ec]; exact ⟨rfl, rfl, rfl, rfl, rfl⟩⟩
      · exact absurd ((nI_eq (by omega) (by omega)).mp h271) (by omega)
set_option maxHeartbeats 4000000 in
set_option maxRecDepth 100000 in
theorem l_ad230 {G : ZG} {Sh : ZS} {P : ZP} {C : ZI} {X : ZX} {o4 o5 o7 o9 o10 o11 o12 : Option Zv} (hz : zr_sh Sh P) (S : ZT) (p : Nat) (hp : p < 4) (hk : kOK S p) (hs : sOK S) (v : Int32) : zw G cX10_address kX10_address 0 0 230 [some (.inr (some (60, 99, 0))), some (.inl (nI p)), some (.inl v), some (.inl (nI (30 * p))), o4, o5, some (.inl (nI (xN v))), o7, some (.inl (nI (iN v))), o9, o10, o11, o12] [] Sh P (zl C S X) (rq C Sh P (chP S (fin S p v (X 28) (X 29) (X 30)))) := by
  have hx4 := (f_x_n v).2
  have hi2 := (f_i_n v).2
  refine zw_aload_n dX10_address_230 rfl rfl ?_
  refine zw_dup dX10_address_231 ?_
  refine rz_intX hz dX10_address_232 fX10_136 rfl (by decide) ?_
  refine zw_iload dX10_address_235 rfl ?_
  refine zw_if_ne 244 dX10_address_237 (by decide) (fun h237 => ?_) (fun h237 => ?_)
  · have g237 : ¬ (xN v) = 0 := fun z => h237 ((nI_eq (b := 0) (by omega) (by omega)).mpr z)
    refine zw_aload_n dX10_address_244 rfl rfl ?_
    refine rz_arr hz dX10_address_245 fX10_53 rfl ?_
    refine zw_iload_n dX10_address_248 rfl rfl ?_
    refine zw_iconst (nI 4) dX10_address_249 (by decide) ?_
    refine zw_iaddN dX10_address_250 ?_
    refine zw_iload dX10_address_251 rfl ?_
    refine zw_iaddN dX10_address_253 ?_
    refine rz_ald ((((30 * p) + 4) + (xN v))) hz dX10_address_254 rfl (by decide) (by show (((30 * p) + 4) + (xN v)) < 120; omega) rfl ?_
    refine zw_top (y := xv S p v) (by unfold xv; first | exact (if_pos g237).symm | exact (if_neg g237).symm) ?_
    refine zw_iadd dX10_address_255 ?_
    refine rz_putX hz dX10_address_256 fX10_136 rfl rfl ⟨rfl, rfl⟩ (by decide) ?_
    refine zw_iconst (nI 0) dX10_address_259 (by decide) ?_
    refine zw_istore dX10_address_260 (by decide) ?_
    dsimp only [List.set]
    by_cases hi : iN v = 1
    · rw [hi]
      refine zw.mono (l_adL hz S p hp hk hs 8 (by omega) _) ?_
      rintro v2 Sh2 P2 I2 ⟨x, S2, X2, e1, e2, e3, e4, e5⟩
      exact ⟨x, S2, X2, e1, e2, e3, e4, by unfold fin; rw [if_pos hi]; exact e5⟩
    · have hi0 : iN v = 0 := by omega
      rw [hi0]
      refine zw.mono (l_adE hz S p hp hk hs _) ?_
      rintro v2 Sh2 P2 I2 ⟨x, S2, X2, e1, e2, e3, e4, e5⟩
      exact ⟨x, S2, X2, e1, e2, e3, e4, by unfold fin; rw [if_neg hi]; exact ⟨e5.1, fun _ => ⟨e5.2.1, by rw [e5.2.2]; rfl, by rw [e5.2.2]; rfl, by rw [e5.2.2]; rfl⟩, fun z => absurd rfl z⟩⟩
  · have g237 : (xN v) = 0 := (nI_eq (b := 0) (by omega) (by omega)).mp h237
    refine zw_iconst (nI 0) dX10_address_240 (by decide) ?_
    refine zw_goto 255 dX10_address_241 (by decide) ?_
    refine zw_top (y := xv S p v) (by unfold xv; first | exact (if_pos g237).symm | exact (if_neg g237).symm) ?_
    refine zw_iadd dX10_address_255 ?_
    refine rz_putX hz dX10_address_256 fX10_136 rfl rfl ⟨rfl, rfl⟩ (by decide) ?_
    refine zw_iconst (nI 0) dX10_address_259 (by decide) ?_
    refine zw_istore dX10_address_260 (by decide) ?_
    dsimp only [List.set]
    by_cases hi : iN v = 1
    · rw [hi]
      refine zw.mono (l_adL hz S p hp hk hs 8 (by omega) _) ?_
      rintro v2 Sh2 P2 I2 ⟨x, S2, X2, e1, e2, e3, e4, e5⟩
      exact ⟨x, S2, X2, e1, e2, e3, e4, by unfold fin; rw [if_pos hi]; exact e5⟩
    · have hi0 : iN v = 0 := by omega
      rw [hi0]
      refine zw.mono (l_adE hz S p hp hk hs _) ?_
      rintro v2 Sh2 P2 I2 ⟨x, S2, X2, e1, e2, e3, e4, e5⟩
      exact ⟨x, S2, X2, e1, e2, e3, e4, by unfold fin; rw [if_neg hi]; exact ⟨e5.1, fun _ => ⟨e5.2.1, by rw [e5.2.2]; rfl, by rw [e5.2.2]; rfl, by rw [e5.2.2]; rfl⟩, fun z => absurd rfl z⟩⟩
set_option maxHeartbeats 4000000 in
set_option maxRecDepth 100000 in
theorem l_ad51 {G : ZG} {Sh : ZS} {P : ZP} {C : ZI} {X : ZX} (hz : zr_sh Sh P) (S : ZT) (p : Nat) (hp : p < 4) (hk : kOK S p) (hs : sOK S) (hd : ∀ s, s < 32 → dOK S s) (hr : rOK S p) (n0 : Nat) (hn0 : S 15 (30 * p + 2) = nI n0) (hn : n0 < kc S p) (v : Int32) : zw G cX10_address kX10_address 0 0 51 [some (.inr (some (60, 99, 0))), some (.inl (nI p)), some (.inl v), some (.inl (nI (30 * p))), some (.inl (nI (mN v))), some (.inl (f_of v)), some (.inl (nI (xN v))), some (.inl (nI (nN v))), some (.inl (nI (iN v))), none, none, none, none] [] Sh P (zl C S X) (rq C Sh P (adP S p v)) := by
  have hx4 := (f_x_n v).2
  have hi2 := (f_i_n v).2
  have hm4 := (f_md_n v).2
  have hn8 := (f_n_n v).2
  have hkc := hk.2.2.1
  have ez : zn (S 15 (30 * p + 2)) = n0 := by rw [hn0, zn_nI (by omega)]
  refine zw_aload_n dX10_address_51 rfl rfl ?_
  refine zw_aload_n dX10_address_52 rfl rfl ?_
  refine rz_arr hz dX10_address_53 fX10_53 rfl ?_
  refine zw_iload_n dX10_address_56 rfl rfl ?_
  refine zw_iconst (nI 1) dX10_address_57 (by decide) ?_
  refine zw_iaddN dX10_address_58 ?_
  refine rz_ald (((30 * p) + 1)) hz dX10_address_59 rfl (by decide) (by show ((30 * p) + 1) < 120; omega) rfl ?_
  refine rz_putX hz dX10_address_60 fX10_139 rfl rfl ⟨rfl, rfl⟩ (by decide) ?_
  refine zw_iload dX10_address_63 rfl ?_
  refine zw_iconst (nI 3) dX10_address_65 (by decide) ?_
  refine zw_icmp_ne 111 dX10_address_66 (by decide) (fun h66 => ?_) (fun h66 => ?_)
  · have g66 : ¬ ((mN v) = 3) := fun z => h66 ((nI_eq (by omega) (by omega)).mpr z)
    refine zw_iload dX10_address_111 rfl ?_
    refine zw_if_ne 137 dX10_address_113 (by decide) (fun h113 => ?_) (fun h113 => ?_)
    · have g113 : ¬ (mN v) = 0 := fun z => h113 ((nI_eq (b := 0) (by omega) (by omega)).mpr z)
      refine zw_iload dX10_address_137 rfl ?_
      refine zw_iconst (nI 1) dX10_address_139 (by decide) ?_
      refine zw_icmp_ne 218 dX10_address_140 (by decide) (fun h140 => ?_) (fun h140 => ?_)
      · have g140 : ¬ ((mN v) = 1) := fun z => h140 ((nI_eq (by omega) (by omega)).mpr z)
        refine zw_aload_n dX10_address_218 rfl rfl ?_
        refine zw_iload_n dX10_address_219 rfl rfl ?_
        refine zw_iload dX10_address_220 rfl ?_
        refine rz_callV hz dX10_address_222 eX10_address_222 (c_linked hz S p hp hk hs hd hr n0 hn0 hn _) rfl rfl (Nat.le_of_ble_eq_true rfl) (fun x222 S222 X222 q222 => ?_)
        by_cases hg : 8 ≤ n0 ∧ zin (f_of v) 16
        · obtain ⟨f1, f2, f3⟩ := q222.1 hg
          by_cases hl : 0 < (lnk S p (kn S p n0) (zn (f_of v))) 19 (512 * p + 16 * kn S p n0 + zn (f_of v))
          · obtain ⟨f4, f5⟩ := f2 hl
            rw [f1, f4, f5]
            refine zw_if_ne 230 dX10_address_225 (by decide) (fun _ => ?_) (fun z => absurd z (by decide))
            have eb : bas S p v = ((lnk S p (kn S p n0) (zn (f_of v))), 0, S 15 (30 * p + 1), (lnk S p (kn S p n0) (zn (f_of v))) 19 (512 * p + 16 * kn S p n0 + zn (f_of v)), (lnk S p (kn S p n0) (zn (f_of v))) 20 (512 * p + 16 * kn S p n0 + zn (f_of v))) := by unfold bas; rw [if_neg g113, if_neg g140, ez, if_pos hg]; exact if_pos hl
            refine zw.mono (l_ad230 hz _ p hp (kOK_lnk hk hs hr hk) (sOK_lnk hs) v) ?_
            rintro v2 Sh2 P2 I2 ⟨x, S2, X2, e1, e2, e3, e4, e5⟩
            exact ⟨x, S2, X2, e1, e2, e3, e4, adP_of g66 eb e5⟩
          · obtain ⟨f4, f5⟩ := f3 hl
            rw [f1, f4, f5]
            refine zw_if_ne 230 dX10_address_225 (by decide) (fun z => absurd rfl z) (fun _ => ?_)
            refine zw_iconst (nI 0) dX10_address_228 (by decide) ?_
            have eb : bas S p v = ((lnk S p (kn S p n0) (zn (f_of v))), 12, (lnk S p (kn S p n0) (zn (f_of v))) 15 (30 * p + 1), nI n0, f_of v) := by unfold bas; rw [if_neg g113, if_neg g140, ez, if_pos hg, hn0]; exact if_neg hl
            exact rz_zret dX10_address_229 rfl rfl (adP_no g66 eb (by decide))
        · obtain ⟨f1, f4, f5⟩ := q222.2 hg
          rw [f1, f4, f5]
          refine zw_if_ne 230 dX10_address_225 (by decide) (fun z => absurd rfl z) (fun _ => ?_)
          refine zw_iconst (nI 0) dX10_address_228 (by decide) ?_
          have eb : bas S p v = (S, 12, S 15 (30 * p + 1), nI n0, f_of v) := by unfold bas; rw [if_neg g113, if_neg g140, ez, if_neg hg, hn0]
          exact rz_zret dX10_address_229 rfl rfl (adP_no g66 eb (by decide))
      · have g140 : (mN v) = 1 := (nI_eq (by omega) (by omega)).mp h140
        refine zw_bipush (nI 24) dX10_address_143 (by decide) ?_
        refine zw_iload_n dX10_address_145 rfl rfl ?_
        refine zw_imulN dX10_address_146 ?_
        refine zw_iconst (nI 3) dX10_address_147 (by decide) ?_
        refine zw_iload dX10_address_148 rfl ?_
        refine zw_imulN dX10_address_150 ?_
        refine zw_iaddN dX10_address_151 ?_
        refine zw_istore dX10_address_152 (by decide) ?_
        dsimp only [List.set]
        refine zw_aload_n dX10_address_154 rfl rfl ?_
        refine zw_aload_n dX10_address_155 rfl rfl ?_
        refine rz_arr hz dX10_address_156 fX10_56 rfl ?_
        refine zw_iload dX10_address_159 rfl ?_
        refine zw_iconst (nI 1) dX10_address_161 (by decide) ?_
        refine zw_iaddN dX10_address_162 ?_
        refine rz_ald ((((24 * p) + (3 * (nN v))) + 1)) hz dX10_address_163 rfl (by decide) (by show (((24 * p) + (3 * (nN v))) + 1) < 96; omega) rfl ?_
        refine rz_putX hz dX10_address_164 fX10_133 rfl rfl ⟨rfl, rfl⟩ (by decide) ?_
        refine zw_aload_n dX10_address_167 rfl rfl ?_
        refine zw_aload_n dX10_address_168 rfl rfl ?_
        refine rz_arr hz dX10_address_169 fX10_56 rfl ?_
        refine zw_iload dX10_address_172 rfl ?_
        refine zw_iconst (nI 2) dX10_address_174 (by decide) ?_
        refine zw_iaddN dX10_address_175 ?_
        refine rz_ald ((((24 * p) + (3 * (nN v))) + 2)) hz dX10_address_176 rfl (by decide) (by show (((24 * p) + (3 * (nN v))) + 2) < 96; omega) rfl ?_
        refine zw_iload dX10_address_177 rfl ?_
        refine zw_iadd dX10_address_179 ?_
        refine rz_putX hz dX10_address_180 fX10_136 rfl rfl ⟨rfl, rfl⟩ (by decide) ?_
        refine zw_aload_n dX10_address_183 rfl rfl ?_
        refine zw_aload_n dX10_address_184 rfl rfl ?_
        refine rz_arr hz dX10_address_185 fX10_56 rfl ?_
        refine zw_iload dX10_address_188 rfl ?_
        refine rz_ald (((24 * p) + (3 * (nN v)))) hz dX10_address_190 rfl (by decide) (by show ((24 * p) + (3 * (nN v))) < 96; omega) rfl ?_
        refine zw_aload_n dX10_address_191 rfl rfl ?_
        refine rz_intX hz dX10_address_192 fX10_139 rfl (by decide) ?_
        refine zw_icmp_le 208 dX10_address_195 (by decide) (fun h195 => ?_) (fun h195 => ?_)
        · refine zw_aload_n dX10_address_208 rfl rfl ?_
          refine rz_intX hz dX10_address_209 fX10_139 rfl (by decide) ?_
          refine zw_top (y := mx (S 16 (24 * p + 3 * nN v)) (S 15 (30 * p + 1))) (by unfold mx; first | exact (if_pos h195).symm | exact (if_neg h195).symm) ?_
          refine rz_putX hz dX10_address_212 fX10_139 rfl rfl ⟨rfl, rfl⟩ (by decide) ?_
          refine zw_goto 230 dX10_address_215 (by decide) ?_
          have eb : bas S p v = (S, 0, mx (S 16 (24 * p + 3 * nN v)) (S 15 (30 * p + 1)), S 16 (24 * p + 3 * nN v + 1), S 16 (24 * p + 3 * nN v + 2) + f_of v) := by unfold bas; rw [if_neg g113]; exact if_pos g140
          refine zw.mono (l_ad230 hz S p hp hk hs v) ?_
          rintro v2 Sh2 P2 I2 ⟨x, S2, X2, e1, e2, e3, e4, e5⟩
          exact ⟨x, S2, X2, e1, e2, e3, e4, adP_of g66 eb e5⟩
        · refine zw_aload_n dX10_address_198 rfl rfl ?_
          refine rz_arr hz dX10_address_199 fX10_56 rfl ?_
          refine zw_iload dX10_address_202 rfl ?_
          refine rz_ald (((24 * p) + (3 * (nN v)))) hz dX10_address_204 rfl (by decide) (by show ((24 * p) + (3 * (nN v))) < 96; omega) rfl ?_
          refine zw_goto 212 dX10_address_205 (by decide) ?_
          refine zw_top (y := mx (S 16 (24 * p + 3 * nN v)) (S 15 (30 * p + 1))) (by unfold mx; first | exact (if_pos h195).symm | exact (if_neg h195).symm) ?_
          refine rz_putX hz dX10_address_212 fX10_139 rfl rfl ⟨rfl, rfl⟩ (by decide) ?_
          refine zw_goto 230 dX10_address_215 (by decide) ?_
          have eb : bas S p v = (S, 0, mx (S 16 (24 * p + 3 * nN v)) (S 15 (30 * p + 1)), S 16 (24 * p + 3 * nN v + 1), S 16 (24 * p + 3 * nN v + 2) + f_of v) := by unfold bas; rw [if_neg g113]; exact if_pos g140
          refine zw.mono (l_ad230 hz S p hp hk hs v) ?_
          rintro v2 Sh2 P2 I2 ⟨x, S2, X2, e1, e2, e3, e4, e5⟩
          exact ⟨x, S2, X2, e1, e2, e3, e4, adP_of g66 eb e5⟩
    · have g113 : (mN v) = 0 := (nI_eq (b := 0) (by omega) (by omega)).mp h113
      refine zw_aload_n dX10_address_116 rfl rfl ?_
      refine zw_aload_n dX10_address_117 rfl rfl ?_
      refine rz_arr hz dX10_address_118 fX10_53 rfl ?_
      refine zw_iload_n dX10_address_121 rfl rfl ?_
      refine zw_iconst (nI 2) dX10_address_122 (by decide) ?_
      refine zw_iaddN dX10_address_123 ?_
      refine rz_ald (((30 * p) + 2)) hz dX10_address_124 rfl (by decide) (by show ((30 * p) + 2) < 120; omega) rfl ?_
      refine rz_putX hz dX10_address_125 fX10_133 rfl rfl ⟨rfl, rfl⟩ (by decide) ?_
      refine zw_aload_n dX10_address_128 rfl rfl ?_
      refine zw_iload dX10_address_129 rfl ?_
      refine rz_putX hz dX10_address_131 fX10_136 rfl rfl ⟨rfl, rfl⟩ (by decide) ?_
      refine zw_goto 230 dX10_address_134 (by decide) ?_
      have eb : bas S p v = (S, 0, S 15 (30 * p + 1), S 15 (30 * p + 2), f_of v) := by unfold bas; exact if_pos g113
      refine zw.mono (l_ad230 hz S p hp hk hs v) ?_
      rintro v2 Sh2 P2 I2 ⟨x, S2, X2, e1, e2, e3, e4, e5⟩
      exact ⟨x, S2, X2, e1, e2, e3, e4, adP_of g66 eb e5⟩
  · have g66 : (mN v) = 3 := (nI_eq (by omega) (by omega)).mp h66
    refine zw_iload dX10_address_69 rfl ?_
    refine zw_if_eq 82 dX10_address_71 (by decide) (fun h71 => ?_) (fun h71 => ?_)
    · have g71 : (iN v) = 0 := (nI_eq (b := 0) (by omega) (by omega)).mp h71
      refine zw_aload_n dX10_address_82 rfl rfl ?_
      refine zw_iload dX10_address_83 rfl ?_
      refine zw_iload dX10_address_85 rfl ?_
      refine zw_if_ne 94 dX10_address_87 (by decide) (fun h87 => ?_) (fun h87 => ?_)
      · have g87 : ¬ (xN v) = 0 := fun z => h87 ((nI_eq (b := 0) (by omega) (by omega)).mpr z)
        refine zw_aload_n dX10_address_94 rfl rfl ?_
        refine rz_arr hz dX10_address_95 fX10_53 rfl ?_
        refine zw_iload_n dX10_address_98 rfl rfl ?_
        refine zw_iconst (nI 4) dX10_address_99 (by decide) ?_
        refine zw_iaddN dX10_address_100 ?_
        refine zw_iload dX10_address_101 rfl ?_
        refine zw_iaddN dX10_address_103 ?_
        refine rz_ald ((((30 * p) + 4) + (xN v))) hz dX10_address_104 rfl (by decide) (by show (((30 * p) + 4) + (xN v)) < 120; omega) rfl ?_
        refine zw_top (y := xv S p v) (by unfold xv; first | exact (if_pos g87).symm | exact (if_neg g87).symm) ?_
        refine zw_iadd dX10_address_105 ?_
        refine rz_putX hz dX10_address_106 fX10_136 rfl rfl ⟨rfl, rfl⟩ (by decide) ?_
        refine zw_iconst (nI 1) dX10_address_109 (by decide) ?_
        have ea : adr S p v = (S, 0, S 15 (30 * p + 1), 0, f_of v + xv S p v) := by unfold adr; rw [if_pos g66]; exact if_neg (by omega)
        exact rz_zret dX10_address_110 rfl rfl (by unfold adP; rw [ea]; exact ⟨rfl, fun _ => ⟨rfl, rfl, fun z => absurd g66 z, rfl⟩, fun z => absurd rfl z⟩)
      · have g87 : (xN v) = 0 := (nI_eq (b := 0) (by omega) (by omega)).mp h87
        refine zw_iconst (nI 0) dX10_address_90 (by decide) ?_
        refine zw_goto 105 dX10_address_91 (by decide) ?_
        refine zw_top (y := xv S p v) (by unfold xv; first | exact (if_pos g87).symm | exact (if_neg g87).symm) ?_
        refine zw_iadd dX10_address_105 ?_
        refine rz_putX hz dX10_address_106 fX10_136 rfl rfl ⟨rfl, rfl⟩ (by decide) ?_
        refine zw_iconst (nI 1) dX10_address_109 (by decide) ?_
        have ea : adr S p v = (S, 0, S 15 (30 * p + 1), 0, f_of v + xv S p v) := by unfold adr; rw [if_pos g66]; exact if_neg (by omega)
        exact rz_zret dX10_address_110 rfl rfl (by unfold adP; rw [ea]; exact ⟨rfl, fun _ => ⟨rfl, rfl, fun z => absurd g66 z, rfl⟩, fun z => absurd rfl z⟩)
    · have g71 : ¬ (iN v) = 0 := fun z => h71 ((nI_eq (b := 0) (by omega) (by omega)).mpr z)
      refine zw_aload_n dX10_address_74 rfl rfl ?_
      refine zw_iload_n dX10_address_75 rfl rfl ?_
      refine zw_bipush (nI 13) dX10_address_76 (by decide) ?_
      refine rz_callX hz dX10_address_78 eX10_address_78 (c_failsHere hz S p hp _) rfl rfl (Nat.le_of_ble_eq_true rfl) (fun x78 X78 q78 => ?_)
      have ea : adr S p v = here S p 13 := by unfold adr; rw [if_pos g66]; exact if_pos (by omega)
      exact rz_zret dX10_address_81 rfl (by rw [q78.1]; rfl) (by unfold adP; rw [ea]; exact ⟨rfl, fun z => absurd z (by show ¬ (13 : Nat) = 0; decide), fun _ => ⟨q78.1, by rw [q78.2]; rfl, by rw [q78.2]; rfl, by rw [q78.2]; rfl, by rw [q78.2]; rfl⟩⟩)
set_option maxHeartbeats 4000000 in
set_option maxRecDepth 100000 in
theorem c_address {G : ZG} {Sh : ZS} {P : ZP} {C : ZI} {X : ZX} (hz : zr_sh Sh P) (S : ZT) (p : Nat) (hp : p < 4) (hk : kOK S p) (hs : sOK S) (hd : ∀ s, s < 32 → dOK S s) (hr : rOK S p) (n0 : Nat) (hn0 : S 15 (30 * p + 2) = nI n0) (hn : n0 < kc S p) (v : Int32) : rc G cX10_address kX10_address Sh P C S X [.inl (nI p), .inl v] (adP S p v) := by
  refine zw_C.of (by decide) rfl (Nat.le_of_ble_eq_true rfl) ?_
  show zw G cX10_address kX10_address 0 0 0 [some (.inr (some (60, 99, 0))), some (.inl (nI p)), some (.inl v), none, none, none, none, none, none, none, none, none, none] [] Sh P (zl C S X) _
  have hi2 := (f_i_n v).2
  refine zw_bipush (nI 30) dX10_address_0 (by decide) ?_
  refine zw_iload_n dX10_address_2 rfl rfl ?_
  refine zw_imulN dX10_address_3 ?_
  refine zw_istore_n dX10_address_4 rfl (by decide) ?_
  dsimp only [List.set]
  refine zw_iload_n dX10_address_5 rfl rfl ?_
  refine zw_bipush (nI 24) dX10_address_6 (by decide) ?_
  refine zw_ishr dX10_address_8 ?_
  refine zw_iconst (nI 3) dX10_address_9 (by decide) ?_
  refine zw_iand dX10_address_10 ?_
  refine zw_top (y := nI (mN v)) (f_md_n v).1 ?_
  refine zw_istore dX10_address_11 (by decide) ?_
  dsimp only [List.set]
  refine zw_iload_n dX10_address_13 rfl rfl ?_
  refine zw_i2s dX10_address_14 ?_
  refine zw_top (y := f_of v) rfl ?_
  refine zw_istore dX10_address_15 (by decide) ?_
  dsimp only [List.set]
  refine zw_iload_n dX10_address_17 rfl rfl ?_
  refine zw_bipush (nI 19) dX10_address_18 (by decide) ?_
  refine zw_ishr dX10_address_20 ?_
  refine zw_iconst (nI 3) dX10_address_21 (by decide) ?_
  refine zw_iand dX10_address_22 ?_
  refine zw_top (y := nI (xN v)) (f_x_n v).1 ?_
  refine zw_istore dX10_address_23 (by decide) ?_
  dsimp only [List.set]
  refine zw_iload_n dX10_address_25 rfl rfl ?_
  refine zw_bipush (nI 21) dX10_address_26 (by decide) ?_
  refine zw_ishr dX10_address_28 ?_
  refine zw_bipush (nI 7) dX10_address_29 (by decide) ?_
  refine zw_iand dX10_address_31 ?_
  refine zw_top (y := nI (nN v)) (f_n_n v).1 ?_
  refine zw_istore dX10_address_32 (by decide) ?_
  dsimp only [List.set]
  refine zw_iload_n dX10_address_34 rfl rfl ?_
  refine zw_bipush (nI 26) dX10_address_35 (by decide) ?_
  refine zw_ishr dX10_address_37 ?_
  refine zw_iconst (nI 1) dX10_address_38 (by decide) ?_
  refine zw_iand dX10_address_39 ?_
  refine zw_top (y := nI (iN v)) (f_i_n v).1 ?_
  refine zw_iconst (nI 1) dX10_address_40 (by decide) ?_
  refine zw_icmp_ne 48 dX10_address_41 (by decide) (fun h41 => ?_) (fun h41 => ?_)
  · have g41 : ¬ ((iN v) = 1) := fun z => h41 ((nI_eq (by omega) (by omega)).mpr z)
    refine zw_iconst (nI 0) dX10_address_48 (by decide) ?_
    refine zw_top (y := nI (iN v)) (by first | rw [g41] | rw [show iN v = 0 by omega]) ?_
    refine zw_istore dX10_address_49 (by decide) ?_
    exact l_ad51 hz S p hp hk hs hd hr n0 hn0 hn v
  · have g41 : (iN v) = 1 := (nI_eq (by omega) (by omega)).mp h41
    refine zw_iconst (nI 1) dX10_address_44 (by decide) ?_
    refine zw_goto 49 dX10_address_45 (by decide) ?_
    refine zw_top (y := nI (iN v)) (by first | rw [g41] | rw [show iN v = 0 by omega]) ?_
    refine zw_istore dX10_address_49 (by decide) ?_
    exact l_ad51 hz S p hp hk hs hd hr n0 hn0 hn v
