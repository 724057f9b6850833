set_option maxHeartbeats 4000000 in
set_option maxRecDepth 100000 in
theorem l_run {G : ZG} {Sh : ZS} {P : ZP} {C : ZI} (hz : zr_sh Sh P) (p : Nat) (hp : p < 4) (n : Nat) (hn : n ≤ 500) : ∀ (f d : Nat) (S : ZT) (B : Nat) (X : ZX), d + f = n → B + f ≤ 2 ^ 29 → RI S B → (kOK S p ∧ kD S p) → zw G cX10_run kX10_run 0 0 23 [some (.inr (some (60, 99, 0))), some (.inl (nI p)), some (.inl (nI n)), some (.inl (nI d))] [] Sh P (zl C S X) (rq C Sh P (fun x S' X' => x = nI (d + (rnF p f S).2) ∧ S' = (rnF p f S).1)) := by
  intro f
  induction f with
  | zero =>
    intro d S B X hf hB hR hkd
    have ed : d = n := by omega
    subst ed
    refine zw_iload_n dX10_run_23 rfl rfl ?_
    refine zw_iload_n dX10_run_24 rfl rfl ?_
    refine zw_icmp_ge 81 dX10_run_25 (by decide) (fun h25 => ?_) (fun h25 => ?_)
    · have g25 : d ≤ d := (nI_leI (by omega) (by omega)).mp h25
      refine zw_iload_n dX10_run_81 rfl rfl ?_
      exact rz_iret dX10_run_82 rfl ⟨by rw [rnF]; show nI d = nI (d + 0); rfl, by rw [rnF]⟩
    · exact absurd ((nI_leI (by omega) (by omega)).mpr (by omega)) h25
  | succ f ih =>
    intro d S B X hf hB hR hkd
    refine zw_iload_n dX10_run_23 rfl rfl ?_
    refine zw_iload_n dX10_run_24 rfl rfl ?_
    refine zw_icmp_ge 81 dX10_run_25 (by decide) (fun h25 => ?_) (fun h25 => ?_)
    · exact absurd ((nI_leI (by omega) (by omega)).mp h25) (by omega)
    · have g25 : ¬ (n ≤ d) := fun z => h25 ((nI_leI (by omega) (by omega)).mpr z)
      refine zw_aload_n dX10_run_28 rfl rfl ?_
      refine rz_arr hz dX10_run_29 fX10_53 rfl ?_
      refine zw_bipush (nI 30) dX10_run_32 (by decide) ?_
      refine zw_iload_n dX10_run_34 rfl rfl ?_
      refine zw_imulN dX10_run_35 ?_
      refine rz_ald ((30 * p)) hz dX10_run_36 rfl (by decide) (by show (30 * p) < 120; omega) rfl ?_
      refine zw_iconst (nI 1) dX10_run_37 (by decide) ?_
      refine zw_icmp_ne 81 dX10_run_38 (by decide) (fun h38 => ?_) (fun h38 => ?_)
      · refine zw_iload_n dX10_run_81 rfl rfl ?_
        exact rz_iret dX10_run_82 rfl ⟨by rw [rnF, if_neg h38]; show nI d = nI (d + 0); rfl, by rw [rnF, if_neg h38]⟩
      · refine zw_aload_n dX10_run_41 rfl rfl ?_
        refine zw_iconst (nI 0) dX10_run_42 (by decide) ?_
        refine rz_putX hz dX10_run_43 fX10_107 rfl rfl ⟨rfl, rfl⟩ (by decide) ?_
        refine zw_aload_n dX10_run_46 rfl rfl ?_
        refine zw_iload_n dX10_run_47 rfl rfl ?_
        refine rz_callV hz dX10_run_48 eX10_run_48 (c_does hz S p hp hkd.1 hR.1 hR.2.1 (rOK_of hR.1 hkd.1 hkd.2) ⟨hR.2.2.2.1, by have := hR.2.2.2.2; omega⟩) rfl rfl (Nat.le_of_ble_eq_true rfl) (fun x48 S48 X48 q48 => ?_)
        obtain ⟨e0, e1, e2⟩ := q48
        rw [e0]
        by_cases hc : (doS S p).2.1 = 0
        · rw [e1 hc]
          refine zw_if_ne 59 dX10_run_51 (by decide) (fun _ => ?_) (fun z => absurd z (by decide))
          have es : stp S p = us (doS S p).1 15 (30 * p + 13) ((doS S p).1 15 (30 * p + 13) + nI 1) := by unfold stp; show us (if _ then _ else _) _ _ ((if _ then _ else _ : ZT) _ _ + _) = _; rw [if_pos hc]
          refine zw_aload_n dX10_run_59 rfl rfl ?_
          refine rz_arr hz dX10_run_60 fX10_53 rfl ?_
          refine zw_bipush (nI 30) dX10_run_63 (by decide) ?_
          refine zw_iload_n dX10_run_65 rfl rfl ?_
          refine zw_imulN dX10_run_66 ?_
          refine zw_bipush (nI 13) dX10_run_67 (by decide) ?_
          refine zw_iaddN dX10_run_69 ?_
          refine zw_dup2 dX10_run_70 ?_
          refine rz_ald (((30 * p) + 13)) hz dX10_run_71 rfl (by decide) (by show ((30 * p) + 13) < 120; omega) rfl ?_
          refine zw_iconst (nI 1) dX10_run_72 (by decide) ?_
          refine zw_iadd dX10_run_73 ?_
          refine rz_ast (((30 * p) + 13)) hz dX10_run_74 rfl (by decide) (by show ((30 * p) + 13) < 120; omega) rfl ?_
          refine zw_iinc (nI (d + 1)) dX10_run_75 rfl (nI_1 _) (by decide) ?_
          dsimp only [List.set]
          refine zw_goto 23 dX10_run_78 (by decide) ?_
          rw [← es]
          have ef : rnF p (f + 1) S = ((rnF p f (stp S p)).1, (rnF p f (stp S p)).2 + 1) := by rw [rnF, if_pos h38]
          rw [ef]
          have hst := RI_stp hR (by omega) hkd
          refine zw.mono (ih (d + 1) (stp S p) (B + 1) _ (by omega) (by omega) hst.1 hst.2) ?_
          rintro v2 Sh2 P2 I2 ⟨x, S2, X2, g1, g2, g3, g4, g5, g6⟩
          exact ⟨x, S2, X2, g1, g2, g3, g4, by rw [g5]; show nI _ = nI _; congr 1; omega, g6⟩
        · obtain ⟨f1, f2, f3, f4, f5⟩ := e2 hc
          rw [f1]
          refine zw_if_ne 59 dX10_run_51 (by decide) (fun z => absurd rfl z) (fun _ => ?_)
          have es : stp S p = us (flt (doS S p).1 p (nI (doS S p).2.1) (doS S p).2.2.1 (doS S p).2.2.2.1 (doS S p).2.2.2.2) 15 (30 * p + 13) (flt (doS S p).1 p (nI (doS S p).2.1) (doS S p).2.2.1 (doS S p).2.2.2.1 (doS S p).2.2.2.2 15 (30 * p + 13) + nI 1) := by unfold stp; show us (if _ then _ else _) _ _ ((if _ then _ else _ : ZT) _ _ + _) = _; rw [if_neg hc]
          refine zw_aload_n dX10_run_54 rfl rfl ?_
          refine zw_iload_n dX10_run_55 rfl rfl ?_
          have hcf := c_faults (G := G) (C := C) (X := X48) hz (doS S p).1 p hp
          rw [f2, f3, f4, f5] at hcf
          refine rz_callT hz dX10_run_56 eX10_run_56 hcf rfl rfl (Nat.le_of_ble_eq_true rfl) ?_
          refine zw_aload_n dX10_run_59 rfl rfl ?_
          refine rz_arr hz dX10_run_60 fX10_53 rfl ?_
          refine zw_bipush (nI 30) dX10_run_63 (by decide) ?_
          refine zw_iload_n dX10_run_65 rfl rfl ?_
          refine zw_imulN dX10_run_66 ?_
          refine zw_bipush (nI 13) dX10_run_67 (by decide) ?_
          refine zw_iaddN dX10_run_69 ?_
          refine zw_dup2 dX10_run_70 ?_
          refine rz_ald (((30 * p) + 13)) hz dX10_run_71 rfl (by decide) (by show ((30 * p) + 13) < 120; omega) rfl ?_
          refine zw_iconst (nI 1) dX10_run_72 (by decide) ?_
          refine zw_iadd dX10_run_73 ?_
          refine rz_ast (((30 * p) + 13)) hz dX10_run_74 rfl (by decide) (by show ((30 * p) + 13) < 120; omega) rfl ?_
          refine zw_iinc (nI (d + 1)) dX10_run_75 rfl (nI_1 _) (by decide) ?_
          dsimp only [List.set]
          refine zw_goto 23 dX10_run_78 (by decide) ?_
          rw [← es]
          have ef : rnF p (f + 1) S = ((rnF p f (stp S p)).1, (rnF p f (stp S p)).2 + 1) := by rw [rnF, if_pos h38]
          rw [ef]
          have hst := RI_stp hR (by omega) hkd
          refine zw.mono (ih (d + 1) (stp S p) (B + 1) _ (by omega) (by omega) hst.1 hst.2) ?_
          rintro v2 Sh2 P2 I2 ⟨x, S2, X2, g1, g2, g3, g4, g5, g6⟩
          exact ⟨x, S2, X2, g1, g2, g3, g4, by rw [g5]; show nI _ = nI _; congr 1; omega, g6⟩
set_option maxHeartbeats 4000000 in
set_option maxRecDepth 100000 in
theorem c_run {G : ZG} {Sh : ZS} {P : ZP} {C : ZI} {X : ZX} (hz : zr_sh Sh P) (S : ZT) (B : Nat) (hB : B + 500 ≤ 2 ^ 29) (hR : RI S B) (p n : Int32) : rc G cX10_run kX10_run Sh P C S X [.inl p, .inl n] (fun x S' X' => ((zin p 4 ∧ 0 < S 15 (30 * zn p)) ∧ zin n 501 → x = nI (rnF (zn p) (zn n) S).2 ∧ S' = (rnF (zn p) (zn n) S).1) ∧ (¬ ((zin p 4 ∧ 0 < S 15 (30 * zn p)) ∧ zin n 501) → x = -1 ∧ S' = S)) := by
  refine zw_C.of (by decide) rfl (Nat.le_of_ble_eq_true rfl) ?_
  show zw G cX10_run kX10_run 0 0 0 [some (.inr (some (60, 99, 0))), some (.inl p), some (.inl n), none] [] Sh P (zl C S X) _
  refine zw_aload_n dX10_run_0 rfl rfl ?_
  refine zw_iload_n dX10_run_1 rfl rfl ?_
  refine rz_callP hz dX10_run_2 eX10_run_2 (c_isThere S hz _) rfl rfl (Nat.le_of_ble_eq_true rfl) (fun x2 q2 => ?_)
  subst q2
  refine zw_if_eq 19 dX10_run_5 (by decide) (fun h5 => ?_) (fun h5 => ?_)
  · have g5 := zb_eq h5
    refine zw_iconst (-1) dX10_run_19 (by decide) ?_
    exact rz_iret dX10_run_20 rfl ⟨fun z => absurd z (by first | exact fun z => g5 z.1 | exact fun z => g16 z.2), fun _ => ⟨rfl, rfl⟩⟩
  · have g5 := zb_ne h5
    refine zw_iload_n dX10_run_8 rfl rfl ?_
    refine zw_iconst (nI 0) dX10_run_9 (by decide) ?_
    refine zw_sipush (nI 500) dX10_run_10 (by decide) ?_
    refine rz_callS dX10_run_13 eX10_run_13 (c_in _ _ _) rfl rfl (Nat.le_of_ble_eq_true rfl) (fun x13 q13 => ?_)
    rw [zb_congr (in_zin2 (m := 500) (by omega))] at q13
    subst q13
    refine zw_if_ne 21 dX10_run_16 (by decide) (fun h16 => ?_) (fun h16 => ?_)
    · have g16 := zb_ne h16
      have hp1 := zin_zn g5.1 (by omega)
      have hn1 := zin_zn g16 (by omega)
      have ep : (.inl p : Zv) = .inl (nI (zn p)) := congrArg _ hp1.2
      have en : (.inl n : Zv) = .inl (nI (zn n)) := congrArg _ hn1.2
      rw [ep, en]
      refine zw_iconst (nI 0) dX10_run_21 (by decide) ?_
      refine zw_istore_n dX10_run_22 rfl (by decide) ?_
      dsimp only [List.set]
      refine zw.mono (l_run hz (zn p) hp1.1 (zn n) (by omega) (zn n) 0 S B _ (by omega) (by omega) hR (hR.2.2.1 _ hp1.1 g5.2)) ?_
      rintro v2 Sh2 P2 I2 ⟨x, S2, X2, g1, g2, g3, g4, g5x, g6⟩
      exact ⟨x, S2, X2, g1, g2, g3, g4, fun _ => ⟨by rw [g5x, Nat.zero_add], g6⟩, fun z => absurd ⟨g5, g16⟩ z⟩
    · have g16 := zb_eq h16
      refine zw_iconst (-1) dX10_run_19 (by decide) ?_
      exact rz_iret dX10_run_20 rfl ⟨fun z => absurd z (by first | exact fun z => g5 z.1 | exact fun z => g16 z.2), fun _ => ⟨rfl, rfl⟩⟩
