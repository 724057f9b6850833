set_option maxHeartbeats 4000000 in
set_option maxRecDepth 100000 in
theorem l_wordOf {G : ZG} {Sh : ZS} {P : ZP} {C : ZI} {X : ZX} (hz : zr_sh Sh P) (S : ZT) (s : Nat) (hs : s < 32) (hd : dOK S s) (y : Int32) : ∀ (f : Nat) (k : Nat), k + f = df S s → zw G cX10_wordOf kX10_wordOf 0 0 2 [some (.inr (some (60, 99, 0))), some (.inl (nI s)), some (.inl y), some (.inl (nI k))] [] Sh P (zl C S X) (rq C Sh P (fun x S' X' => (S' = S ∧ X' = X) ∧ x = wofF S s y f k)) := by
  intro f
  induction f with
  | zero =>
    intro k hf
    have hd16 := hd.2
    refine zw_iload_n dX10_wordOf_2 rfl rfl ?_
    refine zw_aload_n dX10_wordOf_3 rfl rfl ?_
    refine rz_arr hz dX10_wordOf_4 fX10_40 rfl ?_
    refine zw_iload_n dX10_wordOf_7 rfl rfl ?_
    refine rz_ald (s) hz dX10_wordOf_8 rfl (by decide) (by show s < 32; omega) rfl ?_
    refine zw_top hd.1 ?_
    refine zw_icmp_ge 45 dX10_wordOf_9 (by decide) (fun h9 => ?_) (fun h9 => ?_)
    · refine zw_iconst (-1) dX10_wordOf_45 (by decide) ?_
      exact rz_iret dX10_wordOf_46 rfl ⟨⟨rfl, rfl⟩, rfl⟩
    · exact absurd ((nI_leI (by omega) (by omega)).mpr (by omega)) h9
  | succ f ih =>
    intro k hf
    have hd16 := hd.2
    refine zw_iload_n dX10_wordOf_2 rfl rfl ?_
    refine zw_aload_n dX10_wordOf_3 rfl rfl ?_
    refine rz_arr hz dX10_wordOf_4 fX10_40 rfl ?_
    refine zw_iload_n dX10_wordOf_7 rfl rfl ?_
    refine rz_ald (s) hz dX10_wordOf_8 rfl (by decide) (by show s < 32; omega) rfl ?_
    refine zw_top hd.1 ?_
    refine zw_icmp_ge 45 dX10_wordOf_9 (by decide) (fun h9 => ?_) (fun h9 => ?_)
    · exact absurd ((nI_leI (by omega) (by omega)).mp h9) (by omega)
    · refine zw_aload_n dX10_wordOf_12 rfl rfl ?_
      refine rz_arr hz dX10_wordOf_13 fX10_34 rfl ?_
      refine zw_bipush (nI 16) dX10_wordOf_16 (by decide) ?_
      refine zw_iload_n dX10_wordOf_18 rfl rfl ?_
      refine zw_imulN dX10_wordOf_19 ?_
      refine zw_iload_n dX10_wordOf_20 rfl rfl ?_
      refine zw_iaddN dX10_wordOf_21 ?_
      refine rz_ald (((16 * s) + k)) hz dX10_wordOf_22 rfl (by decide) (by show ((16 * s) + k) < 512; omega) rfl ?_
      refine zw_iload_n dX10_wordOf_23 rfl rfl ?_
      refine zw_icmp_ne 39 dX10_wordOf_24 (by decide) (fun h24 => ?_) (fun h24 => ?_)
      · have eq1 : wofF S s y (f + 1) k = wofF S s y f (k + 1) := by rw [wofF, if_neg h24]
        rw [eq1]
        refine zw_iinc (nI (k + 1)) dX10_wordOf_39 rfl (nI_1 _) (by decide) ?_
        dsimp only [List.set]
        refine zw_goto 2 dX10_wordOf_42 (by decide) ?_
        exact ih (k + 1) (by omega)
      · refine zw_aload_n dX10_wordOf_27 rfl rfl ?_
        refine rz_arr hz dX10_wordOf_28 fX10_37 rfl ?_
        refine zw_bipush (nI 16) dX10_wordOf_31 (by decide) ?_
        refine zw_iload_n dX10_wordOf_33 rfl rfl ?_
        refine zw_imulN dX10_wordOf_34 ?_
        refine zw_iload_n dX10_wordOf_35 rfl rfl ?_
        refine zw_iaddN dX10_wordOf_36 ?_
        refine rz_ald (((16 * s) + k)) hz dX10_wordOf_37 rfl (by decide) (by show ((16 * s) + k) < 512; omega) rfl ?_
        exact rz_iret dX10_wordOf_38 rfl ⟨⟨rfl, rfl⟩, by unfold wofF; rw [if_pos h24]⟩
set_option maxHeartbeats 4000000 in
set_option maxRecDepth 100000 in
theorem c_wordOf {G : ZG} {Sh : ZS} {P : ZP} {C : ZI} {X : ZX} (hz : zr_sh Sh P) (S : ZT) (s : Nat) (hs : s < 32) (hd : dOK S s) (y : Int32) : rc G cX10_wordOf kX10_wordOf Sh P C S X [.inl (nI s), .inl y] (fun x S' X' => (S' = S ∧ X' = X) ∧ (x = wof S s y)) := by
  refine zw_C.of (by decide) rfl (Nat.le_of_ble_eq_true rfl) ?_
  show zw G cX10_wordOf kX10_wordOf 0 0 0 [some (.inr (some (60, 99, 0))), some (.inl (nI s)), some (.inl y), none] [] Sh P (zl C S X) _
  refine zw_iconst (nI 0) dX10_wordOf_0 (by decide) ?_
  refine zw_istore_n dX10_wordOf_1 rfl (by decide) ?_
  dsimp only [List.set]
  exact l_wordOf hz S s hs hd y (df S s) 0 (by omega)
set_option maxHeartbeats 4000000 in
set_option maxRecDepth 100000 in
theorem l_knows {G : ZG} {Sh : ZS} {P : ZP} {C : ZI} {X : ZX} (hz : zr_sh Sh P) (S : ZT) (p : Nat) (hp : p < 4) (hk : kOK S p) (s : Nat) (hs : s < 32) : ∀ (f : Nat) (n : Nat), 8 ≤ n → n + f = kc S p → (knF S p s f n = kc S p → kc S p < 40) → zw G cX10_knows kX10_knows 0 0 3 [some (.inr (some (60, 99, 0))), some (.inl (nI p)), some (.inl (nI s)), some (.inl (nI n))] [] Sh P (zl C S X) (rq C Sh P (fun x S' X' => X' = X ∧ x = nI (knF S p s f n) ∧ (knF S p s f n < kc S p → S' = S) ∧ (knF S p s f n = kc S p → S' = us (us S 18 (40 * p + kc S p) (nI s)) 15 (30 * p + 16) (nI (kc S p + 1))))) := by
  intro f
  induction f with
  | zero =>
    intro n hn8 hf hrm
    have hkc := hk.2.2.1
    have hk8 := hk.2.1
    refine zw_iload_n dX10_knows_3 rfl rfl ?_
    refine zw_aload_n dX10_knows_4 rfl rfl ?_
    refine rz_arr hz dX10_knows_5 fX10_53 rfl ?_
    refine zw_bipush (nI 30) dX10_knows_8 (by decide) ?_
    refine zw_iload_n dX10_knows_10 rfl rfl ?_
    refine zw_imulN dX10_knows_11 ?_
    refine zw_bipush (nI 16) dX10_knows_12 (by decide) ?_
    refine zw_iaddN dX10_knows_14 ?_
    refine rz_ald (((30 * p) + 16)) hz dX10_knows_15 rfl (by decide) (by show ((30 * p) + 16) < 120; omega) rfl ?_
    refine zw_top hk.1 ?_
    refine zw_icmp_ge 42 dX10_knows_16 (by decide) (fun h16 => ?_) (fun h16 => ?_)
    · refine zw_aload_n dX10_knows_42 rfl rfl ?_
      refine rz_arr hz dX10_knows_43 fX10_53 rfl ?_
      refine zw_bipush (nI 30) dX10_knows_46 (by decide) ?_
      refine zw_iload_n dX10_knows_48 rfl rfl ?_
      refine zw_imulN dX10_knows_49 ?_
      refine zw_bipush (nI 16) dX10_knows_50 (by decide) ?_
      refine zw_iaddN dX10_knows_52 ?_
      refine rz_ald (((30 * p) + 16)) hz dX10_knows_53 rfl (by decide) (by show ((30 * p) + 16) < 120; omega) rfl ?_
      refine zw_top hk.1 ?_
      have hk40 : kc S p < 40 := hrm (by show knF S p s 0 n = _; unfold knF; omega)
      have hnk : n = kc S p := by omega
      refine zw_istore_n dX10_knows_54 rfl (by decide) ?_
      dsimp only [List.set]
      refine zw_aload_n dX10_knows_55 rfl rfl ?_
      refine rz_arr hz dX10_knows_56 fX10_62 rfl ?_
      refine zw_bipush (nI 40) dX10_knows_59 (by decide) ?_
      refine zw_iload_n dX10_knows_61 rfl rfl ?_
      refine zw_imulN dX10_knows_62 ?_
      refine zw_iload_n dX10_knows_63 rfl rfl ?_
      refine zw_iaddN dX10_knows_64 ?_
      refine zw_iload_n dX10_knows_65 rfl rfl ?_
      refine rz_ast (((40 * p) + (kc S p))) hz dX10_knows_66 rfl (by decide) (by show ((40 * p) + (kc S p)) < 160; omega) rfl ?_
      refine zw_aload_n dX10_knows_67 rfl rfl ?_
      refine rz_arr hz dX10_knows_68 fX10_53 rfl ?_
      refine zw_bipush (nI 30) dX10_knows_71 (by decide) ?_
      refine zw_iload_n dX10_knows_73 rfl rfl ?_
      refine zw_imulN dX10_knows_74 ?_
      refine zw_bipush (nI 16) dX10_knows_75 (by decide) ?_
      refine zw_iaddN dX10_knows_77 ?_
      refine zw_dup2 dX10_knows_78 ?_
      refine rz_ald (((30 * p) + 16)) hz dX10_knows_79 rfl (by decide) (by show ((30 * p) + 16) < 120; omega) rfl ?_
      have e80 : us S 18 (40 * p + kc S p) (nI s) 15 (30 * p + 16) = nI (kc S p) := by unfold us; simp; exact hk.1
      refine zw_top e80 ?_
      refine zw_iconst (nI 1) dX10_knows_80 (by decide) ?_
      refine zw_iaddN dX10_knows_81 ?_
      refine rz_ast (((30 * p) + 16)) hz dX10_knows_82 rfl (by decide) (by show ((30 * p) + 16) < 120; omega) rfl ?_
      refine zw_iload_n dX10_knows_83 rfl rfl ?_
      exact rz_iret dX10_knows_84 rfl ⟨rfl, by show nI (kc S p) = nI n; rw [hnk], fun z => absurd z (by show ¬ n < kc S p; omega), fun _ => rfl⟩
    · exact absurd ((nI_leI (by omega) (by omega)).mpr (by omega)) h16
  | succ f ih =>
    intro n hn8 hf hrm
    have hkc := hk.2.2.1
    have hk8 := hk.2.1
    refine zw_iload_n dX10_knows_3 rfl rfl ?_
    refine zw_aload_n dX10_knows_4 rfl rfl ?_
    refine rz_arr hz dX10_knows_5 fX10_53 rfl ?_
    refine zw_bipush (nI 30) dX10_knows_8 (by decide) ?_
    refine zw_iload_n dX10_knows_10 rfl rfl ?_
    refine zw_imulN dX10_knows_11 ?_
    refine zw_bipush (nI 16) dX10_knows_12 (by decide) ?_
    refine zw_iaddN dX10_knows_14 ?_
    refine rz_ald (((30 * p) + 16)) hz dX10_knows_15 rfl (by decide) (by show ((30 * p) + 16) < 120; omega) rfl ?_
    refine zw_top hk.1 ?_
    refine zw_icmp_ge 42 dX10_knows_16 (by decide) (fun h16 => ?_) (fun h16 => ?_)
    · exact absurd ((nI_leI (by omega) (by omega)).mp h16) (by omega)
    · refine zw_aload_n dX10_knows_19 rfl rfl ?_
      refine rz_arr hz dX10_knows_20 fX10_62 rfl ?_
      refine zw_bipush (nI 40) dX10_knows_23 (by decide) ?_
      refine zw_iload_n dX10_knows_25 rfl rfl ?_
      refine zw_imulN dX10_knows_26 ?_
      refine zw_iload_n dX10_knows_27 rfl rfl ?_
      refine zw_iaddN dX10_knows_28 ?_
      refine rz_ald (((40 * p) + n)) hz dX10_knows_29 rfl (by decide) (by show ((40 * p) + n) < 160; omega) rfl ?_
      refine zw_iload_n dX10_knows_30 rfl rfl ?_
      refine zw_icmp_ne 36 dX10_knows_31 (by decide) (fun h31 => ?_) (fun h31 => ?_)
      · have eq1 : knF S p s (f + 1) n = knF S p s f (n + 1) := by rw [knF, if_neg h31]
        rw [eq1] at hrm ⊢
        refine zw_iinc (nI (n + 1)) dX10_knows_36 rfl (nI_1 _) (by decide) ?_
        dsimp only [List.set]
        refine zw_goto 3 dX10_knows_39 (by decide) ?_
        exact ih (n + 1) (by omega) (by omega) hrm
      · refine zw_iload_n dX10_knows_34 rfl rfl ?_
        have eq1 : knF S p s (f + 1) n = n := by rw [knF, if_pos h31]
        exact rz_iret dX10_knows_35 rfl ⟨rfl, by rw [eq1], fun _ => rfl, fun z => absurd z (by rw [eq1]; omega)⟩
set_option maxHeartbeats 4000000 in
set_option maxRecDepth 100000 in
theorem c_knows {G : ZG} {Sh : ZS} {P : ZP} {C : ZI} {X : ZX} (hz : zr_sh Sh P) (S : ZT) (p : Nat) (hp : p < 4) (hk : kOK S p) (s : Nat) (hs : s < 32) (hrm : lrN S p s = kc S p → kc S p < 40) : rc G cX10_knows kX10_knows Sh P C S X [.inl (nI p), .inl (nI s)] (fun x S' X' => X' = X ∧ x = nI (lrN S p s) ∧ S' = lrS S p s) := by
  refine zw_C.of (by decide) rfl (Nat.le_of_ble_eq_true rfl) ?_
  show zw G cX10_knows kX10_knows 0 0 0 [some (.inr (some (60, 99, 0))), some (.inl (nI p)), some (.inl (nI s)), none] [] Sh P (zl C S X) _
  refine zw_bipush (nI 8) dX10_knows_0 (by decide) ?_
  refine zw_istore_n dX10_knows_2 rfl (by decide) ?_
  dsimp only [List.set]
  have hk8 := hk.2.1
  refine zw.mono (l_knows hz S p hp hk s hs (kc S p - 8) 8 (by omega) (by omega) hrm) ?_
  rintro v Sh2 P2 I2 ⟨x, S2, X2, e1, e2, e3, e4, e4b, e5, e6, e7⟩
  refine ⟨x, S2, X2, e1, e2, e3, e4, e4b, e5, ?_⟩
  have hle := knF_le S p s (kc S p - 8) 8
  unfold lrS
  by_cases hq : lrN S p s = kc S p
  · rw [if_pos hq]; exact e7 hq
  · rw [if_neg hq]; exact e6 (by unfold lrN at hq; omega)
