set_option maxHeartbeats 4000000 in
set_option maxRecDepth 100000 in
theorem c_in {G : ZG} {Sh : ZS} {P : ZP} {I : ZI} (v a b : Int32) : sc G cX10_in kX10_in Sh P I [.inl v, .inl a, .inl b] (fun x => x = zb (a ≤ v ∧ v ≤ b)) := by
  refine zw_C.of (by decide) rfl (Nat.le_of_ble_eq_true rfl) ?_
  show zw G cX10_in kX10_in 0 0 0 [some (.inl v), some (.inl a), some (.inl b)] [] Sh P I _
  refine zw_iload_n dX10_in_0 rfl rfl ?_
  refine zw_iload_n dX10_in_1 rfl rfl ?_
  refine zw_icmp_lt 14 dX10_in_2 (by decide) (fun h2 => ?_) (fun h2 => ?_)
  · refine zw_iconst (nI 0) dX10_in_14 (by decide) ?_
    first | exact sz_zret dX10_in_15 rfl rfl (zb_f (fun z => absurd z.1 (Int32.not_le.mpr h2))).symm | exact sz_zret dX10_in_15 rfl rfl (zb_f (fun z => absurd z.2 (Int32.not_le.mpr h7))).symm | exact sz_zret dX10_in_15 rfl rfl (zb_t ⟨Int32.not_lt.mp h2, Int32.not_lt.mp h7⟩).symm
  · refine zw_iload_n dX10_in_5 rfl rfl ?_
    refine zw_iload_n dX10_in_6 rfl rfl ?_
    refine zw_icmp_gt 14 dX10_in_7 (by decide) (fun h7 => ?_) (fun h7 => ?_)
    · refine zw_iconst (nI 0) dX10_in_14 (by decide) ?_
      first | exact sz_zret dX10_in_15 rfl rfl (zb_f (fun z => absurd z.1 (Int32.not_le.mpr h2))).symm | exact sz_zret dX10_in_15 rfl rfl (zb_f (fun z => absurd z.2 (Int32.not_le.mpr h7))).symm | exact sz_zret dX10_in_15 rfl rfl (zb_t ⟨Int32.not_lt.mp h2, Int32.not_lt.mp h7⟩).symm
    · refine zw_iconst (nI 1) dX10_in_10 (by decide) ?_
      refine zw_goto 15 dX10_in_11 (by decide) ?_
      first | exact sz_zret dX10_in_15 rfl rfl (zb_f (fun z => absurd z.1 (Int32.not_le.mpr h2))).symm | exact sz_zret dX10_in_15 rfl rfl (zb_f (fun z => absurd z.2 (Int32.not_le.mpr h7))).symm | exact sz_zret dX10_in_15 rfl rfl (zb_t ⟨Int32.not_lt.mp h2, Int32.not_lt.mp h7⟩).symm
set_option maxHeartbeats 4000000 in
set_option maxRecDepth 100000 in
theorem c_isSegment {G : ZG} {Sh : ZS} {P : ZP} {C : ZI} {X : ZX} (S : ZT) (hz : zr_sh Sh P) (hs : sOK S) (s : Int32) : rc G cX10_isSegment kX10_isSegment Sh P C S X [.inl s] (fun x S' X' => (S' = S ∧ X' = X) ∧ (x = zb (zin s (sg S)))) := by
  refine zw_C.of (by decide) rfl (Nat.le_of_ble_eq_true rfl) ?_
  show zw G cX10_isSegment kX10_isSegment 0 0 0 [some (.inr (some (60, 99, 0))), some (.inl s)] [] Sh P (zl C S X) _
  refine zw_iload_n dX10_isSegment_0 rfl rfl ?_
  refine zw_iconst (nI 0) dX10_isSegment_1 (by decide) ?_
  refine zw_aload_n dX10_isSegment_2 rfl rfl ?_
  refine rz_int hz dX10_isSegment_3 fX10_77 rfl (by decide) ?_
  refine zw_iconst (nI 1) dX10_isSegment_6 (by decide) ?_
  refine zw_isub dX10_isSegment_7 ?_
  refine rz_callS dX10_isSegment_8 eX10_isSegment_8 (c_in _ _ _) rfl rfl (Nat.le_of_ble_eq_true rfl) (fun x8 q8 => ?_)
  rw [hs.1] at q8
  exact rz_zret dX10_isSegment_11 rfl (by rw [q8]; exact zb_nar _) ⟨⟨rfl, rfl⟩, by rw [q8]; exact zb_congr (in_zin (by have := hs.2.1; omega))⟩
set_option maxHeartbeats 4000000 in
set_option maxRecDepth 100000 in
theorem c_isThere {G : ZG} {Sh : ZS} {P : ZP} {C : ZI} {X : ZX} (S : ZT) (hz : zr_sh Sh P) (p : Int32) : rc G cX10_isThere kX10_isThere Sh P C S X [.inl p] (fun x S' X' => (S' = S ∧ X' = X) ∧ (x = zb (zin p 4 ∧ 0 < S 15 (30 * zn p)))) := by
  refine zw_C.of (by decide) rfl (Nat.le_of_ble_eq_true rfl) ?_
  show zw G cX10_isThere kX10_isThere 0 0 0 [some (.inr (some (60, 99, 0))), some (.inl p)] [] Sh P (zl C S X) _
  refine zw_iload_n dX10_isThere_0 rfl rfl ?_
  refine zw_iconst (nI 0) dX10_isThere_1 (by decide) ?_
  refine zw_iconst (nI 3) dX10_isThere_2 (by decide) ?_
  refine rz_callS dX10_isThere_3 eX10_isThere_3 (c_in _ _ _) rfl rfl (Nat.le_of_ble_eq_true rfl) (fun x3 q3 => ?_)
  have hin := zb_congr (in_zin2 (x := p) (m := 3) (by decide))
  rw [hin] at q3
  refine zw_if_eq 25 dX10_isThere_6 (by decide) (fun h6 => ?_) (fun h6 => ?_)
  · rw [q3] at h6
    refine zw_iconst (nI 0) dX10_isThere_25 (by decide) ?_
    first | exact rz_zret dX10_isThere_26 rfl rfl ⟨⟨rfl, rfl⟩, (zb_f (fun z => absurd z.1 (zb_eq h6))).symm⟩ | exact rz_zret dX10_isThere_26 rfl rfl ⟨⟨rfl, rfl⟩, (zb_f (fun z => absurd z.2 (by rw [zn_nI (by omega)]; exact Int32.not_lt.mpr h18))).symm⟩ | exact rz_zret dX10_isThere_26 rfl rfl ⟨⟨rfl, rfl⟩, (zb_t ⟨(zin_nI (by decide) (by omega)).mpr hp, by rw [zn_nI (by omega)]; exact Int32.not_le.mp h18⟩).symm⟩
  · rw [q3] at h6
    obtain ⟨p, hp, rfl⟩ := zin_of (zb_ne h6) (by decide)
    refine zw_aload_n dX10_isThere_9 rfl rfl ?_
    refine rz_arr hz dX10_isThere_10 fX10_53 rfl ?_
    refine zw_bipush (nI 30) dX10_isThere_13 (by decide) ?_
    refine zw_iload_n dX10_isThere_15 rfl rfl ?_
    refine zw_imulN dX10_isThere_16 ?_
    refine rz_ald ((30 * p)) hz dX10_isThere_17 rfl (by decide) (by show (30 * p) < 120; omega) rfl ?_
    refine zw_if_le 25 dX10_isThere_18 (by decide) (fun h18 => ?_) (fun h18 => ?_)
    · refine zw_iconst (nI 0) dX10_isThere_25 (by decide) ?_
      first | exact rz_zret dX10_isThere_26 rfl rfl ⟨⟨rfl, rfl⟩, (zb_f (fun z => absurd z.1 (zb_eq h6))).symm⟩ | exact rz_zret dX10_isThere_26 rfl rfl ⟨⟨rfl, rfl⟩, (zb_f (fun z => absurd z.2 (by rw [zn_nI (by omega)]; exact Int32.not_lt.mpr h18))).symm⟩ | exact rz_zret dX10_isThere_26 rfl rfl ⟨⟨rfl, rfl⟩, (zb_t ⟨(zin_nI (by decide) (by omega)).mpr hp, by rw [zn_nI (by omega)]; exact Int32.not_le.mp h18⟩).symm⟩
    · refine zw_iconst (nI 1) dX10_isThere_21 (by decide) ?_
      refine zw_goto 26 dX10_isThere_22 (by decide) ?_
      first | exact rz_zret dX10_isThere_26 rfl rfl ⟨⟨rfl, rfl⟩, (zb_f (fun z => absurd z.1 (zb_eq h6))).symm⟩ | exact rz_zret dX10_isThere_26 rfl rfl ⟨⟨rfl, rfl⟩, (zb_f (fun z => absurd z.2 (by rw [zn_nI (by omega)]; exact Int32.not_lt.mpr h18))).symm⟩ | exact rz_zret dX10_isThere_26 rfl rfl ⟨⟨rfl, rfl⟩, (zb_t ⟨(zin_nI (by decide) (by omega)).mpr hp, by rw [zn_nI (by omega)]; exact Int32.not_le.mp h18⟩).symm⟩
set_option maxHeartbeats 4000000 in
set_option maxRecDepth 100000 in
theorem c_isKnown {G : ZG} {Sh : ZS} {P : ZP} {C : ZI} {X : ZX} (hz : zr_sh Sh P) (S : ZT) (p : Nat) (hp : p < 4) (hk : kOK S p) (n : Int32) : rc G cX10_isKnown kX10_isKnown Sh P C S X [.inl (nI p), .inl n] (fun x S' X' => (S' = S ∧ X' = X) ∧ (x = zb (zin n (kc S p)))) := by
  refine zw_C.of (by decide) rfl (Nat.le_of_ble_eq_true rfl) ?_
  show zw G cX10_isKnown kX10_isKnown 0 0 0 [some (.inr (some (60, 99, 0))), some (.inl (nI p)), some (.inl n)] [] Sh P (zl C S X) _
  refine zw_iload_n dX10_isKnown_0 rfl rfl ?_
  refine zw_iconst (nI 0) dX10_isKnown_1 (by decide) ?_
  refine zw_aload_n dX10_isKnown_2 rfl rfl ?_
  refine rz_arr hz dX10_isKnown_3 fX10_53 rfl ?_
  refine zw_bipush (nI 30) dX10_isKnown_6 (by decide) ?_
  refine zw_iload_n dX10_isKnown_8 rfl rfl ?_
  refine zw_imulN dX10_isKnown_9 ?_
  refine zw_bipush (nI 16) dX10_isKnown_10 (by decide) ?_
  refine zw_iaddN dX10_isKnown_12 ?_
  refine rz_ald (((30 * p) + 16)) hz dX10_isKnown_13 rfl (by decide) (by show ((30 * p) + 16) < 120; omega) rfl ?_
  refine zw_iconst (nI 1) dX10_isKnown_14 (by decide) ?_
  refine zw_isub dX10_isKnown_15 ?_
  refine rz_callS dX10_isKnown_16 eX10_isKnown_16 (c_in _ _ _) rfl rfl (Nat.le_of_ble_eq_true rfl) (fun x16 q16 => ?_)
  rw [hk.1] at q16
  exact rz_zret dX10_isKnown_19 rfl (by rw [q16]; exact zb_nar _) ⟨⟨rfl, rfl⟩, by rw [q16]; exact zb_congr (in_zin (by have := hk.2.2.1; omega))⟩
set_option maxHeartbeats 4000000 in
set_option maxRecDepth 100000 in
theorem c_sizeOf {G : ZG} {Sh : ZS} {P : ZP} {C : ZI} {X : ZX} (hz : zr_sh Sh P) (S : ZT) (p : Nat) (hp : p < 4) (hk : kOK S p) (hs : sOK S) (n : Nat) (hn : n < kc S p) : rc G cX10_sizeOf kX10_sizeOf Sh P C S X [.inl (nI p), .inl (nI n)] (fun x S' X' => (S' = S ∧ X' = X) ∧ (x = nI (sz S p n))) := by
  refine zw_C.of (by decide) rfl (Nat.le_of_ble_eq_true rfl) ?_
  show zw G cX10_sizeOf kX10_sizeOf 0 0 0 [some (.inr (some (60, 99, 0))), some (.inl (nI p)), some (.inl (nI n))] [] Sh P (zl C S X) _
  have hkc := hk.2.2.1
  have hsg := hs.2.1
  refine zw_iload_n dX10_sizeOf_0 rfl rfl ?_
  refine zw_bipush (nI 8) dX10_sizeOf_1 (by decide) ?_
  refine zw_icmp_ge 11 dX10_sizeOf_3 (by decide) (fun h3 => ?_) (fun h3 => ?_)
  · have h8 : 8 ≤ n := (nI_leI (by omega) (by omega)).mp h3
    refine zw_aload_n dX10_sizeOf_11 rfl rfl ?_
    refine rz_arr hz dX10_sizeOf_12 fX10_13 rfl ?_
    refine zw_aload_n dX10_sizeOf_15 rfl rfl ?_
    refine rz_arr hz dX10_sizeOf_16 fX10_62 rfl ?_
    refine zw_bipush (nI 40) dX10_sizeOf_19 (by decide) ?_
    refine zw_iload_n dX10_sizeOf_21 rfl rfl ?_
    refine zw_imulN dX10_sizeOf_22 ?_
    refine zw_iload_n dX10_sizeOf_23 rfl rfl ?_
    refine zw_iaddN dX10_sizeOf_24 ?_
    refine rz_ald (((40 * p) + n)) hz dX10_sizeOf_25 rfl (by decide) (by show ((40 * p) + n) < 160; omega) rfl ?_
    have hkn := hk.2.2.2 n h8 hn
    have hkl : kn S p n < 32 := by have := hkn.2; omega
    refine zw_top hkn.1 ?_
    refine rz_ald ((kn S p n)) hz dX10_sizeOf_26 rfl (by decide) (by show (kn S p n) < 32; omega) rfl ?_
    first | exact rz_iret dX10_sizeOf_27 rfl ⟨⟨rfl, rfl⟩, by unfold sz; rw [if_pos h8]⟩ | exact rz_iret dX10_sizeOf_27 rfl ⟨⟨rfl, rfl⟩, by unfold sz; rw [if_neg (by omega)]; exact (hs.2.2 _ hkn.2).1⟩
  · have h8 : n < 8 := by rcases Nat.lt_or_ge n 8 with h | h; exact h; exact absurd ((nI_leI (by omega) (by omega)).mpr h) h3
    refine zw_bipush (nI 64) dX10_sizeOf_6 (by decide) ?_
    refine zw_goto 27 dX10_sizeOf_8 (by decide) ?_
    first | exact rz_iret dX10_sizeOf_27 rfl ⟨⟨rfl, rfl⟩, by unfold sz; rw [if_pos h8]⟩ | exact rz_iret dX10_sizeOf_27 rfl ⟨⟨rfl, rfl⟩, by unfold sz; rw [if_neg (by omega)]; exact (hs.2.2 _ hkn.2).1⟩
set_option maxHeartbeats 4000000 in
set_option maxRecDepth 100000 in
theorem c_flagsOf {G : ZG} {Sh : ZS} {P : ZP} {C : ZI} {X : ZX} (hz : zr_sh Sh P) (S : ZT) (p : Nat) (hp : p < 4) (hk : kOK S p) (hs : sOK S) (n : Nat) (hn : n < kc S p) : rc G cX10_flagsOf kX10_flagsOf Sh P C S X [.inl (nI p), .inl (nI n)] (fun x S' X' => (S' = S ∧ X' = X) ∧ (x = fg S p n)) := by
  refine zw_C.of (by decide) rfl (Nat.le_of_ble_eq_true rfl) ?_
  show zw G cX10_flagsOf kX10_flagsOf 0 0 0 [some (.inr (some (60, 99, 0))), some (.inl (nI p)), some (.inl (nI n))] [] Sh P (zl C S X) _
  have hkc := hk.2.2.1
  have hsg := hs.2.1
  refine zw_iload_n dX10_flagsOf_0 rfl rfl ?_
  refine zw_bipush (nI 8) dX10_flagsOf_1 (by decide) ?_
  refine zw_icmp_ge 10 dX10_flagsOf_3 (by decide) (fun h3 => ?_) (fun h3 => ?_)
  · have h8 : 8 ≤ n := (nI_leI (by omega) (by omega)).mp h3
    refine zw_aload_n dX10_flagsOf_10 rfl rfl ?_
    refine rz_arr hz dX10_flagsOf_11 fX10_28 rfl ?_
    refine zw_iconst (nI 4) dX10_flagsOf_14 (by decide) ?_
    refine zw_aload_n dX10_flagsOf_15 rfl rfl ?_
    refine rz_arr hz dX10_flagsOf_16 fX10_62 rfl ?_
    refine zw_bipush (nI 40) dX10_flagsOf_19 (by decide) ?_
    refine zw_iload_n dX10_flagsOf_21 rfl rfl ?_
    refine zw_imulN dX10_flagsOf_22 ?_
    refine zw_iload_n dX10_flagsOf_23 rfl rfl ?_
    refine zw_iaddN dX10_flagsOf_24 ?_
    refine rz_ald (((40 * p) + n)) hz dX10_flagsOf_25 rfl (by decide) (by show ((40 * p) + n) < 160; omega) rfl ?_
    have hkn := hk.2.2.2 n h8 hn
    have hkl : kn S p n < 32 := by have := hkn.2; omega
    refine zw_top hkn.1 ?_
    refine zw_imulN dX10_flagsOf_26 ?_
    refine zw_iload_n dX10_flagsOf_27 rfl rfl ?_
    refine zw_iaddN dX10_flagsOf_28 ?_
    refine rz_ald (((4 * (kn S p n)) + p)) hz dX10_flagsOf_29 rfl (by decide) (by show ((4 * (kn S p n)) + p) < 128; omega) rfl ?_
    first | exact rz_iret dX10_flagsOf_30 rfl ⟨⟨rfl, rfl⟩, by unfold fg; rw [if_pos h8]; rfl⟩ | exact rz_iret dX10_flagsOf_30 rfl ⟨⟨rfl, rfl⟩, by unfold fg; rw [if_neg (by omega)]⟩
  · have h8 : n < 8 := by rcases Nat.lt_or_ge n 8 with h | h; exact h; exact absurd ((nI_leI (by omega) (by omega)).mpr h) h3
    refine zw_iconst (nI 3) dX10_flagsOf_6 (by decide) ?_
    refine zw_goto 30 dX10_flagsOf_7 (by decide) ?_
    first | exact rz_iret dX10_flagsOf_30 rfl ⟨⟨rfl, rfl⟩, by unfold fg; rw [if_pos h8]; rfl⟩ | exact rz_iret dX10_flagsOf_30 rfl ⟨⟨rfl, rfl⟩, by unfold fg; rw [if_neg (by omega)]⟩
set_option maxHeartbeats 4000000 in
set_option maxRecDepth 100000 in
theorem c_ringOf {G : ZG} {Sh : ZS} {P : ZP} {C : ZI} {X : ZX} (hz : zr_sh Sh P) (S : ZT) (p : Nat) (hp : p < 4) (hk : kOK S p) (hs : sOK S) (n : Nat) (hn : n < kc S p) (w : Nat) (hw : w = 1 ∨ w = 2 ∨ w = 3) : rc G cX10_ringOf kX10_ringOf Sh P C S X [.inl (nI p), .inl (nI n), .inl (nI w)] (fun x S' X' => (S' = S ∧ X' = X) ∧ (x = rg S p n w)) := by
  refine zw_C.of (by decide) rfl (Nat.le_of_ble_eq_true rfl) ?_
  show zw G cX10_ringOf kX10_ringOf 0 0 0 [some (.inr (some (60, 99, 0))), some (.inl (nI p)), some (.inl (nI n)), some (.inl (nI w)), none] [] Sh P (zl C S X) _
  have hkc := hk.2.2.1
  have hsg := hs.2.1
  refine zw_iload_n dX10_ringOf_0 rfl rfl ?_
  refine zw_bipush (nI 8) dX10_ringOf_1 (by decide) ?_
  refine zw_icmp_ge 8 dX10_ringOf_3 (by decide) (fun h3 => ?_) (fun h3 => ?_)
  · have h8 : 8 ≤ n := (nI_leI (by omega) (by omega)).mp h3
    refine zw_aload_n dX10_ringOf_8 rfl rfl ?_
    refine rz_arr hz dX10_ringOf_9 fX10_62 rfl ?_
    refine zw_bipush (nI 40) dX10_ringOf_12 (by decide) ?_
    refine zw_iload_n dX10_ringOf_14 rfl rfl ?_
    refine zw_imulN dX10_ringOf_15 ?_
    refine zw_iload_n dX10_ringOf_16 rfl rfl ?_
    refine zw_iaddN dX10_ringOf_17 ?_
    refine rz_ald (((40 * p) + n)) hz dX10_ringOf_18 rfl (by decide) (by show ((40 * p) + n) < 160; omega) rfl ?_
    have hkn := hk.2.2.2 n h8 hn
    have hkl : kn S p n < 32 := by have := hkn.2; omega
    refine zw_top hkn.1 ?_
    refine zw_istore dX10_ringOf_19 (by decide) ?_
    dsimp only [List.set]
    refine zw_iload_n dX10_ringOf_21 rfl rfl ?_
    refine zw_iconst (nI 1) dX10_ringOf_22 (by decide) ?_
    refine zw_icmp_ne 36 dX10_ringOf_23 (by decide) (fun h23 => ?_) (fun h23 => ?_)
    · have hw1 : ¬ w = 1 := fun z => h23 (by rw [z])
      refine zw_iload_n dX10_ringOf_36 rfl rfl ?_
      refine zw_iconst (nI 2) dX10_ringOf_37 (by decide) ?_
      refine zw_icmp_ne 51 dX10_ringOf_38 (by decide) (fun h38 => ?_) (fun h38 => ?_)
      · have hw2 : ¬ w = 2 := fun z => h38 (by rw [z])
        refine zw_aload_n dX10_ringOf_51 rfl rfl ?_
        refine rz_arr hz dX10_ringOf_52 fX10_22 rfl ?_
        refine zw_iload dX10_ringOf_55 rfl ?_
        refine rz_ald ((kn S p n)) hz dX10_ringOf_57 rfl (by decide) (by show (kn S p n) < 32; omega) rfl ?_
        first | exact rz_iret dX10_ringOf_58 rfl ⟨⟨rfl, rfl⟩, by unfold rg; rw [if_neg (by omega), hw1]⟩ | exact rz_iret dX10_ringOf_58 rfl ⟨⟨rfl, rfl⟩, by unfold rg; rw [if_neg (by omega), hw2]⟩ | exact rz_iret dX10_ringOf_58 rfl ⟨⟨rfl, rfl⟩, by unfold rg; rw [if_neg (by omega), show w = 3 by omega]⟩
      · have hw2 : w = 2 := (nI_eq (by omega) (by omega)).mp h38
        refine zw_aload_n dX10_ringOf_41 rfl rfl ?_
        refine rz_arr hz dX10_ringOf_42 fX10_19 rfl ?_
        refine zw_iload dX10_ringOf_45 rfl ?_
        refine rz_ald ((kn S p n)) hz dX10_ringOf_47 rfl (by decide) (by show (kn S p n) < 32; omega) rfl ?_
        refine zw_goto 58 dX10_ringOf_48 (by decide) ?_
        first | exact rz_iret dX10_ringOf_58 rfl ⟨⟨rfl, rfl⟩, by unfold rg; rw [if_neg (by omega), hw1]⟩ | exact rz_iret dX10_ringOf_58 rfl ⟨⟨rfl, rfl⟩, by unfold rg; rw [if_neg (by omega), hw2]⟩ | exact rz_iret dX10_ringOf_58 rfl ⟨⟨rfl, rfl⟩, by unfold rg; rw [if_neg (by omega), show w = 3 by omega]⟩
    · have hw1 : w = 1 := (nI_eq (by omega) (by omega)).mp h23
      refine zw_aload_n dX10_ringOf_26 rfl rfl ?_
      refine rz_arr hz dX10_ringOf_27 fX10_16 rfl ?_
      refine zw_iload dX10_ringOf_30 rfl ?_
      refine rz_ald ((kn S p n)) hz dX10_ringOf_32 rfl (by decide) (by show (kn S p n) < 32; omega) rfl ?_
      refine zw_goto 58 dX10_ringOf_33 (by decide) ?_
      first | exact rz_iret dX10_ringOf_58 rfl ⟨⟨rfl, rfl⟩, by unfold rg; rw [if_neg (by omega), hw1]⟩ | exact rz_iret dX10_ringOf_58 rfl ⟨⟨rfl, rfl⟩, by unfold rg; rw [if_neg (by omega), hw2]⟩ | exact rz_iret dX10_ringOf_58 rfl ⟨⟨rfl, rfl⟩, by unfold rg; rw [if_neg (by omega), show w = 3 by omega]⟩
  · have h8 : n < 8 := by rcases Nat.lt_or_ge n 8 with h | h; exact h; exact absurd ((nI_leI (by omega) (by omega)).mpr h) h3
    refine zw_iload_n dX10_ringOf_6 rfl rfl ?_
    exact rz_iret dX10_ringOf_7 rfl ⟨⟨rfl, rfl⟩, by unfold rg; rw [if_pos h8]⟩
set_option maxHeartbeats 4000000 in
set_option maxRecDepth 100000 in
theorem c_mayDo {G : ZG} {Sh : ZS} {P : ZP} {C : ZI} {X : ZX} (hz : zr_sh Sh P) (S : ZT) (p : Nat) (hp : p < 4) (hk : kOK S p) (hs : sOK S) (n : Nat) (hn : n < kc S p) (e : Int32) (how : Nat) (hh : how < 3) : rc G cX10_mayDo kX10_mayDo Sh P C S X [.inl (nI p), .inl e, .inl (nI n), .inl (nI how)] (fun x S' X' => (S' = S ∧ X' = X) ∧ (x = zb (mayb S p e n how = true))) := by
  refine zw_C.of (by decide) rfl (Nat.le_of_ble_eq_true rfl) ?_
  show zw G cX10_mayDo kX10_mayDo 0 0 0 [some (.inr (some (60, 99, 0))), some (.inl (nI p)), some (.inl e), some (.inl (nI n)), some (.inl (nI how)), none] [] Sh P (zl C S X) _
  refine zw_aload_n dX10_mayDo_0 rfl rfl ?_
  refine zw_iload_n dX10_mayDo_1 rfl rfl ?_
  refine zw_iload_n dX10_mayDo_2 rfl rfl ?_
  refine rz_callP hz dX10_mayDo_3 eX10_mayDo_3 (c_flagsOf hz S p hp hk hs n hn) rfl rfl (Nat.le_of_ble_eq_true rfl) (fun x3 q3 => ?_)
  subst q3
  refine zw_istore dX10_mayDo_6 (by decide) ?_
  dsimp only [List.set]
  refine zw_iload dX10_mayDo_8 rfl ?_
  refine zw_if_ne 38 dX10_mayDo_10 (by decide) (fun h10 => ?_) (fun h10 => ?_)
  · have hh0 : ¬ how = 0 := fun z => h10 (by rw [z]; rfl)
    refine zw_iload dX10_mayDo_38 rfl ?_
    refine zw_iconst (nI 1) dX10_mayDo_40 (by decide) ?_
    refine zw_icmp_ne 69 dX10_mayDo_41 (by decide) (fun h41 => ?_) (fun h41 => ?_)
    · have hh1 : ¬ how = 1 := fun z => h41 (by rw [z])
      have hh2 : how = 2 := by omega
      subst hh2
      refine zw_iload dX10_mayDo_69 rfl ?_
      refine zw_iconst (nI 4) dX10_mayDo_71 (by decide) ?_
      refine zw_iand dX10_mayDo_72 ?_
      refine zw_iconst (nI 4) dX10_mayDo_73 (by decide) ?_
      refine zw_icmp_ne 103 dX10_mayDo_74 (by decide) (fun h74 => ?_) (fun h74 => ?_)
      · refine zw_iconst (nI 0) dX10_mayDo_103 (by decide) ?_
        refine rz_zret dX10_mayDo_104 rfl rfl ⟨⟨rfl, rfl⟩, Eq.symm ?_⟩
        show zb (decide (_ ∧ _ ∧ _) = true) = _
        first | exact zb_t (decide_eq_true ⟨h74, Int32.not_lt.mp h85, Int32.not_lt.mp h96⟩) | exact zb_f (fun z => absurd (of_decide_eq_true z).1 h74) | exact zb_f (fun z => absurd (of_decide_eq_true z).2.1 (Int32.not_le.mpr h85)) | exact zb_f (fun z => absurd (of_decide_eq_true z).2.2 (Int32.not_le.mpr h96))
      · refine zw_iload_n dX10_mayDo_77 rfl rfl ?_
        refine zw_aload_n dX10_mayDo_78 rfl rfl ?_
        refine zw_iload_n dX10_mayDo_79 rfl rfl ?_
        refine zw_iload_n dX10_mayDo_80 rfl rfl ?_
        refine zw_iconst (nI 1) dX10_mayDo_81 (by decide) ?_
        refine rz_callP hz dX10_mayDo_82 eX10_mayDo_82 (c_ringOf hz S p hp hk hs n hn 1 (by omega)) rfl rfl (Nat.le_of_ble_eq_true rfl) (fun x82 q82 => ?_)
        subst q82
        refine zw_icmp_lt 103 dX10_mayDo_85 (by decide) (fun h85 => ?_) (fun h85 => ?_)
        · refine zw_iconst (nI 0) dX10_mayDo_103 (by decide) ?_
          refine rz_zret dX10_mayDo_104 rfl rfl ⟨⟨rfl, rfl⟩, Eq.symm ?_⟩
          show zb (decide (_ ∧ _ ∧ _) = true) = _
          first | exact zb_t (decide_eq_true ⟨h74, Int32.not_lt.mp h85, Int32.not_lt.mp h96⟩) | exact zb_f (fun z => absurd (of_decide_eq_true z).1 h74) | exact zb_f (fun z => absurd (of_decide_eq_true z).2.1 (Int32.not_le.mpr h85)) | exact zb_f (fun z => absurd (of_decide_eq_true z).2.2 (Int32.not_le.mpr h96))
        · refine zw_iload_n dX10_mayDo_88 rfl rfl ?_
          refine zw_aload_n dX10_mayDo_89 rfl rfl ?_
          refine zw_iload_n dX10_mayDo_90 rfl rfl ?_
          refine zw_iload_n dX10_mayDo_91 rfl rfl ?_
          refine zw_iconst (nI 2) dX10_mayDo_92 (by decide) ?_
          refine rz_callP hz dX10_mayDo_93 eX10_mayDo_93 (c_ringOf hz S p hp hk hs n hn 2 (by omega)) rfl rfl (Nat.le_of_ble_eq_true rfl) (fun x93 q93 => ?_)
          subst q93
          refine zw_icmp_gt 103 dX10_mayDo_96 (by decide) (fun h96 => ?_) (fun h96 => ?_)
          · refine zw_iconst (nI 0) dX10_mayDo_103 (by decide) ?_
            refine rz_zret dX10_mayDo_104 rfl rfl ⟨⟨rfl, rfl⟩, Eq.symm ?_⟩
            show zb (decide (_ ∧ _ ∧ _) = true) = _
            first | exact zb_t (decide_eq_true ⟨h74, Int32.not_lt.mp h85, Int32.not_lt.mp h96⟩) | exact zb_f (fun z => absurd (of_decide_eq_true z).1 h74) | exact zb_f (fun z => absurd (of_decide_eq_true z).2.1 (Int32.not_le.mpr h85)) | exact zb_f (fun z => absurd (of_decide_eq_true z).2.2 (Int32.not_le.mpr h96))
          · refine zw_iconst (nI 1) dX10_mayDo_99 (by decide) ?_
            refine zw_goto 104 dX10_mayDo_100 (by decide) ?_
            refine rz_zret dX10_mayDo_104 rfl rfl ⟨⟨rfl, rfl⟩, Eq.symm ?_⟩
            show zb (decide (_ ∧ _ ∧ _) = true) = _
            first | exact zb_t (decide_eq_true ⟨h74, Int32.not_lt.mp h85, Int32.not_lt.mp h96⟩) | exact zb_f (fun z => absurd (of_decide_eq_true z).1 h74) | exact zb_f (fun z => absurd (of_decide_eq_true z).2.1 (Int32.not_le.mpr h85)) | exact zb_f (fun z => absurd (of_decide_eq_true z).2.2 (Int32.not_le.mpr h96))
    · have hh1 : how = 1 := (nI_eq (by omega) (by omega)).mp h41
      subst hh1
      refine zw_iload dX10_mayDo_44 rfl ?_
      refine zw_iconst (nI 2) dX10_mayDo_46 (by decide) ?_
      refine zw_iand dX10_mayDo_47 ?_
      refine zw_iconst (nI 2) dX10_mayDo_48 (by decide) ?_
      refine zw_icmp_ne 67 dX10_mayDo_49 (by decide) (fun h49 => ?_) (fun h49 => ?_)
      · refine zw_iconst (nI 0) dX10_mayDo_67 (by decide) ?_
        refine rz_zret dX10_mayDo_68 rfl rfl ⟨⟨rfl, rfl⟩, Eq.symm ?_⟩
        show zb (decide (_ ∧ _) = true) = _
        first | exact zb_t (decide_eq_true ⟨h49, Int32.not_lt.mp h60⟩) | exact zb_f (fun z => absurd (of_decide_eq_true z).1 h49) | exact zb_f (fun z => absurd (of_decide_eq_true z).2 (Int32.not_le.mpr h60))
      · refine zw_iload_n dX10_mayDo_52 rfl rfl ?_
        refine zw_aload_n dX10_mayDo_53 rfl rfl ?_
        refine zw_iload_n dX10_mayDo_54 rfl rfl ?_
        refine zw_iload_n dX10_mayDo_55 rfl rfl ?_
        refine zw_iconst (nI 1) dX10_mayDo_56 (by decide) ?_
        refine rz_callP hz dX10_mayDo_57 eX10_mayDo_57 (c_ringOf hz S p hp hk hs n hn 1 (by omega)) rfl rfl (Nat.le_of_ble_eq_true rfl) (fun x57 q57 => ?_)
        subst q57
        refine zw_icmp_gt 67 dX10_mayDo_60 (by decide) (fun h60 => ?_) (fun h60 => ?_)
        · refine zw_iconst (nI 0) dX10_mayDo_67 (by decide) ?_
          refine rz_zret dX10_mayDo_68 rfl rfl ⟨⟨rfl, rfl⟩, Eq.symm ?_⟩
          show zb (decide (_ ∧ _) = true) = _
          first | exact zb_t (decide_eq_true ⟨h49, Int32.not_lt.mp h60⟩) | exact zb_f (fun z => absurd (of_decide_eq_true z).1 h49) | exact zb_f (fun z => absurd (of_decide_eq_true z).2 (Int32.not_le.mpr h60))
        · refine zw_iconst (nI 1) dX10_mayDo_63 (by decide) ?_
          refine zw_goto 68 dX10_mayDo_64 (by decide) ?_
          refine rz_zret dX10_mayDo_68 rfl rfl ⟨⟨rfl, rfl⟩, Eq.symm ?_⟩
          show zb (decide (_ ∧ _) = true) = _
          first | exact zb_t (decide_eq_true ⟨h49, Int32.not_lt.mp h60⟩) | exact zb_f (fun z => absurd (of_decide_eq_true z).1 h49) | exact zb_f (fun z => absurd (of_decide_eq_true z).2 (Int32.not_le.mpr h60))
  · have hh0 : how = 0 := (nI_eq (b := 0) (by omega) (by omega)).mp h10
    subst hh0
    refine zw_iload dX10_mayDo_13 rfl ?_
    refine zw_iconst (nI 1) dX10_mayDo_15 (by decide) ?_
    refine zw_iand dX10_mayDo_16 ?_
    refine zw_iconst (nI 1) dX10_mayDo_17 (by decide) ?_
    refine zw_icmp_ne 36 dX10_mayDo_18 (by decide) (fun h18 => ?_) (fun h18 => ?_)
    · refine zw_iconst (nI 0) dX10_mayDo_36 (by decide) ?_
      refine rz_zret dX10_mayDo_37 rfl rfl ⟨⟨rfl, rfl⟩, Eq.symm ?_⟩
      show zb (decide (_ ∧ _) = true) = _
      first | exact zb_t (decide_eq_true ⟨h18, Int32.not_lt.mp h29⟩) | exact zb_f (fun z => absurd (of_decide_eq_true z).1 h18) | exact zb_f (fun z => absurd (of_decide_eq_true z).2 (Int32.not_le.mpr h29))
    · refine zw_iload_n dX10_mayDo_21 rfl rfl ?_
      refine zw_aload_n dX10_mayDo_22 rfl rfl ?_
      refine zw_iload_n dX10_mayDo_23 rfl rfl ?_
      refine zw_iload_n dX10_mayDo_24 rfl rfl ?_
      refine zw_iconst (nI 2) dX10_mayDo_25 (by decide) ?_
      refine rz_callP hz dX10_mayDo_26 eX10_mayDo_26 (c_ringOf hz S p hp hk hs n hn 2 (by omega)) rfl rfl (Nat.le_of_ble_eq_true rfl) (fun x26 q26 => ?_)
      subst q26
      refine zw_icmp_gt 36 dX10_mayDo_29 (by decide) (fun h29 => ?_) (fun h29 => ?_)
      · refine zw_iconst (nI 0) dX10_mayDo_36 (by decide) ?_
        refine rz_zret dX10_mayDo_37 rfl rfl ⟨⟨rfl, rfl⟩, Eq.symm ?_⟩
        show zb (decide (_ ∧ _) = true) = _
        first | exact zb_t (decide_eq_true ⟨h18, Int32.not_lt.mp h29⟩) | exact zb_f (fun z => absurd (of_decide_eq_true z).1 h18) | exact zb_f (fun z => absurd (of_decide_eq_true z).2 (Int32.not_le.mpr h29))
      · refine zw_iconst (nI 1) dX10_mayDo_32 (by decide) ?_
        refine zw_goto 37 dX10_mayDo_33 (by decide) ?_
        refine rz_zret dX10_mayDo_37 rfl rfl ⟨⟨rfl, rfl⟩, Eq.symm ?_⟩
        show zb (decide (_ ∧ _) = true) = _
        first | exact zb_t (decide_eq_true ⟨h18, Int32.not_lt.mp h29⟩) | exact zb_f (fun z => absurd (of_decide_eq_true z).1 h18) | exact zb_f (fun z => absurd (of_decide_eq_true z).2 (Int32.not_le.mpr h29))
