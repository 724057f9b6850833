set_option maxHeartbeats 4000000 in
set_option maxRecDepth 100000 in
theorem c_get {G : ZG} {Sh : ZS} {P : ZP} {C : ZI} {X : ZX} (hz : zr_sh Sh P) (S : ZT) (p : Nat) (hp : p < 4) (hk : kOK S p) (hs : sOK S) (n : Nat) (hn : n < kc S p) (k : Nat) (hkk : k < sz S p n) : rc G cX10_get kX10_get Sh P C S X [.inl (nI p), .inl (nI n), .inl (nI k)] (fun x S' X' => (S' = S ∧ X' = X) ∧ (x = getW S p n k)) := by
  refine zw_C.of (by decide) rfl (Nat.le_of_ble_eq_true rfl) ?_
  show zw G cX10_get kX10_get 0 0 0 [some (.inr (some (60, 99, 0))), some (.inl (nI p)), some (.inl (nI n)), some (.inl (nI k))] [] Sh P (zl C S X) _
  have hkc := hk.2.2.1
  have hsg := hs.2.1
  have hsz := sz_le hk hs hn
  refine zw_iload_n dX10_get_0 rfl rfl ?_
  refine zw_bipush (nI 8) dX10_get_1 (by decide) ?_
  refine zw_icmp_ge 26 dX10_get_3 (by decide) (fun h3 => ?_) (fun h3 => ?_)
  · have h8 : 8 ≤ n := (nI_leI (by omega) (by omega)).mp h3
    refine zw_aload_n dX10_get_26 rfl rfl ?_
    refine rz_arr hz dX10_get_27 fX10_31 rfl ?_
    refine zw_sipush (nI 256) dX10_get_30 (by decide) ?_
    refine zw_aload_n dX10_get_33 rfl rfl ?_
    refine rz_arr hz dX10_get_34 fX10_62 rfl ?_
    refine zw_bipush (nI 40) dX10_get_37 (by decide) ?_
    refine zw_iload_n dX10_get_39 rfl rfl ?_
    refine zw_imulN dX10_get_40 ?_
    refine zw_iload_n dX10_get_41 rfl rfl ?_
    refine zw_iaddN dX10_get_42 ?_
    refine rz_ald (((40 * p) + n)) hz dX10_get_43 rfl (by decide) (by show ((40 * p) + n) < 160; omega) rfl ?_
    have hkn := hk.2.2.2 n h8 hn
    have hkl : kn S p n < 32 := by have := hkn.2; omega
    refine zw_top hkn.1 ?_
    refine zw_imulN dX10_get_44 ?_
    refine zw_iload_n dX10_get_45 rfl rfl ?_
    refine zw_iaddN dX10_get_46 ?_
    refine rz_ald (((256 * (kn S p n)) + k)) hz dX10_get_47 rfl (by decide) (by show ((256 * (kn S p n)) + k) < 8192; omega) rfl ?_
    first | exact rz_iret dX10_get_48 rfl ⟨⟨rfl, rfl⟩, by unfold getW; rw [if_pos h8]⟩ | exact rz_iret dX10_get_48 rfl ⟨⟨rfl, rfl⟩, by unfold getW; rw [if_neg (by omega)]⟩
  · have h8 : n < 8 := by rcases Nat.lt_or_ge n 8 with h | h; exact h; exact absurd ((nI_leI (by omega) (by omega)).mpr h) h3
    have hs1 : sz S p n = 64 := by unfold sz; rw [if_pos h8]
    refine zw_aload_n dX10_get_6 rfl rfl ?_
    refine rz_arr hz dX10_get_7 fX10_59 rfl ?_
    refine zw_sipush (nI 512) dX10_get_10 (by decide) ?_
    refine zw_iload_n dX10_get_13 rfl rfl ?_
    refine zw_imulN dX10_get_14 ?_
    refine zw_bipush (nI 64) dX10_get_15 (by decide) ?_
    refine zw_iload_n dX10_get_17 rfl rfl ?_
    refine zw_imulN dX10_get_18 ?_
    refine zw_iaddN dX10_get_19 ?_
    refine zw_iload_n dX10_get_20 rfl rfl ?_
    refine zw_iaddN dX10_get_21 ?_
    refine rz_ald ((((512 * p) + (64 * n)) + k)) hz dX10_get_22 rfl (by decide) (by show (((512 * p) + (64 * n)) + k) < 2048; omega) rfl ?_
    refine zw_goto 48 dX10_get_23 (by decide) ?_
    first | exact rz_iret dX10_get_48 rfl ⟨⟨rfl, rfl⟩, by unfold getW; rw [if_pos h8]⟩ | exact rz_iret dX10_get_48 rfl ⟨⟨rfl, rfl⟩, by unfold getW; rw [if_neg (by omega)]⟩
set_option maxHeartbeats 4000000 in
set_option maxRecDepth 100000 in
theorem c_put {G : ZG} {Sh : ZS} {P : ZP} {C : ZI} {X : ZX} (hz : zr_sh Sh P) (S : ZT) (p : Nat) (hp : p < 4) (hk : kOK S p) (hs : sOK S) (n : Nat) (hn : n < kc S p) (k : Nat) (hkk : k < sz S p n) (v : Int32) : rcv G cX10_put kX10_put Sh P C S X [.inl (nI p), .inl (nI n), .inl (nI k), .inl v] (fun S' X' => S' = putW S p n k v ∧ X' = X) := by
  refine zw_C.of (by decide) rfl (Nat.le_of_ble_eq_true rfl) ?_
  show zw G cX10_put kX10_put 0 0 0 [some (.inr (some (60, 99, 0))), some (.inl (nI p)), some (.inl (nI n)), some (.inl (nI k)), some (.inl v)] [] Sh P (zl C S X) _
  have hkc := hk.2.2.1
  have hsg := hs.2.1
  have hsz := sz_le hk hs hn
  refine zw_iload_n dX10_put_0 rfl rfl ?_
  refine zw_bipush (nI 8) dX10_put_1 (by decide) ?_
  refine zw_icmp_ge 28 dX10_put_3 (by decide) (fun h3 => ?_) (fun h3 => ?_)
  · have h8 : 8 ≤ n := (nI_leI (by omega) (by omega)).mp h3
    refine zw_aload_n dX10_put_28 rfl rfl ?_
    refine rz_arr hz dX10_put_29 fX10_31 rfl ?_
    refine zw_sipush (nI 256) dX10_put_32 (by decide) ?_
    refine zw_aload_n dX10_put_35 rfl rfl ?_
    refine rz_arr hz dX10_put_36 fX10_62 rfl ?_
    refine zw_bipush (nI 40) dX10_put_39 (by decide) ?_
    refine zw_iload_n dX10_put_41 rfl rfl ?_
    refine zw_imulN dX10_put_42 ?_
    refine zw_iload_n dX10_put_43 rfl rfl ?_
    refine zw_iaddN dX10_put_44 ?_
    refine rz_ald (((40 * p) + n)) hz dX10_put_45 rfl (by decide) (by show ((40 * p) + n) < 160; omega) rfl ?_
    have hkn := hk.2.2.2 n h8 hn
    have hkl : kn S p n < 32 := by have := hkn.2; omega
    refine zw_top hkn.1 ?_
    refine zw_imulN dX10_put_46 ?_
    refine zw_iload_n dX10_put_47 rfl rfl ?_
    refine zw_iaddN dX10_put_48 ?_
    refine zw_iload dX10_put_49 rfl ?_
    refine rz_ast (((256 * (kn S p n)) + k)) hz dX10_put_51 rfl (by decide) (by show ((256 * (kn S p n)) + k) < 8192; omega) rfl ?_
    first | exact rz_vret dX10_put_52 rfl ⟨by unfold putW; rw [if_pos h8], rfl⟩ | exact rz_vret dX10_put_52 rfl ⟨by unfold putW; rw [if_neg (by omega)], rfl⟩
  · have h8 : n < 8 := by rcases Nat.lt_or_ge n 8 with h | h; exact h; exact absurd ((nI_leI (by omega) (by omega)).mpr h) h3
    have hs1 : sz S p n = 64 := by unfold sz; rw [if_pos h8]
    refine zw_aload_n dX10_put_6 rfl rfl ?_
    refine rz_arr hz dX10_put_7 fX10_59 rfl ?_
    refine zw_sipush (nI 512) dX10_put_10 (by decide) ?_
    refine zw_iload_n dX10_put_13 rfl rfl ?_
    refine zw_imulN dX10_put_14 ?_
    refine zw_bipush (nI 64) dX10_put_15 (by decide) ?_
    refine zw_iload_n dX10_put_17 rfl rfl ?_
    refine zw_imulN dX10_put_18 ?_
    refine zw_iaddN dX10_put_19 ?_
    refine zw_iload_n dX10_put_20 rfl rfl ?_
    refine zw_iaddN dX10_put_21 ?_
    refine zw_iload dX10_put_22 rfl ?_
    refine rz_ast ((((512 * p) + (64 * n)) + k)) hz dX10_put_24 rfl (by decide) (by show (((512 * p) + (64 * n)) + k) < 2048; omega) rfl ?_
    refine zw_goto 52 dX10_put_25 (by decide) ?_
    first | exact rz_vret dX10_put_52 rfl ⟨by unfold putW; rw [if_pos h8], rfl⟩ | exact rz_vret dX10_put_52 rfl ⟨by unfold putW; rw [if_neg (by omega)], rfl⟩
set_option maxHeartbeats 4000000 in
set_option maxRecDepth 100000 in
theorem c_fails {G : ZG} {Sh : ZS} {P : ZP} {C : ZI} {X : ZX} (hz : zr_sh Sh P) (S : ZT) (k r n w : Int32) : rc G cX10_fails kX10_fails Sh P C S X [.inl k, .inl r, .inl n, .inl w] (fun x S' X' => S' = S ∧ x = 0 ∧ X' = fX X k r n w) := by
  refine zw_C.of (by decide) rfl (Nat.le_of_ble_eq_true rfl) ?_
  show zw G cX10_fails kX10_fails 0 0 0 [some (.inr (some (60, 99, 0))), some (.inl k), some (.inl r), some (.inl n), some (.inl w)] [] Sh P (zl C S X) _
  refine zw_aload_n dX10_fails_0 rfl rfl ?_
  refine zw_iload_n dX10_fails_1 rfl rfl ?_
  refine rz_putX hz dX10_fails_2 fX10_107 rfl rfl ⟨rfl, rfl⟩ (by decide) ?_
  refine zw_aload_n dX10_fails_5 rfl rfl ?_
  refine zw_iload_n dX10_fails_6 rfl rfl ?_
  refine rz_putX hz dX10_fails_7 fX10_110 rfl rfl ⟨rfl, rfl⟩ (by decide) ?_
  refine zw_aload_n dX10_fails_10 rfl rfl ?_
  refine zw_iload_n dX10_fails_11 rfl rfl ?_
  refine rz_putX hz dX10_fails_12 fX10_113 rfl rfl ⟨rfl, rfl⟩ (by decide) ?_
  refine zw_aload_n dX10_fails_15 rfl rfl ?_
  refine zw_iload dX10_fails_16 rfl ?_
  refine rz_putX hz dX10_fails_18 fX10_116 rfl rfl ⟨rfl, rfl⟩ (by decide) ?_
  refine zw_iconst (nI 0) dX10_fails_21 (by decide) ?_
  exact rz_zret dX10_fails_22 rfl rfl ⟨rfl, rfl, rfl⟩
set_option maxHeartbeats 4000000 in
set_option maxRecDepth 100000 in
theorem c_failsHere {G : ZG} {Sh : ZS} {P : ZP} {C : ZI} {X : ZX} (hz : zr_sh Sh P) (S : ZT) (p : Nat) (hp : p < 4) (k : Int32) : rc G cX10_failsHere kX10_failsHere Sh P C S X [.inl (nI p), .inl k] (fun x S' X' => S' = S ∧ x = 0 ∧ X' = fX X k (S 15 (30 * p + 1)) (S 15 (30 * p + 2)) (S 15 (30 * p + 3))) := by
  refine zw_C.of (by decide) rfl (Nat.le_of_ble_eq_true rfl) ?_
  show zw G cX10_failsHere kX10_failsHere 0 0 0 [some (.inr (some (60, 99, 0))), some (.inl (nI p)), some (.inl k)] [] Sh P (zl C S X) _
  refine zw_aload_n dX10_failsHere_0 rfl rfl ?_
  refine zw_iload_n dX10_failsHere_1 rfl rfl ?_
  refine zw_aload_n dX10_failsHere_2 rfl rfl ?_
  refine rz_arr hz dX10_failsHere_3 fX10_53 rfl ?_
  refine zw_bipush (nI 30) dX10_failsHere_6 (by decide) ?_
  refine zw_iload_n dX10_failsHere_8 rfl rfl ?_
  refine zw_imulN dX10_failsHere_9 ?_
  refine zw_iconst (nI 1) dX10_failsHere_10 (by decide) ?_
  refine zw_iaddN dX10_failsHere_11 ?_
  refine rz_ald (((30 * p) + 1)) hz dX10_failsHere_12 rfl (by decide) (by show ((30 * p) + 1) < 120; omega) rfl ?_
  refine zw_aload_n dX10_failsHere_13 rfl rfl ?_
  refine rz_arr hz dX10_failsHere_14 fX10_53 rfl ?_
  refine zw_bipush (nI 30) dX10_failsHere_17 (by decide) ?_
  refine zw_iload_n dX10_failsHere_19 rfl rfl ?_
  refine zw_imulN dX10_failsHere_20 ?_
  refine zw_iconst (nI 2) dX10_failsHere_21 (by decide) ?_
  refine zw_iaddN dX10_failsHere_22 ?_
  refine rz_ald (((30 * p) + 2)) hz dX10_failsHere_23 rfl (by decide) (by show ((30 * p) + 2) < 120; omega) rfl ?_
  refine zw_aload_n dX10_failsHere_24 rfl rfl ?_
  refine rz_arr hz dX10_failsHere_25 fX10_53 rfl ?_
  refine zw_bipush (nI 30) dX10_failsHere_28 (by decide) ?_
  refine zw_iload_n dX10_failsHere_30 rfl rfl ?_
  refine zw_imulN dX10_failsHere_31 ?_
  refine zw_iconst (nI 3) dX10_failsHere_32 (by decide) ?_
  refine zw_iaddN dX10_failsHere_33 ?_
  refine rz_ald (((30 * p) + 3)) hz dX10_failsHere_34 rfl (by decide) (by show ((30 * p) + 3) < 120; omega) rfl ?_
  refine rz_callX hz dX10_failsHere_35 eX10_failsHere_35 (c_fails hz S _ _ _ _) rfl rfl (Nat.le_of_ble_eq_true rfl) (fun x35 X35 q35 => ?_)
  exact rz_zret dX10_failsHere_38 rfl (by rw [q35.1]; rfl) ⟨rfl, q35⟩
set_option maxHeartbeats 4000000 in
set_option maxRecDepth 100000 in
theorem c_goes {G : ZG} {Sh : ZS} {P : ZP} {C : ZI} {X : ZX} (hz : zr_sh Sh P) (S : ZT) (p : Nat) (hp : p < 4) (r n w : Int32) : rcv G cX10_goes kX10_goes Sh P C S X [.inl (nI p), .inl r, .inl n, .inl w] (fun S' X' => S' = goS S p r n w ∧ X' = X) := by
  refine zw_C.of (by decide) rfl (Nat.le_of_ble_eq_true rfl) ?_
  show zw G cX10_goes kX10_goes 0 0 0 [some (.inr (some (60, 99, 0))), some (.inl (nI p)), some (.inl r), some (.inl n), some (.inl w)] [] Sh P (zl C S X) _
  refine zw_aload_n dX10_goes_0 rfl rfl ?_
  refine rz_arr hz dX10_goes_1 fX10_53 rfl ?_
  refine zw_bipush (nI 30) dX10_goes_4 (by decide) ?_
  refine zw_iload_n dX10_goes_6 rfl rfl ?_
  refine zw_imulN dX10_goes_7 ?_
  refine zw_iconst (nI 1) dX10_goes_8 (by decide) ?_
  refine zw_iaddN dX10_goes_9 ?_
  refine zw_iload_n dX10_goes_10 rfl rfl ?_
  refine rz_ast (((30 * p) + 1)) hz dX10_goes_11 rfl (by decide) (by show ((30 * p) + 1) < 120; omega) rfl ?_
  refine zw_aload_n dX10_goes_12 rfl rfl ?_
  refine rz_arr hz dX10_goes_13 fX10_53 rfl ?_
  refine zw_bipush (nI 30) dX10_goes_16 (by decide) ?_
  refine zw_iload_n dX10_goes_18 rfl rfl ?_
  refine zw_imulN dX10_goes_19 ?_
  refine zw_iconst (nI 2) dX10_goes_20 (by decide) ?_
  refine zw_iaddN dX10_goes_21 ?_
  refine zw_iload_n dX10_goes_22 rfl rfl ?_
  refine rz_ast (((30 * p) + 2)) hz dX10_goes_23 rfl (by decide) (by show ((30 * p) + 2) < 120; omega) rfl ?_
  refine zw_aload_n dX10_goes_24 rfl rfl ?_
  refine rz_arr hz dX10_goes_25 fX10_53 rfl ?_
  refine zw_bipush (nI 30) dX10_goes_28 (by decide) ?_
  refine zw_iload_n dX10_goes_30 rfl rfl ?_
  refine zw_imulN dX10_goes_31 ?_
  refine zw_iconst (nI 3) dX10_goes_32 (by decide) ?_
  refine zw_iaddN dX10_goes_33 ?_
  refine zw_iload dX10_goes_34 rfl ?_
  refine rz_ast (((30 * p) + 3)) hz dX10_goes_36 rfl (by decide) (by show ((30 * p) + 3) < 120; omega) rfl ?_
  exact rz_vret dX10_goes_37 rfl ⟨rfl, rfl⟩
set_option maxHeartbeats 4000000 in
set_option maxRecDepth 100000 in
theorem c_points {G : ZG} {Sh : ZS} {P : ZP} {C : ZI} {X : ZX} (hz : zr_sh Sh P) (S : ZT) (p : Nat) (hp : p < 4) (i : Nat) (hi : i < 8) (r n w : Int32) : rcv G cX10_points kX10_points Sh P C S X [.inl (nI p), .inl (nI i), .inl r, .inl n, .inl w] (fun S' X' => S' = ptS S p i r n w ∧ X' = X) := by
  refine zw_C.of (by decide) rfl (Nat.le_of_ble_eq_true rfl) ?_
  show zw G cX10_points kX10_points 0 0 0 [some (.inr (some (60, 99, 0))), some (.inl (nI p)), some (.inl (nI i)), some (.inl r), some (.inl n), some (.inl w)] [] Sh P (zl C S X) _
  refine zw_aload_n dX10_points_0 rfl rfl ?_
  refine rz_arr hz dX10_points_1 fX10_56 rfl ?_
  refine zw_bipush (nI 24) dX10_points_4 (by decide) ?_
  refine zw_iload_n dX10_points_6 rfl rfl ?_
  refine zw_imulN dX10_points_7 ?_
  refine zw_iconst (nI 3) dX10_points_8 (by decide) ?_
  refine zw_iload_n dX10_points_9 rfl rfl ?_
  refine zw_imulN dX10_points_10 ?_
  refine zw_iaddN dX10_points_11 ?_
  refine zw_iload_n dX10_points_12 rfl rfl ?_
  refine rz_ast (((24 * p) + (3 * i))) hz dX10_points_13 rfl (by decide) (by show ((24 * p) + (3 * i)) < 96; omega) rfl ?_
  refine zw_aload_n dX10_points_14 rfl rfl ?_
  refine rz_arr hz dX10_points_15 fX10_56 rfl ?_
  refine zw_bipush (nI 24) dX10_points_18 (by decide) ?_
  refine zw_iload_n dX10_points_20 rfl rfl ?_
  refine zw_imulN dX10_points_21 ?_
  refine zw_iconst (nI 3) dX10_points_22 (by decide) ?_
  refine zw_iload_n dX10_points_23 rfl rfl ?_
  refine zw_imulN dX10_points_24 ?_
  refine zw_iaddN dX10_points_25 ?_
  refine zw_iconst (nI 1) dX10_points_26 (by decide) ?_
  refine zw_iaddN dX10_points_27 ?_
  refine zw_iload dX10_points_28 rfl ?_
  refine rz_ast ((((24 * p) + (3 * i)) + 1)) hz dX10_points_30 rfl (by decide) (by show (((24 * p) + (3 * i)) + 1) < 96; omega) rfl ?_
  refine zw_aload_n dX10_points_31 rfl rfl ?_
  refine rz_arr hz dX10_points_32 fX10_56 rfl ?_
  refine zw_bipush (nI 24) dX10_points_35 (by decide) ?_
  refine zw_iload_n dX10_points_37 rfl rfl ?_
  refine zw_imulN dX10_points_38 ?_
  refine zw_iconst (nI 3) dX10_points_39 (by decide) ?_
  refine zw_iload_n dX10_points_40 rfl rfl ?_
  refine zw_imulN dX10_points_41 ?_
  refine zw_iaddN dX10_points_42 ?_
  refine zw_iconst (nI 2) dX10_points_43 (by decide) ?_
  refine zw_iaddN dX10_points_44 ?_
  refine zw_iload dX10_points_45 rfl ?_
  refine rz_ast ((((24 * p) + (3 * i)) + 2)) hz dX10_points_47 rfl (by decide) (by show (((24 * p) + (3 * i)) + 2) < 96; omega) rfl ?_
  exact rz_vret dX10_points_48 rfl ⟨rfl, rfl⟩
set_option maxHeartbeats 4000000 in
set_option maxRecDepth 100000 in
theorem c_can {G : ZG} {Sh : ZS} {P : ZP} {C : ZI} {X : ZX} (hz : zr_sh Sh P) (S : ZT) (p : Nat) (hp : p < 4) (hk : kOK S p) (hs : sOK S) (e n w : Int32) (how : Nat) (hh : how < 3) : rc G cX10_can kX10_can Sh P C S X [.inl (nI p), .inl e, .inl n, .inl w, .inl (nI how)] (fun x S' X' => S' = S ∧ (canK S p e n w how = 0 → x = 1 ∧ X' = X) ∧ (canK S p e n w how ≠ 0 → x = 0 ∧ X' = fX X (nI (canK S p e n w how)) e n w)) := by
  refine zw_C.of (by decide) rfl (Nat.le_of_ble_eq_true rfl) ?_
  show zw G cX10_can kX10_can 0 0 0 [some (.inr (some (60, 99, 0))), some (.inl (nI p)), some (.inl e), some (.inl n), some (.inl w), some (.inl (nI how))] [] Sh P (zl C S X) _
  have hkc := hk.2.2.1
  refine zw_aload_n dX10_can_0 rfl rfl ?_
  refine zw_iload_n dX10_can_1 rfl rfl ?_
  refine zw_iload_n dX10_can_2 rfl rfl ?_
  refine rz_callP hz dX10_can_3 eX10_can_3 (c_isKnown hz S p hp hk _) rfl rfl (Nat.le_of_ble_eq_true rfl) (fun x3 q3 => ?_)
  subst q3
  refine zw_if_ne 19 dX10_can_6 (by decide) (fun h6 => ?_) (fun h6 => ?_)
  · have hin := zb_ne h6
    have hn1 := zin_zn hin (by omega)
    have hsz := sz_le hk hs hn1.1
    have en : (.inl n : Zv) = .inl (nI (zn n)) := congrArg _ hn1.2
    refine zw_iload dX10_can_19 rfl ?_
    refine zw_iconst (nI 0) dX10_can_21 (by decide) ?_
    refine zw_aload_n dX10_can_22 rfl rfl ?_
    refine zw_iload_n dX10_can_23 rfl rfl ?_
    refine zw_iload_n dX10_can_24 rfl rfl ?_
    rw [en]
    refine rz_callP hz dX10_can_25 eX10_can_25 (c_sizeOf hz S p hp hk hs (zn n) hn1.1) rfl rfl (Nat.le_of_ble_eq_true rfl) (fun x25 q25 => ?_)
    subst q25
    refine zw_iconst (nI 1) dX10_can_28 (by decide) ?_
    refine zw_isub dX10_can_29 ?_
    refine rz_callS dX10_can_30 eX10_can_30 (c_in _ _ _) rfl rfl (Nat.le_of_ble_eq_true rfl) (fun x30 q30 => ?_)
    rw [zb_congr (in_zin (by omega))] at q30
    subst q30
    refine zw_if_ne 46 dX10_can_33 (by decide) (fun h33 => ?_) (fun h33 => ?_)
    · have hwi := zb_ne h33
      refine zw_aload_n dX10_can_46 rfl rfl ?_
      refine zw_iload_n dX10_can_47 rfl rfl ?_
      refine zw_iload_n dX10_can_48 rfl rfl ?_
      refine zw_iload_n dX10_can_49 rfl rfl ?_
      refine zw_iload dX10_can_50 rfl ?_
      refine rz_callP hz dX10_can_52 eX10_can_52 (c_mayDo hz S p hp hk hs (zn n) hn1.1 _ how hh) rfl rfl (Nat.le_of_ble_eq_true rfl) (fun x52 q52 => ?_)
      subst q52
      refine zw_if_ne 71 dX10_can_55 (by decide) (fun h55 => ?_) (fun h55 => ?_)
      · have hcan := canK_0 hin hwi (zb_ne h55)
        refine zw_iconst (nI 1) dX10_can_71 (by decide) ?_
        exact rz_zret dX10_can_72 rfl rfl ⟨rfl, fun _ => ⟨rfl, rfl⟩, fun z => absurd hcan z⟩
      · have hcan := canK_3 hin hwi (zb_eq h55)
        refine zw_aload_n dX10_can_58 rfl rfl ?_
        refine zw_iconst (nI 3) dX10_can_59 (by decide) ?_
        refine zw_iload dX10_can_60 rfl ?_
        refine zw_iaddN dX10_can_62 ?_
        refine zw_iload_n dX10_can_63 rfl rfl ?_
        refine zw_iload_n dX10_can_64 rfl rfl ?_
        refine zw_iload dX10_can_65 rfl ?_
        refine rz_callX hz dX10_can_67 eX10_can_67 (c_fails hz S _ _ _ _) rfl rfl (Nat.le_of_ble_eq_true rfl) (fun x67 X67 q67 => ?_)
        rw [← hn1.2] at q67
        exact rz_zret dX10_can_70 rfl (by rw [q67.1]; rfl) ⟨rfl, fun z => absurd z (by rw [hcan]; omega), fun _ => by rw [hcan]; exact q67⟩
    · have hcan := canK_2 (e := e) (how := how) hin (zb_eq h33)
      refine zw_aload_n dX10_can_36 rfl rfl ?_
      refine zw_iconst (nI 2) dX10_can_37 (by decide) ?_
      refine zw_iload_n dX10_can_38 rfl rfl ?_
      refine zw_iload_n dX10_can_39 rfl rfl ?_
      refine zw_iload dX10_can_40 rfl ?_
      refine rz_callX hz dX10_can_42 eX10_can_42 (c_fails hz S _ _ _ _) rfl rfl (Nat.le_of_ble_eq_true rfl) (fun x42 X42 q42 => ?_)
      rw [← hn1.2] at q42
      exact rz_zret dX10_can_45 rfl (by rw [q42.1]; rfl) ⟨rfl, fun z => absurd z (by rw [hcan]; omega), fun _ => by rw [hcan]; exact q42⟩
  · have hcan := canK_1 (e := e) (w := w) (how := how) (zb_eq h6)
    refine zw_aload_n dX10_can_9 rfl rfl ?_
    refine zw_iconst (nI 1) dX10_can_10 (by decide) ?_
    refine zw_iload_n dX10_can_11 rfl rfl ?_
    refine zw_iload_n dX10_can_12 rfl rfl ?_
    refine zw_iload dX10_can_13 rfl ?_
    refine rz_callX hz dX10_can_15 eX10_can_15 (c_fails hz S _ _ _ _) rfl rfl (Nat.le_of_ble_eq_true rfl) (fun x15 X15 q15 => ?_)
    exact rz_zret dX10_can_18 rfl (by rw [q15.1]; rfl) ⟨rfl, fun z => absurd z (by rw [hcan]; omega), fun _ => by rw [hcan]; exact q15⟩
theorem rz_can {G : ZG} {cc : ByteArray} {K : ZK} {bc bs pc : Nat} {L : List (Option Zv)} {st : List Zv} {Sh : ZS} {P : ZP} {C : ZI} {S : ZT} {X : ZX} {Q : ZQ} {idx n0 p how : Nat} {cc' : ByteArray} {K' : ZK} {As stk : List Zv} {e n w : Int32} {off : Int} (hz : zr_sh Sh P) (hd : decode cc pc = .ok (.invokevirtual idx, 3)) (hw : zt_cV K idx cc' K' n0 10) (hC : rc G cc' K' Sh P C S X As (fun x S' X' => S' = S ∧ (canK S p e n w how = 0 → x = 1 ∧ X' = X) ∧ (canK S p e n w how ≠ 0 → x = 0 ∧ X' = fX X (nI (canK S p e n w how)) e n w))) (hstk : stk = As.reverse ++ .inr (some (60, 99, 0)) :: st) (hn : As.length = n0) (h8 : st.length ≤ 8) (tgt : Nat) (hd2 : decode cc (pc + 3) = .ok (.ifCond .ne off, 3)) (ht : ((pc + 3 : Nat) : Int) + off = (tgt : Int))
    (kk1 : canK S p e n w how = 0 → zw G cc K bc bs tgt L st Sh P (zl C S X) Q) (kk2 : ¬ canK S p e n w how = 0 → zw G cc K bc bs (pc + 6) L st Sh P (zl C S (fX X (nI (canK S p e n w how)) e n w)) Q) : zw G cc K bc bs pc L stk Sh P (zl C S X) Q := by
  refine rz_callX hz hd hw hC hstk hn h8 (fun x X2 h => ?_)
  obtain ⟨qa, qb⟩ := h
  by_cases hc : canK S p e n w how = 0
  · obtain ⟨e1, e2⟩ := qa hc
    rw [e1, e2]
    exact zw_if_ne tgt hd2 ht (fun _ => kk1 hc) (fun z => absurd z (by decide))
  · obtain ⟨e1, e2⟩ := qb hc
    rw [e1, e2]
    exact zw_if_ne tgt hd2 ht (fun z => absurd rfl z) (fun _ => kk2 hc)
