set_option maxHeartbeats 4000000 in
set_option maxRecDepth 100000 in
theorem c_inN {G : ZG} {Sh : ZS} {P : ZP} {I : ZI} (v a b : Nat) (hv : v < 2 ^ 31) (ha : a < 2 ^ 31) (hb : b < 2 ^ 31) : sc G cX10_in kX10_in Sh P I [.inl (nI v), .inl (nI a), .inl (nI b)] (fun x => x = zb (a ≤ v ∧ v ≤ b)) := by
  refine zw_C.of (by decide) rfl (Nat.le_of_ble_eq_true rfl) ?_
  show zw G cX10_in kX10_in 0 0 0 [some (.inl (nI v)), some (.inl (nI a)), some (.inl (nI b))] [] Sh P I _
  refine zw_iload_n dX10_in_0 rfl rfl ?_
  refine zw_iload_n dX10_in_1 rfl rfl ?_
  refine zw_icmp_lt 14 dX10_in_2 (by decide) (fun h2 => ?_) (fun h2 => ?_)
  · have g2 : v < a := (nI_ltI (by omega) (by omega)).mp h2
    refine zw_iconst (nI 0) dX10_in_14 (by decide) ?_
    first | exact sz_zret dX10_in_15 rfl rfl (zb_f (fun z => by omega)).symm | exact sz_zret dX10_in_15 rfl rfl (zb_t ⟨by omega, by omega⟩).symm
  · have g2 : ¬ (v < a) := fun z => h2 ((nI_ltI (by omega) (by omega)).mpr z)
    refine zw_iload_n dX10_in_5 rfl rfl ?_
    refine zw_iload_n dX10_in_6 rfl rfl ?_
    refine zw_icmp_gt 14 dX10_in_7 (by decide) (fun h7 => ?_) (fun h7 => ?_)
    · have g7 : b < v := (nI_ltI (by omega) (by omega)).mp h7
      refine zw_iconst (nI 0) dX10_in_14 (by decide) ?_
      first | exact sz_zret dX10_in_15 rfl rfl (zb_f (fun z => by omega)).symm | exact sz_zret dX10_in_15 rfl rfl (zb_t ⟨by omega, by omega⟩).symm
    · have g7 : ¬ (b < v) := fun z => h7 ((nI_ltI (by omega) (by omega)).mpr z)
      refine zw_iconst (nI 1) dX10_in_10 (by decide) ?_
      refine zw_goto 15 dX10_in_11 (by decide) ?_
      first | exact sz_zret dX10_in_15 rfl rfl (zb_f (fun z => by omega)).symm | exact sz_zret dX10_in_15 rfl rfl (zb_t ⟨by omega, by omega⟩).symm
set_option maxHeartbeats 4000000 in
set_option maxRecDepth 100000 in
theorem c_hasAddress {G : ZG} {Sh : ZS} {P : ZP} {I : ZI} (o : Nat) (ho : o < 32) : sc G cX10_hasAddress kX10_hasAddress Sh P I [.inl (nI o)] (fun x => x = zb (o ≠ 0 ∧ o < 24)) := by
  refine zw_C.of (by decide) rfl (Nat.le_of_ble_eq_true rfl) ?_
  show zw G cX10_hasAddress kX10_hasAddress 0 0 0 [some (.inl (nI o))] [] Sh P I _
  refine zw_iload_n dX10_hasAddress_0 rfl rfl ?_
  refine zw_if_eq 14 dX10_hasAddress_1 (by decide) (fun h1 => ?_) (fun h1 => ?_)
  · have g1 : o = 0 := (nI_eq (b := 0) (by omega) (by omega)).mp h1
    refine zw_iconst (nI 0) dX10_hasAddress_14 (by decide) ?_
    first | exact sz_zret dX10_hasAddress_15 rfl rfl (zb_f (fun z => by omega)).symm | exact sz_zret dX10_hasAddress_15 rfl rfl (zb_t ⟨by omega, by omega⟩).symm
  · have g1 : ¬ o = 0 := fun z => h1 ((nI_eq (b := 0) (by omega) (by omega)).mpr z)
    refine zw_iload_n dX10_hasAddress_4 rfl rfl ?_
    refine zw_bipush (nI 24) dX10_hasAddress_5 (by decide) ?_
    refine zw_icmp_ge 14 dX10_hasAddress_7 (by decide) (fun h7 => ?_) (fun h7 => ?_)
    · have g7 : 24 ≤ o := (nI_leI (by omega) (by omega)).mp h7
      refine zw_iconst (nI 0) dX10_hasAddress_14 (by decide) ?_
      first | exact sz_zret dX10_hasAddress_15 rfl rfl (zb_f (fun z => by omega)).symm | exact sz_zret dX10_hasAddress_15 rfl rfl (zb_t ⟨by omega, by omega⟩).symm
    · have g7 : ¬ (24 ≤ o) := fun z => h7 ((nI_leI (by omega) (by omega)).mpr z)
      refine zw_iconst (nI 1) dX10_hasAddress_10 (by decide) ?_
      refine zw_goto 15 dX10_hasAddress_11 (by decide) ?_
      first | exact sz_zret dX10_hasAddress_15 rfl rfl (zb_f (fun z => by omega)).symm | exact sz_zret dX10_hasAddress_15 rfl rfl (zb_t ⟨by omega, by omega⟩).symm
set_option maxHeartbeats 4000000 in
set_option maxRecDepth 100000 in
theorem c_isNone {G : ZG} {Sh : ZS} {P : ZP} {I : ZI} (v : Int32) : sc G cX10_isNone kX10_isNone Sh P I [.inl v] (fun x => x = zb (bad v)) := by
  refine zw_C.of (by decide) rfl (Nat.le_of_ble_eq_true rfl) ?_
  show zw G cX10_isNone kX10_isNone 0 0 0 [some (.inl v), none, none] [] Sh P I _
  have ho := (f_op_n v).2
  have hr := (f_r_n v).2
  have hm := (f_md_n v).2
  refine zw_iload_n dX10_isNone_0 rfl rfl ?_
  refine zw_bipush (nI 27) dX10_isNone_1 (by decide) ?_
  refine zw_iushr dX10_isNone_3 ?_
  refine zw_top (y := nI (oN v)) (f_op_n v).1 ?_
  refine zw_istore_n dX10_isNone_4 rfl (by decide) ?_
  dsimp only [List.set]
  refine zw_iload_n dX10_isNone_5 rfl rfl ?_
  refine zw_bipush (nI 16) dX10_isNone_6 (by decide) ?_
  refine zw_ishr dX10_isNone_8 ?_
  refine zw_bipush (nI 7) dX10_isNone_9 (by decide) ?_
  refine zw_iand dX10_isNone_11 ?_
  refine zw_top (y := nI (rN v)) (f_r_n v).1 ?_
  refine zw_istore_n dX10_isNone_12 rfl (by decide) ?_
  dsimp only [List.set]
  refine zw_iload_n dX10_isNone_13 rfl rfl ?_
  refine zw_bipush (nI 25) dX10_isNone_14 (by decide) ?_
  refine zw_icmp_le 21 dX10_isNone_16 (by decide) (fun h16 => ?_) (fun h16 => ?_)
  · have g16 : (oN v) ≤ 25 := (nI_leI (by omega) (by omega)).mp h16
    refine zw_iload_n dX10_isNone_21 rfl rfl ?_
    refine zw_bipush (nI 24) dX10_isNone_22 (by decide) ?_
    refine zw_ishr dX10_isNone_24 ?_
    refine zw_iconst (nI 3) dX10_isNone_25 (by decide) ?_
    refine zw_iand dX10_isNone_26 ?_
    refine zw_top (y := nI (mN v)) (f_md_n v).1 ?_
    refine zw_iconst (nI 3) dX10_isNone_27 (by decide) ?_
    refine zw_icmp_ne 66 dX10_isNone_28 (by decide) (fun h28 => ?_) (fun h28 => ?_)
    · have g28 : ¬ ((mN v) = 3) := fun z => h28 ((nI_eq (by omega) (by omega)).mpr z)
      refine zw_iload_n dX10_isNone_66 rfl rfl ?_
      refine zw_bipush (nI 15) dX10_isNone_67 (by decide) ?_
      refine zw_bipush (nI 17) dX10_isNone_69 (by decide) ?_
      refine rz_callS dX10_isNone_71 eX10_isNone_71 (c_inN _ _ _ (by omega) (by omega) (by omega)) rfl rfl (Nat.le_of_ble_eq_true rfl) (fun x71 q71 => ?_)
      subst q71
      refine zw_if_eq 90 dX10_isNone_74 (by decide) (fun h74 => ?_) (fun h74 => ?_)
      · have g74 := zb_eq h74
        refine zw_iconst (nI 0) dX10_isNone_90 (by decide) ?_
        first | exact sz_zret dX10_isNone_91 rfl rfl (zb_f (fun z => by unfold bad at z; omega)).symm | exact sz_zret dX10_isNone_91 rfl rfl (zb_t (by unfold bad; omega)).symm
      · have g74 := zb_ne h74
        refine zw_iload_n dX10_isNone_77 rfl rfl ?_
        refine zw_iconst (nI 1) dX10_isNone_78 (by decide) ?_
        refine zw_iconst (nI 3) dX10_isNone_79 (by decide) ?_
        refine rz_callS dX10_isNone_80 eX10_isNone_80 (c_inN _ _ _ (by omega) (by omega) (by omega)) rfl rfl (Nat.le_of_ble_eq_true rfl) (fun x80 q80 => ?_)
        subst q80
        refine zw_if_ne 90 dX10_isNone_83 (by decide) (fun h83 => ?_) (fun h83 => ?_)
        · have g83 := zb_ne h83
          refine zw_iconst (nI 0) dX10_isNone_90 (by decide) ?_
          first | exact sz_zret dX10_isNone_91 rfl rfl (zb_f (fun z => by unfold bad at z; omega)).symm | exact sz_zret dX10_isNone_91 rfl rfl (zb_t (by unfold bad; omega)).symm
        · have g83 := zb_eq h83
          refine zw_iconst (nI 1) dX10_isNone_86 (by decide) ?_
          refine zw_goto 91 dX10_isNone_87 (by decide) ?_
          first | exact sz_zret dX10_isNone_91 rfl rfl (zb_f (fun z => by unfold bad at z; omega)).symm | exact sz_zret dX10_isNone_91 rfl rfl (zb_t (by unfold bad; omega)).symm
    · have g28 : (mN v) = 3 := (nI_eq (by omega) (by omega)).mp h28
      refine zw_iload_n dX10_isNone_31 rfl rfl ?_
      refine zw_iconst (nI 2) dX10_isNone_32 (by decide) ?_
      refine zw_icmp_eq 64 dX10_isNone_33 (by decide) (fun h33 => ?_) (fun h33 => ?_)
      · have g33 : (oN v) = 2 := (nI_eq (by omega) (by omega)).mp h33
        refine zw_iconst (nI 1) dX10_isNone_64 (by decide) ?_
        first | exact sz_zret dX10_isNone_65 rfl rfl (zb_f (fun z => by unfold bad at z; omega)).symm | exact sz_zret dX10_isNone_65 rfl rfl (zb_t (by unfold bad; omega)).symm
      · have g33 : ¬ ((oN v) = 2) := fun z => h33 ((nI_eq (by omega) (by omega)).mpr z)
        refine zw_iload_n dX10_isNone_36 rfl rfl ?_
        refine zw_bipush (nI 10) dX10_isNone_37 (by decide) ?_
        refine zw_bipush (nI 14) dX10_isNone_39 (by decide) ?_
        refine rz_callS dX10_isNone_41 eX10_isNone_41 (c_inN _ _ _ (by omega) (by omega) (by omega)) rfl rfl (Nat.le_of_ble_eq_true rfl) (fun x41 q41 => ?_)
        subst q41
        refine zw_if_ne 64 dX10_isNone_44 (by decide) (fun h44 => ?_) (fun h44 => ?_)
        · have g44 := zb_ne h44
          refine zw_iconst (nI 1) dX10_isNone_64 (by decide) ?_
          first | exact sz_zret dX10_isNone_65 rfl rfl (zb_f (fun z => by unfold bad at z; omega)).symm | exact sz_zret dX10_isNone_65 rfl rfl (zb_t (by unfold bad; omega)).symm
        · have g44 := zb_eq h44
          refine zw_iload_n dX10_isNone_47 rfl rfl ?_
          refine zw_bipush (nI 16) dX10_isNone_48 (by decide) ?_
          refine zw_icmp_eq 64 dX10_isNone_50 (by decide) (fun h50 => ?_) (fun h50 => ?_)
          · have g50 : (oN v) = 16 := (nI_eq (by omega) (by omega)).mp h50
            refine zw_iconst (nI 1) dX10_isNone_64 (by decide) ?_
            first | exact sz_zret dX10_isNone_65 rfl rfl (zb_f (fun z => by unfold bad at z; omega)).symm | exact sz_zret dX10_isNone_65 rfl rfl (zb_t (by unfold bad; omega)).symm
          · have g50 : ¬ ((oN v) = 16) := fun z => h50 ((nI_eq (by omega) (by omega)).mpr z)
            refine zw_iload_n dX10_isNone_53 rfl rfl ?_
            refine zw_bipush (nI 18) dX10_isNone_54 (by decide) ?_
            refine zw_bipush (nI 23) dX10_isNone_56 (by decide) ?_
            refine rz_callS dX10_isNone_58 eX10_isNone_58 (c_inN _ _ _ (by omega) (by omega) (by omega)) rfl rfl (Nat.le_of_ble_eq_true rfl) (fun x58 q58 => ?_)
            subst q58
            refine zw_if_eq 66 dX10_isNone_61 (by decide) (fun h61 => ?_) (fun h61 => ?_)
            · have g61 := zb_eq h61
              refine zw_iload_n dX10_isNone_66 rfl rfl ?_
              refine zw_bipush (nI 15) dX10_isNone_67 (by decide) ?_
              refine zw_bipush (nI 17) dX10_isNone_69 (by decide) ?_
              refine rz_callS dX10_isNone_71 eX10_isNone_71 (c_inN _ _ _ (by omega) (by omega) (by omega)) rfl rfl (Nat.le_of_ble_eq_true rfl) (fun x71 q71 => ?_)
              subst q71
              refine zw_if_eq 90 dX10_isNone_74 (by decide) (fun h74 => ?_) (fun h74 => ?_)
              · have g74 := zb_eq h74
                refine zw_iconst (nI 0) dX10_isNone_90 (by decide) ?_
                first | exact sz_zret dX10_isNone_91 rfl rfl (zb_f (fun z => by unfold bad at z; omega)).symm | exact sz_zret dX10_isNone_91 rfl rfl (zb_t (by unfold bad; omega)).symm
              · have g74 := zb_ne h74
                refine zw_iload_n dX10_isNone_77 rfl rfl ?_
                refine zw_iconst (nI 1) dX10_isNone_78 (by decide) ?_
                refine zw_iconst (nI 3) dX10_isNone_79 (by decide) ?_
                refine rz_callS dX10_isNone_80 eX10_isNone_80 (c_inN _ _ _ (by omega) (by omega) (by omega)) rfl rfl (Nat.le_of_ble_eq_true rfl) (fun x80 q80 => ?_)
                subst q80
                refine zw_if_ne 90 dX10_isNone_83 (by decide) (fun h83 => ?_) (fun h83 => ?_)
                · have g83 := zb_ne h83
                  refine zw_iconst (nI 0) dX10_isNone_90 (by decide) ?_
                  first | exact sz_zret dX10_isNone_91 rfl rfl (zb_f (fun z => by unfold bad at z; omega)).symm | exact sz_zret dX10_isNone_91 rfl rfl (zb_t (by unfold bad; omega)).symm
                · have g83 := zb_eq h83
                  refine zw_iconst (nI 1) dX10_isNone_86 (by decide) ?_
                  refine zw_goto 91 dX10_isNone_87 (by decide) ?_
                  first | exact sz_zret dX10_isNone_91 rfl rfl (zb_f (fun z => by unfold bad at z; omega)).symm | exact sz_zret dX10_isNone_91 rfl rfl (zb_t (by unfold bad; omega)).symm
            · have g61 := zb_ne h61
              refine zw_iconst (nI 1) dX10_isNone_64 (by decide) ?_
              first | exact sz_zret dX10_isNone_65 rfl rfl (zb_f (fun z => by unfold bad at z; omega)).symm | exact sz_zret dX10_isNone_65 rfl rfl (zb_t (by unfold bad; omega)).symm
  · have g16 : ¬ ((oN v) ≤ 25) := fun z => h16 ((nI_leI (by omega) (by omega)).mpr z)
    refine zw_iconst (nI 1) dX10_isNone_19 (by decide) ?_
    first | exact sz_zret dX10_isNone_20 rfl rfl (zb_f (fun z => by unfold bad at z; omega)).symm | exact sz_zret dX10_isNone_20 rfl rfl (zb_t (by unfold bad; omega)).symm
