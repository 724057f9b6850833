set_option maxHeartbeats 4000000 in
set_option maxRecDepth 100000 in
theorem c_brackets {G : ZG} {Sh : ZS} {P : ZP} {C : ZI} {X : ZX} (hz : zr_sh Sh P) (S : ZT) (B : Nat) (hR : RI S B) (s a b c g : Int32) : rc G cX10_brackets kX10_brackets Sh P C S X [.inl s, .inl a, .inl b, .inl c, .inl g] (fun x S' X' => (x, S') = A_br S s a b c g) := by
  refine zw_C.of (by decide) rfl (Nat.le_of_ble_eq_true rfl) ?_
  show zw G cX10_brackets kX10_brackets 0 0 0 [some (.inr (some (60, 99, 0))), some (.inl s), some (.inl a), some (.inl b), some (.inl c), some (.inl g)] [] Sh P (zl C S X) _
  have hs := hR.1
  have hsg := hs.2.1
  refine zw_aload_n dX10_brackets_0 rfl rfl ?_
  refine zw_iload_n dX10_brackets_1 rfl rfl ?_
  refine rz_callP hz dX10_brackets_2 eX10_brackets_2 (c_isSegment S hz hs _) rfl rfl (Nat.le_of_ble_eq_true rfl) (fun x2 q2 => ?_)
  subst q2
  refine zw_if_eq 54 dX10_brackets_5 (by decide) (fun h5 => ?_) (fun h5 => ?_)
  · have g5 := zb_eq h5
    refine zw_iconst (nI 0) dX10_brackets_54 (by decide) ?_
    refine rz_zret dX10_brackets_55 rfl rfl ?_
    unfold A_br
    rw [if_neg (fun z => g5 z.1)]
  · have g5 := zb_ne h5
    have h_s := zin_zn g5 (by omega)
    have e_s : (.inl s : Zv) = .inl (nI (zn s)) := congrArg _ h_s.2
    rw [e_s]
    have hwd := hs.2.2 _ h_s.1
    refine zw_iload_n dX10_brackets_8 rfl rfl ?_
    refine zw_iconst (nI 0) dX10_brackets_9 (by decide) ?_
    refine zw_bipush (nI 7) dX10_brackets_10 (by decide) ?_
    refine rz_callS dX10_brackets_12 eX10_brackets_12 (c_in _ _ _) rfl rfl (Nat.le_of_ble_eq_true rfl) (fun x12 q12 => ?_)
    subst q12
    refine zw_if_eq 54 dX10_brackets_15 (by decide) (fun h15 => ?_) (fun h15 => ?_)
    · have g15 := zb_eq h15
      refine zw_iconst (nI 0) dX10_brackets_54 (by decide) ?_
      refine rz_zret dX10_brackets_55 rfl rfl ?_
      unfold A_br
      rw [if_neg (fun z => g15 z.2.1)]
    · have g15 := zb_ne h15
      refine zw_iload_n dX10_brackets_18 rfl rfl ?_
      refine zw_iload_n dX10_brackets_19 rfl rfl ?_
      refine zw_bipush (nI 7) dX10_brackets_20 (by decide) ?_
      refine rz_callS dX10_brackets_22 eX10_brackets_22 (c_in _ _ _) rfl rfl (Nat.le_of_ble_eq_true rfl) (fun x22 q22 => ?_)
      subst q22
      refine zw_if_eq 54 dX10_brackets_25 (by decide) (fun h25 => ?_) (fun h25 => ?_)
      · have g25 := zb_eq h25
        refine zw_iconst (nI 0) dX10_brackets_54 (by decide) ?_
        refine rz_zret dX10_brackets_55 rfl rfl ?_
        unfold A_br
        rw [if_neg (fun z => g25 z.2.2.1)]
      · have g25 := zb_ne h25
        refine zw_iload dX10_brackets_28 rfl ?_
        refine zw_iload_n dX10_brackets_30 rfl rfl ?_
        refine zw_bipush (nI 7) dX10_brackets_31 (by decide) ?_
        refine rz_callS dX10_brackets_33 eX10_brackets_33 (c_in _ _ _) rfl rfl (Nat.le_of_ble_eq_true rfl) (fun x33 q33 => ?_)
        subst q33
        refine zw_if_eq 54 dX10_brackets_36 (by decide) (fun h36 => ?_) (fun h36 => ?_)
        · have g36 := zb_eq h36
          refine zw_iconst (nI 0) dX10_brackets_54 (by decide) ?_
          refine rz_zret dX10_brackets_55 rfl rfl ?_
          unfold A_br
          rw [if_neg (fun z => g36 z.2.2.2.1)]
        · have g36 := zb_ne h36
          refine zw_iload dX10_brackets_39 rfl ?_
          refine zw_iconst (nI 0) dX10_brackets_41 (by decide) ?_
          refine zw_aload_n dX10_brackets_42 rfl rfl ?_
          refine rz_arr hz dX10_brackets_43 fX10_13 rfl ?_
          refine zw_iload_n dX10_brackets_46 rfl rfl ?_
          refine rz_ald ((zn s)) hz dX10_brackets_47 rfl (by decide) (by show (zn s) < 32; omega) rfl ?_
          refine zw_top hwd.1 ?_
          refine rz_callS dX10_brackets_48 eX10_brackets_48 (c_in _ _ _) rfl rfl (Nat.le_of_ble_eq_true rfl) (fun x48 q48 => ?_)
          subst q48
          refine zw_if_ne 56 dX10_brackets_51 (by decide) (fun h51 => ?_) (fun h51 => ?_)
          · have g51 := zb_ne h51
            refine zw_aload_n dX10_brackets_56 rfl rfl ?_
            refine rz_arr hz dX10_brackets_57 fX10_16 rfl ?_
            refine zw_iload_n dX10_brackets_60 rfl rfl ?_
            refine zw_iload_n dX10_brackets_61 rfl rfl ?_
            refine rz_ast ((zn s)) hz dX10_brackets_62 rfl (by decide) (by show (zn s) < 32; omega) rfl ?_
            refine zw_aload_n dX10_brackets_63 rfl rfl ?_
            refine rz_arr hz dX10_brackets_64 fX10_19 rfl ?_
            refine zw_iload_n dX10_brackets_67 rfl rfl ?_
            refine zw_iload_n dX10_brackets_68 rfl rfl ?_
            refine rz_ast ((zn s)) hz dX10_brackets_69 rfl (by decide) (by show (zn s) < 32; omega) rfl ?_
            refine zw_aload_n dX10_brackets_70 rfl rfl ?_
            refine rz_arr hz dX10_brackets_71 fX10_22 rfl ?_
            refine zw_iload_n dX10_brackets_74 rfl rfl ?_
            refine zw_iload dX10_brackets_75 rfl ?_
            refine rz_ast ((zn s)) hz dX10_brackets_77 rfl (by decide) (by show (zn s) < 32; omega) rfl ?_
            refine zw_aload_n dX10_brackets_78 rfl rfl ?_
            refine rz_arr hz dX10_brackets_79 fX10_25 rfl ?_
            refine zw_iload_n dX10_brackets_82 rfl rfl ?_
            refine zw_iload dX10_brackets_83 rfl ?_
            refine rz_ast ((zn s)) hz dX10_brackets_85 rfl (by decide) (by show (zn s) < 32; omega) rfl ?_
            refine zw_iconst (nI 1) dX10_brackets_86 (by decide) ?_
            refine rz_zret dX10_brackets_87 rfl rfl ?_
            unfold A_br
            rw [if_pos ⟨g5, g15, g25, g36, g51⟩]
          · have g51 := zb_eq h51
            refine zw_iconst (nI 0) dX10_brackets_54 (by decide) ?_
            refine rz_zret dX10_brackets_55 rfl rfl ?_
            unfold A_br
            rw [if_neg (fun z => g51 z.2.2.2.2)]
set_option maxHeartbeats 4000000 in
set_option maxRecDepth 100000 in
theorem c_flags {G : ZG} {Sh : ZS} {P : ZP} {C : ZI} {X : ZX} (hz : zr_sh Sh P) (S : ZT) (B : Nat) (hR : RI S B) (s u f : Int32) : rc G cX10_flags kX10_flags Sh P C S X [.inl s, .inl u, .inl f] (fun x S' X' => (x, S') = A_fl S s u f) := by
  refine zw_C.of (by decide) rfl (Nat.le_of_ble_eq_true rfl) ?_
  show zw G cX10_flags kX10_flags 0 0 0 [some (.inr (some (60, 99, 0))), some (.inl s), some (.inl u), some (.inl f)] [] Sh P (zl C S X) _
  have hs := hR.1
  have hsg := hs.2.1
  refine zw_aload_n dX10_flags_0 rfl rfl ?_
  refine zw_iload_n dX10_flags_1 rfl rfl ?_
  refine rz_callP hz dX10_flags_2 eX10_flags_2 (c_isSegment S hz hs _) rfl rfl (Nat.le_of_ble_eq_true rfl) (fun x2 q2 => ?_)
  subst q2
  refine zw_if_eq 27 dX10_flags_5 (by decide) (fun h5 => ?_) (fun h5 => ?_)
  · have g5 := zb_eq h5
    refine zw_iconst (nI 0) dX10_flags_27 (by decide) ?_
    refine rz_zret dX10_flags_28 rfl rfl ?_
    unfold A_fl
    rw [if_neg (fun z => g5 z.1)]
  · have g5 := zb_ne h5
    have h_s := zin_zn g5 (by omega)
    have e_s : (.inl s : Zv) = .inl (nI (zn s)) := congrArg _ h_s.2
    rw [e_s]
    refine zw_iload_n dX10_flags_8 rfl rfl ?_
    refine zw_iconst (nI 0) dX10_flags_9 (by decide) ?_
    refine zw_iconst (nI 3) dX10_flags_10 (by decide) ?_
    refine rz_callS dX10_flags_11 eX10_flags_11 (c_in _ _ _) rfl rfl (Nat.le_of_ble_eq_true rfl) (fun x11 q11 => ?_)
    rw [zb_congr (in_zin2 (m := 3) (by omega))] at q11
    subst q11
    refine zw_if_eq 27 dX10_flags_14 (by decide) (fun h14 => ?_) (fun h14 => ?_)
    · have g14 := zb_eq h14
      refine zw_iconst (nI 0) dX10_flags_27 (by decide) ?_
      refine rz_zret dX10_flags_28 rfl rfl ?_
      unfold A_fl
      rw [if_neg (fun z => g14 z.2.1)]
    · have g14 := zb_ne h14
      have h_u := zin_zn g14 (by omega)
      have e_u : (.inl u : Zv) = .inl (nI (zn u)) := congrArg _ h_u.2
      rw [e_u]
      refine zw_iload_n dX10_flags_17 rfl rfl ?_
      refine zw_iconst (nI 0) dX10_flags_18 (by decide) ?_
      refine zw_bipush (nI 7) dX10_flags_19 (by decide) ?_
      refine rz_callS dX10_flags_21 eX10_flags_21 (c_in _ _ _) rfl rfl (Nat.le_of_ble_eq_true rfl) (fun x21 q21 => ?_)
      rw [zb_congr (in_zin2 (m := 7) (by omega))] at q21
      subst q21
      refine zw_if_ne 29 dX10_flags_24 (by decide) (fun h24 => ?_) (fun h24 => ?_)
      · have g24 := zb_ne h24
        refine zw_aload_n dX10_flags_29 rfl rfl ?_
        refine rz_arr hz dX10_flags_30 fX10_28 rfl ?_
        refine zw_iconst (nI 4) dX10_flags_33 (by decide) ?_
        refine zw_iload_n dX10_flags_34 rfl rfl ?_
        refine zw_imulN dX10_flags_35 ?_
        refine zw_iload_n dX10_flags_36 rfl rfl ?_
        refine zw_iaddN dX10_flags_37 ?_
        refine zw_iload_n dX10_flags_38 rfl rfl ?_
        refine rz_ast (((4 * (zn s)) + (zn u))) hz dX10_flags_39 rfl (by decide) (by show ((4 * (zn s)) + (zn u)) < 128; omega) rfl ?_
        refine zw_iconst (nI 1) dX10_flags_40 (by decide) ?_
        refine rz_zret dX10_flags_41 rfl rfl ?_
        unfold A_fl
        rw [if_pos ⟨g5, g14, g24⟩]
      · have g24 := zb_eq h24
        refine zw_iconst (nI 0) dX10_flags_27 (by decide) ?_
        refine rz_zret dX10_flags_28 rfl rfl ?_
        unfold A_fl
        rw [if_neg (fun z => g24 z.2.2)]
set_option maxHeartbeats 4000000 in
set_option maxRecDepth 100000 in
theorem c_word {G : ZG} {Sh : ZS} {P : ZP} {C : ZI} {X : ZX} (hz : zr_sh Sh P) (S : ZT) (B : Nat) (hR : RI S B) (s k v : Int32) : rc G cX10_word kX10_word Sh P C S X [.inl s, .inl k, .inl v] (fun x S' X' => (x, S') = A_wo S s k v) := by
  refine zw_C.of (by decide) rfl (Nat.le_of_ble_eq_true rfl) ?_
  show zw G cX10_word kX10_word 0 0 0 [some (.inr (some (60, 99, 0))), some (.inl s), some (.inl k), some (.inl v)] [] Sh P (zl C S X) _
  have hs := hR.1
  have hsg := hs.2.1
  refine zw_aload_n dX10_word_0 rfl rfl ?_
  refine zw_iload_n dX10_word_1 rfl rfl ?_
  refine rz_callP hz dX10_word_2 eX10_word_2 (c_isSegment S hz hs _) rfl rfl (Nat.le_of_ble_eq_true rfl) (fun x2 q2 => ?_)
  subst q2
  refine zw_if_eq 24 dX10_word_5 (by decide) (fun h5 => ?_) (fun h5 => ?_)
  · have g5 := zb_eq h5
    refine zw_iconst (nI 0) dX10_word_24 (by decide) ?_
    refine rz_zret dX10_word_25 rfl rfl ?_
    unfold A_wo
    rw [if_neg (fun z => g5 z.1)]
  · have g5 := zb_ne h5
    have h_s := zin_zn g5 (by omega)
    have e_s : (.inl s : Zv) = .inl (nI (zn s)) := congrArg _ h_s.2
    rw [e_s]
    have hwd := hs.2.2 _ h_s.1
    refine zw_iload_n dX10_word_8 rfl rfl ?_
    refine zw_iconst (nI 0) dX10_word_9 (by decide) ?_
    refine zw_aload_n dX10_word_10 rfl rfl ?_
    refine rz_arr hz dX10_word_11 fX10_13 rfl ?_
    refine zw_iload_n dX10_word_14 rfl rfl ?_
    refine rz_ald ((zn s)) hz dX10_word_15 rfl (by decide) (by show (zn s) < 32; omega) rfl ?_
    refine zw_top hwd.1 ?_
    refine zw_iconst (nI 1) dX10_word_16 (by decide) ?_
    refine zw_isub dX10_word_17 ?_
    refine rz_callS dX10_word_18 eX10_word_18 (c_in _ _ _) rfl rfl (Nat.le_of_ble_eq_true rfl) (fun x18 q18 => ?_)
    rw [zb_congr (in_zin (by omega))] at q18
    subst q18
    refine zw_if_ne 26 dX10_word_21 (by decide) (fun h21 => ?_) (fun h21 => ?_)
    · have g21 := zb_ne h21
      have h_k := zin_zn g21 (by omega)
      have e_k : (.inl k : Zv) = .inl (nI (zn k)) := congrArg _ h_k.2
      rw [e_k]
      refine zw_aload_n dX10_word_26 rfl rfl ?_
      refine rz_arr hz dX10_word_27 fX10_31 rfl ?_
      refine zw_sipush (nI 256) dX10_word_30 (by decide) ?_
      refine zw_iload_n dX10_word_33 rfl rfl ?_
      refine zw_imulN dX10_word_34 ?_
      refine zw_iload_n dX10_word_35 rfl rfl ?_
      refine zw_iaddN dX10_word_36 ?_
      refine zw_iload_n dX10_word_37 rfl rfl ?_
      refine rz_ast (((256 * (zn s)) + (zn k))) hz dX10_word_38 rfl (by decide) (by show ((256 * (zn s)) + (zn k)) < 8192; omega) rfl ?_
      refine zw_iconst (nI 1) dX10_word_39 (by decide) ?_
      refine rz_zret dX10_word_40 rfl rfl ?_
      unfold A_wo
      rw [if_pos ⟨g5, g21⟩]
    · have g21 := zb_eq h21
      refine zw_iconst (nI 0) dX10_word_24 (by decide) ?_
      refine rz_zret dX10_word_25 rfl rfl ?_
      unfold A_wo
      rw [if_neg (fun z => g21 z.2)]
set_option maxHeartbeats 4000000 in
set_option maxRecDepth 100000 in
theorem c_define {G : ZG} {Sh : ZS} {P : ZP} {C : ZI} {X : ZX} (hz : zr_sh Sh P) (S : ZT) (B : Nat) (hR : RI S B) (s y k : Int32) : rc G cX10_define kX10_define Sh P C S X [.inl s, .inl y, .inl k] (fun x S' X' => (x, S') = A_de S s y k) := by
  refine zw_C.of (by decide) rfl (Nat.le_of_ble_eq_true rfl) ?_
  show zw G cX10_define kX10_define 0 0 0 [some (.inr (some (60, 99, 0))), some (.inl s), some (.inl y), some (.inl k)] [] Sh P (zl C S X) _
  have hs := hR.1
  have hsg := hs.2.1
  refine zw_aload_n dX10_define_0 rfl rfl ?_
  refine zw_iload_n dX10_define_1 rfl rfl ?_
  refine rz_callP hz dX10_define_2 eX10_define_2 (c_isSegment S hz hs _) rfl rfl (Nat.le_of_ble_eq_true rfl) (fun x2 q2 => ?_)
  subst q2
  refine zw_if_eq 44 dX10_define_5 (by decide) (fun h5 => ?_) (fun h5 => ?_)
  · have g5 := zb_eq h5
    refine zw_iconst (nI 0) dX10_define_44 (by decide) ?_
    refine rz_zret dX10_define_45 rfl rfl ?_
    unfold A_de
    rw [if_neg (fun z => g5 z.1)]
  · have g5 := zb_ne h5
    have h_s := zin_zn g5 (by omega)
    have e_s : (.inl s : Zv) = .inl (nI (zn s)) := congrArg _ h_s.2
    rw [e_s]
    have hwd := hs.2.2 _ h_s.1
    have hdd := hR.2.1 (zn s) (by omega)
    have hd16 := hdd.2
    refine zw_iload_n dX10_define_8 rfl rfl ?_
    refine zw_iconst (nI 0) dX10_define_9 (by decide) ?_
    refine zw_aload_n dX10_define_10 rfl rfl ?_
    refine rz_arr hz dX10_define_11 fX10_13 rfl ?_
    refine zw_iload_n dX10_define_14 rfl rfl ?_
    refine rz_ald ((zn s)) hz dX10_define_15 rfl (by decide) (by show (zn s) < 32; omega) rfl ?_
    refine zw_top hwd.1 ?_
    refine zw_iconst (nI 1) dX10_define_16 (by decide) ?_
    refine zw_isub dX10_define_17 ?_
    refine rz_callS dX10_define_18 eX10_define_18 (c_in _ _ _) rfl rfl (Nat.le_of_ble_eq_true rfl) (fun x18 q18 => ?_)
    rw [zb_congr (in_zin (by omega))] at q18
    subst q18
    refine zw_if_eq 44 dX10_define_21 (by decide) (fun h21 => ?_) (fun h21 => ?_)
    · have g21 := zb_eq h21
      refine zw_iconst (nI 0) dX10_define_44 (by decide) ?_
      refine rz_zret dX10_define_45 rfl rfl ?_
      unfold A_de
      rw [if_neg (fun z => g21 z.2.1)]
    · have g21 := zb_ne h21
      refine zw_aload_n dX10_define_24 rfl rfl ?_
      refine rz_arr hz dX10_define_25 fX10_40 rfl ?_
      refine zw_iload_n dX10_define_28 rfl rfl ?_
      refine rz_ald ((zn s)) hz dX10_define_29 rfl (by decide) (by show (zn s) < 32; omega) rfl ?_
      refine zw_top hdd.1 ?_
      refine zw_bipush (nI 16) dX10_define_30 (by decide) ?_
      refine zw_icmp_eq 44 dX10_define_32 (by decide) (fun h32 => ?_) (fun h32 => ?_)
      · have g32 : (df S (zn s)) = 16 := (nI_eq (by omega) (by omega)).mp h32
        refine zw_iconst (nI 0) dX10_define_44 (by decide) ?_
        refine rz_zret dX10_define_45 rfl rfl ?_
        unfold A_de
        rw [if_neg (fun z => z.2.2.1 g32)]
      · have g32 : ¬ ((df S (zn s)) = 16) := fun z => h32 ((nI_eq (by omega) (by omega)).mpr z)
        refine zw_aload_n dX10_define_35 rfl rfl ?_
        refine zw_iload_n dX10_define_36 rfl rfl ?_
        refine zw_iload_n dX10_define_37 rfl rfl ?_
        refine rz_callP hz dX10_define_38 eX10_define_38 (c_wordOf hz S (zn s) (by omega) hdd _) rfl rfl (Nat.le_of_ble_eq_true rfl) (fun x38 q38 => ?_)
        subst q38
        refine zw_if_lt 46 dX10_define_41 (by decide) (fun h41 => ?_) (fun h41 => ?_)
        · refine zw_aload_n dX10_define_46 rfl rfl ?_
          refine rz_arr hz dX10_define_47 fX10_34 rfl ?_
          refine zw_bipush (nI 16) dX10_define_50 (by decide) ?_
          refine zw_iload_n dX10_define_52 rfl rfl ?_
          refine zw_imulN dX10_define_53 ?_
          refine zw_aload_n dX10_define_54 rfl rfl ?_
          refine rz_arr hz dX10_define_55 fX10_40 rfl ?_
          refine zw_iload_n dX10_define_58 rfl rfl ?_
          refine rz_ald ((zn s)) hz dX10_define_59 rfl (by decide) (by show (zn s) < 32; omega) rfl ?_
          refine zw_top hdd.1 ?_
          refine zw_iaddN dX10_define_60 ?_
          refine zw_iload_n dX10_define_61 rfl rfl ?_
          refine rz_ast (((16 * (zn s)) + (df S (zn s)))) hz dX10_define_62 rfl (by decide) (by show ((16 * (zn s)) + (df S (zn s))) < 512; omega) rfl ?_
          refine zw_aload_n dX10_define_63 rfl rfl ?_
          refine rz_arr hz dX10_define_64 fX10_37 rfl ?_
          refine zw_bipush (nI 16) dX10_define_67 (by decide) ?_
          refine zw_iload_n dX10_define_69 rfl rfl ?_
          refine zw_imulN dX10_define_70 ?_
          refine zw_aload_n dX10_define_71 rfl rfl ?_
          refine rz_arr hz dX10_define_72 fX10_40 rfl ?_
          refine zw_iload_n dX10_define_75 rfl rfl ?_
          refine rz_ald ((zn s)) hz dX10_define_76 rfl (by decide) (by show (zn s) < 32; omega) rfl ?_
          refine zw_top (y := nI (df S (zn s))) (by rw [us_ne (by omega)]; exact hdd.1) ?_
          refine zw_iaddN dX10_define_77 ?_
          refine zw_iload_n dX10_define_78 rfl rfl ?_
          refine rz_ast (((16 * (zn s)) + (df S (zn s)))) hz dX10_define_79 rfl (by decide) (by show ((16 * (zn s)) + (df S (zn s))) < 512; omega) rfl ?_
          refine zw_aload_n dX10_define_80 rfl rfl ?_
          refine rz_arr hz dX10_define_81 fX10_40 rfl ?_
          refine zw_iload_n dX10_define_84 rfl rfl ?_
          refine zw_dup2 dX10_define_85 ?_
          refine rz_ald ((zn s)) hz dX10_define_86 rfl (by decide) (by show (zn s) < 32; omega) rfl ?_
          refine zw_top (y := nI (df S (zn s))) (by rw [us_ne (by omega), us_ne (by omega)]; exact hdd.1) ?_
          refine zw_iconst (nI 1) dX10_define_87 (by decide) ?_
          refine zw_iaddN dX10_define_88 ?_
          refine rz_ast ((zn s)) hz dX10_define_89 rfl (by decide) (by show (zn s) < 32; omega) rfl ?_
          refine zw_iconst (nI 1) dX10_define_90 (by decide) ?_
          refine rz_zret dX10_define_91 rfl rfl ?_
          unfold A_de
          rw [if_pos ⟨g5, g21, g32, h41⟩]
        · refine zw_iconst (nI 0) dX10_define_44 (by decide) ?_
          refine rz_zret dX10_define_45 rfl rfl ?_
          unfold A_de
          rw [if_neg (fun z => h41 z.2.2.2)]
set_option maxHeartbeats 4000000 in
set_option maxRecDepth 100000 in
theorem c_link {G : ZG} {Sh : ZS} {P : ZP} {C : ZI} {X : ZX} (hz : zr_sh Sh P) (S : ZT) (B : Nat) (hR : RI S B) (s k nm y : Int32) : rc G cX10_link kX10_link Sh P C S X [.inl s, .inl k, .inl nm, .inl y] (fun x S' X' => (x, S') = A_li S s k nm y) := by
  refine zw_C.of (by decide) rfl (Nat.le_of_ble_eq_true rfl) ?_
  show zw G cX10_link kX10_link 0 0 0 [some (.inr (some (60, 99, 0))), some (.inl s), some (.inl k), some (.inl nm), some (.inl y)] [] Sh P (zl C S X) _
  have hs := hR.1
  have hsg := hs.2.1
  refine zw_aload_n dX10_link_0 rfl rfl ?_
  refine zw_iload_n dX10_link_1 rfl rfl ?_
  refine rz_callP hz dX10_link_2 eX10_link_2 (c_isSegment S hz hs _) rfl rfl (Nat.le_of_ble_eq_true rfl) (fun x2 q2 => ?_)
  subst q2
  refine zw_if_eq 18 dX10_link_5 (by decide) (fun h5 => ?_) (fun h5 => ?_)
  · have g5 := zb_eq h5
    refine zw_iconst (nI 0) dX10_link_18 (by decide) ?_
    refine rz_zret dX10_link_19 rfl rfl ?_
    unfold A_li
    rw [if_neg (fun z => g5 z.1)]
  · have g5 := zb_ne h5
    have h_s := zin_zn g5 (by omega)
    have e_s : (.inl s : Zv) = .inl (nI (zn s)) := congrArg _ h_s.2
    rw [e_s]
    refine zw_iload_n dX10_link_8 rfl rfl ?_
    refine zw_iconst (nI 0) dX10_link_9 (by decide) ?_
    refine zw_bipush (nI 15) dX10_link_10 (by decide) ?_
    refine rz_callS dX10_link_12 eX10_link_12 (c_in _ _ _) rfl rfl (Nat.le_of_ble_eq_true rfl) (fun x12 q12 => ?_)
    rw [zb_congr (in_zin2 (m := 15) (by omega))] at q12
    subst q12
    refine zw_if_ne 20 dX10_link_15 (by decide) (fun h15 => ?_) (fun h15 => ?_)
    · have g15 := zb_ne h15
      have h_k := zin_zn g15 (by omega)
      have e_k : (.inl k : Zv) = .inl (nI (zn k)) := congrArg _ h_k.2
      rw [e_k]
      refine zw_aload_n dX10_link_20 rfl rfl ?_
      refine rz_arr hz dX10_link_21 fX10_43 rfl ?_
      refine zw_bipush (nI 16) dX10_link_24 (by decide) ?_
      refine zw_iload_n dX10_link_26 rfl rfl ?_
      refine zw_imulN dX10_link_27 ?_
      refine zw_iload_n dX10_link_28 rfl rfl ?_
      refine zw_iaddN dX10_link_29 ?_
      refine zw_iload_n dX10_link_30 rfl rfl ?_
      refine rz_ast (((16 * (zn s)) + (zn k))) hz dX10_link_31 rfl (by decide) (by show ((16 * (zn s)) + (zn k)) < 512; omega) rfl ?_
      refine zw_aload_n dX10_link_32 rfl rfl ?_
      refine rz_arr hz dX10_link_33 fX10_46 rfl ?_
      refine zw_bipush (nI 16) dX10_link_36 (by decide) ?_
      refine zw_iload_n dX10_link_38 rfl rfl ?_
      refine zw_imulN dX10_link_39 ?_
      refine zw_iload_n dX10_link_40 rfl rfl ?_
      refine zw_iaddN dX10_link_41 ?_
      refine zw_iload dX10_link_42 rfl ?_
      refine rz_ast (((16 * (zn s)) + (zn k))) hz dX10_link_44 rfl (by decide) (by show ((16 * (zn s)) + (zn k)) < 512; omega) rfl ?_
      refine zw_aload_n dX10_link_45 rfl rfl ?_
      refine rz_arr hz dX10_link_46 fX10_49 rfl ?_
      refine zw_bipush (nI 16) dX10_link_49 (by decide) ?_
      refine zw_iload_n dX10_link_51 rfl rfl ?_
      refine zw_imulN dX10_link_52 ?_
      refine zw_iload_n dX10_link_53 rfl rfl ?_
      refine zw_iaddN dX10_link_54 ?_
      refine zw_iconst (nI 1) dX10_link_55 (by decide) ?_
      refine rz_zast (((16 * (zn s)) + (zn k))) hz dX10_link_56 (by show ((16 * (zn s)) + (zn k)) < 512; omega) rfl rfl ?_
      refine zw_iconst (nI 1) dX10_link_57 (by decide) ?_
      refine rz_zret dX10_link_58 rfl rfl ?_
      unfold A_li
      rw [if_pos ⟨g5, g15⟩]
    · have g15 := zb_eq h15
      refine zw_iconst (nI 0) dX10_link_18 (by decide) ?_
      refine rz_zret dX10_link_19 rfl rfl ?_
      unfold A_li
      rw [if_neg (fun z => g15 z.2)]
set_option maxHeartbeats 4000000 in
set_option maxRecDepth 100000 in
theorem l_segment {G : ZG} {Sh : ZS} {P : ZP} {C : ZI} {X : ZX} (hz : zr_sh Sh P) (S : ZT) (hs : sOK S) (h32 : sg S < 32) (nm w : Int32) : ∀ (f s : Nat), s + f = sg S → zw G cX10_segment kX10_segment 0 0 24 [some (.inr (some (60, 99, 0))), some (.inl nm), some (.inl w), some (.inl (nI s))] [] Sh P (zl C S X) (rq C Sh P (fun x S' X' => (x, S') = (if hasF S nm f s = false then (nI (sg S), us (us (us S 0 (sg S) nm) 1 (sg S) w) 99 14 (nI (sg S + 1))) else (-1, S)))) := by
  intro f
  induction f with
  | zero =>
    intro s hf
    refine zw_iload_n dX10_segment_24 rfl rfl ?_
    refine zw_aload_n dX10_segment_25 rfl rfl ?_
    refine rz_int hz dX10_segment_26 fX10_77 rfl (by decide) ?_
    refine zw_top hs.1 ?_
    refine zw_icmp_ge 50 dX10_segment_29 (by decide) (fun h29 => ?_) (fun h29 => ?_)
    · have g29 : (sg S) ≤ s := (nI_leI (by omega) (by omega)).mp h29
      refine zw_aload_n dX10_segment_50 rfl rfl ?_
      refine rz_arr hz dX10_segment_51 fX10_7 rfl ?_
      refine zw_aload_n dX10_segment_54 rfl rfl ?_
      refine rz_int hz dX10_segment_55 fX10_77 rfl (by decide) ?_
      refine zw_top hs.1 ?_
      refine zw_iload_n dX10_segment_58 rfl rfl ?_
      refine rz_ast ((sg S)) hz dX10_segment_59 rfl (by decide) (by show (sg S) < 32; omega) rfl ?_
      refine zw_aload_n dX10_segment_60 rfl rfl ?_
      refine rz_arr hz dX10_segment_61 fX10_13 rfl ?_
      refine zw_aload_n dX10_segment_64 rfl rfl ?_
      refine rz_int hz dX10_segment_65 fX10_77 rfl (by decide) ?_
      refine zw_top (y := nI (sg S)) (by rw [us_ne (by omega)]; exact hs.1) ?_
      refine zw_iload_n dX10_segment_68 rfl rfl ?_
      refine rz_ast ((sg S)) hz dX10_segment_69 rfl (by decide) (by show (sg S) < 32; omega) rfl ?_
      refine zw_aload_n dX10_segment_70 rfl rfl ?_
      refine zw_dup dX10_segment_71 ?_
      refine rz_int hz dX10_segment_72 fX10_77 rfl (by decide) ?_
      refine zw_top (y := nI (sg S)) (by rw [us_ne (by omega), us_ne (by omega)]; exact hs.1) ?_
      refine zw_iconst (nI 1) dX10_segment_75 (by decide) ?_
      refine zw_iaddN dX10_segment_76 ?_
      refine rz_put hz dX10_segment_77 fX10_77 rfl rfl ⟨rfl, rfl⟩ (by decide) ?_
      refine zw_aload_n dX10_segment_80 rfl rfl ?_
      refine rz_int hz dX10_segment_81 fX10_77 rfl (by decide) ?_
      refine zw_top (y := nI (sg S + 1)) us_at ?_
      refine zw_iconst (nI 1) dX10_segment_84 (by decide) ?_
      refine zw_isub dX10_segment_85 ?_
      exact rz_iret dX10_segment_86 rfl (by rw [hasF, if_pos rfl]; exact congrArg (fun x => (x, _)) (nI_pred (sg S)))
    · exact absurd ((nI_leI (by omega) (by omega)).mpr (by omega)) h29
  | succ f ih =>
    intro s hf
    refine zw_iload_n dX10_segment_24 rfl rfl ?_
    refine zw_aload_n dX10_segment_25 rfl rfl ?_
    refine rz_int hz dX10_segment_26 fX10_77 rfl (by decide) ?_
    refine zw_top hs.1 ?_
    refine zw_icmp_ge 50 dX10_segment_29 (by decide) (fun h29 => ?_) (fun h29 => ?_)
    · exact absurd ((nI_leI (by omega) (by omega)).mp h29) (by omega)
    · have g29 : ¬ ((sg S) ≤ s) := fun z => h29 ((nI_leI (by omega) (by omega)).mpr z)
      refine zw_aload_n dX10_segment_32 rfl rfl ?_
      refine rz_arr hz dX10_segment_33 fX10_7 rfl ?_
      refine zw_iload_n dX10_segment_36 rfl rfl ?_
      refine rz_ald (s) hz dX10_segment_37 rfl (by decide) (by show s < 32; omega) rfl ?_
      refine zw_iload_n dX10_segment_38 rfl rfl ?_
      refine zw_icmp_ne 44 dX10_segment_39 (by decide) (fun h39 => ?_) (fun h39 => ?_)
      · have eh : hasF S nm (f + 1) s = hasF S nm f (s + 1) := by rw [hasF, if_neg h39]
        rw [eh]
        refine zw_iinc (nI (s + 1)) dX10_segment_44 rfl (nI_1 _) (by decide) ?_
        dsimp only [List.set]
        refine zw_goto 24 dX10_segment_47 (by decide) ?_
        exact ih (s + 1) (by omega)
      · refine zw_iconst (-1) dX10_segment_42 (by decide) ?_
        exact rz_iret dX10_segment_43 rfl (by rw [hasF, if_pos h39]; rfl)
set_option maxHeartbeats 4000000 in
set_option maxRecDepth 100000 in
theorem c_segment {G : ZG} {Sh : ZS} {P : ZP} {C : ZI} {X : ZX} (hz : zr_sh Sh P) (S : ZT) (B : Nat) (hR : RI S B) (nm w : Int32) : rc G cX10_segment kX10_segment Sh P C S X [.inl nm, .inl w] (fun x S' X' => (x, S') = A_seg S nm w) := by
  refine zw_C.of (by decide) rfl (Nat.le_of_ble_eq_true rfl) ?_
  show zw G cX10_segment kX10_segment 0 0 0 [some (.inr (some (60, 99, 0))), some (.inl nm), some (.inl w), none] [] Sh P (zl C S X) _
  have hs := hR.1
  have hsg := hs.2.1
  refine zw_aload_n dX10_segment_0 rfl rfl ?_
  refine rz_int hz dX10_segment_1 fX10_77 rfl (by decide) ?_
  refine zw_top hs.1 ?_
  refine zw_bipush (nI 32) dX10_segment_4 (by decide) ?_
  refine zw_icmp_eq 20 dX10_segment_6 (by decide) (fun h6 => ?_) (fun h6 => ?_)
  · have g6 : (sg S) = 32 := (nI_eq (by omega) (by omega)).mp h6
    refine zw_iconst (-1) dX10_segment_20 (by decide) ?_
    refine rz_iret dX10_segment_21 rfl ?_
    unfold A_seg
    rw [if_neg (fun z => z.1 g6)]
  · have g6 : ¬ ((sg S) = 32) := fun z => h6 ((nI_eq (by omega) (by omega)).mpr z)
    refine zw_iload_n dX10_segment_9 rfl rfl ?_
    refine zw_iconst (nI 1) dX10_segment_10 (by decide) ?_
    refine zw_sipush (nI 256) dX10_segment_11 (by decide) ?_
    refine rz_callS dX10_segment_14 eX10_segment_14 (c_in _ _ _) rfl rfl (Nat.le_of_ble_eq_true rfl) (fun x14 q14 => ?_)
    subst q14
    refine zw_if_ne 22 dX10_segment_17 (by decide) (fun h17 => ?_) (fun h17 => ?_)
    · have g17 := zb_ne h17
      refine zw_iconst (nI 0) dX10_segment_22 (by decide) ?_
      refine zw_istore_n dX10_segment_23 rfl (by decide) ?_
      dsimp only [List.set]
      refine zw.mono (l_segment hz S hs (by omega) nm w (sg S) 0 (by omega)) ?_
      rintro v2 Sh2 P2 I2 ⟨x, S2, X2, g1, g2, g3, g4, g5x⟩
      refine ⟨x, S2, X2, g1, g2, g3, g4, ?_⟩
      refine Eq.trans g5x ?_
      unfold A_seg
      by_cases hh : hasF S nm (sg S) 0 = false
      · rw [if_pos hh, if_pos ⟨g6, g17, hh⟩]
      · rw [if_neg hh, if_neg (fun z => hh z.2.2)]
    · have g17 := zb_eq h17
      refine zw_iconst (-1) dX10_segment_20 (by decide) ?_
      refine rz_iret dX10_segment_21 rfl ?_
      unfold A_seg
      rw [if_neg (fun z => g17 z.2.1)]
set_option maxHeartbeats 4000000 in
set_option maxRecDepth 100000 in
theorem l_st1 {G : ZG} {Sh : ZS} {P : ZP} {C : ZI} {X : ZX} {Q : ZQ} (hz : zr_sh Sh P) (S : ZT) (p : Nat) (hp : p < 4) (s : Nat) (kk ring : Int32) (hx : zw G cX10_start kX10_start 0 0 73 [some (.inr (some (60, 99, 0))), some (.inl (nI p)), some (.inl (nI s)), some (.inl kk), some (.inl ring), some (.inl (nI (30 * p))), some (.inl (nI 30))] [] Sh P (zl C (zF S 15 (30 * p) 30) X) Q) : ∀ (f k : Nat), k + f = 30 → zw G cX10_start kX10_start 0 0 49 [some (.inr (some (60, 99, 0))), some (.inl (nI p)), some (.inl (nI s)), some (.inl kk), some (.inl ring), some (.inl (nI (30 * p))), some (.inl (nI k))] [] Sh P (zl C (zF S 15 (30 * p) k) X) Q := by
  intro f
  induction f with
  | zero =>
    intro k hf
    have ek : k = 30 := by omega
    subst ek
    refine zw_iload dX10_start_49 rfl ?_
    refine zw_bipush (nI 30) dX10_start_51 (by decide) ?_
    refine zw_icmp_ge 73 dX10_start_53 (by decide) (fun h53 => ?_) (fun h53 => ?_)
    · have g53 : 30 ≤ 30 := (nI_leI (by omega) (by omega)).mp h53
      exact hx
    · exact absurd ((nI_leI (by omega) (by omega)).mpr (by omega)) h53
  | succ f ih =>
    intro k hf
    refine zw_iload dX10_start_49 rfl ?_
    refine zw_bipush (nI 30) dX10_start_51 (by decide) ?_
    refine zw_icmp_ge 73 dX10_start_53 (by decide) (fun h53 => ?_) (fun h53 => ?_)
    · exact absurd ((nI_leI (by omega) (by omega)).mp h53) (by omega)
    · have g53 : ¬ (30 ≤ k) := fun z => h53 ((nI_leI (by omega) (by omega)).mpr z)
      refine zw_aload_n dX10_start_56 rfl rfl ?_
      refine rz_arr hz dX10_start_57 fX10_53 rfl ?_
      refine zw_iload dX10_start_60 rfl ?_
      refine zw_iload dX10_start_62 rfl ?_
      refine zw_iaddN dX10_start_64 ?_
      refine zw_iconst (nI 0) dX10_start_65 (by decide) ?_
      refine rz_ast (((30 * p) + k)) hz dX10_start_66 rfl (by decide) (by show ((30 * p) + k) < 120; omega) rfl ?_
      refine zw_iinc (nI (k + 1)) dX10_start_67 rfl (nI_1 _) (by decide) ?_
      dsimp only [List.set]
      refine zw_goto 49 dX10_start_70 (by decide) ?_
      exact ih (k + 1) (by omega)
set_option maxHeartbeats 4000000 in
set_option maxRecDepth 100000 in
theorem l_st3 {G : ZG} {Sh : ZS} {P : ZP} {C : ZI} {X : ZX} {Q : ZQ} (hz : zr_sh Sh P) (S : ZT) (p : Nat) (hp : p < 4) (s : Nat) (kk ring : Int32) (hx : zw G cX10_start kX10_start 0 0 222 [some (.inr (some (60, 99, 0))), some (.inl (nI p)), some (.inl (nI s)), some (.inl kk), some (.inl ring), some (.inl (nI (30 * p))), some (.inl (nI 512))] [] Sh P (zl C (skF S p 512) X) Q) : ∀ (f k : Nat), k + f = 512 → zw G cX10_start kX10_start 0 0 180 [some (.inr (some (60, 99, 0))), some (.inl (nI p)), some (.inl (nI s)), some (.inl kk), some (.inl ring), some (.inl (nI (30 * p))), some (.inl (nI k))] [] Sh P (zl C (skF S p k) X) Q := by
  intro f
  induction f with
  | zero =>
    intro k hf
    have ek : k = 512 := by omega
    subst ek
    refine zw_iload dX10_start_180 rfl ?_
    refine zw_sipush (nI 512) dX10_start_182 (by decide) ?_
    refine zw_icmp_ge 222 dX10_start_185 (by decide) (fun h185 => ?_) (fun h185 => ?_)
    · have g185 : 512 ≤ 512 := (nI_leI (by omega) (by omega)).mp h185
      exact hx
    · exact absurd ((nI_leI (by omega) (by omega)).mpr (by omega)) h185
  | succ f ih =>
    intro k hf
    refine zw_iload dX10_start_180 rfl ?_
    refine zw_sipush (nI 512) dX10_start_182 (by decide) ?_
    refine zw_icmp_ge 222 dX10_start_185 (by decide) (fun h185 => ?_) (fun h185 => ?_)
    · exact absurd ((nI_leI (by omega) (by omega)).mp h185) (by omega)
    · have g185 : ¬ (512 ≤ k) := fun z => h185 ((nI_leI (by omega) (by omega)).mpr z)
      refine zw_aload_n dX10_start_188 rfl rfl ?_
      refine rz_arr hz dX10_start_189 fX10_59 rfl ?_
      refine zw_sipush (nI 512) dX10_start_192 (by decide) ?_
      refine zw_iload_n dX10_start_195 rfl rfl ?_
      refine zw_imulN dX10_start_196 ?_
      refine zw_iload dX10_start_197 rfl ?_
      refine zw_iaddN dX10_start_199 ?_
      refine zw_iconst (nI 0) dX10_start_200 (by decide) ?_
      refine rz_ast (((512 * p) + k)) hz dX10_start_201 rfl (by decide) (by show ((512 * p) + k) < 2048; omega) rfl ?_
      refine zw_aload_n dX10_start_202 rfl rfl ?_
      refine rz_arr hz dX10_start_203 fX10_65 rfl ?_
      refine zw_sipush (nI 512) dX10_start_206 (by decide) ?_
      refine zw_iload_n dX10_start_209 rfl rfl ?_
      refine zw_imulN dX10_start_210 ?_
      refine zw_iload dX10_start_211 rfl ?_
      refine zw_iaddN dX10_start_213 ?_
      refine zw_iconst (nI 0) dX10_start_214 (by decide) ?_
      refine rz_ast (((512 * p) + k)) hz dX10_start_215 rfl (by decide) (by show ((512 * p) + k) < 2048; omega) rfl ?_
      refine zw_iinc (nI (k + 1)) dX10_start_216 rfl (nI_1 _) (by decide) ?_
      dsimp only [List.set]
      refine zw_goto 180 dX10_start_219 (by decide) ?_
      exact ih (k + 1) (by omega)
set_option maxHeartbeats 4000000 in
set_option maxRecDepth 100000 in
theorem l_st2 {G : ZG} {Sh : ZS} {P : ZP} {C : ZI} {X : ZX} {Q : ZQ} (hz : zr_sh Sh P) (S : ZT) (p : Nat) (hp : p < 4) (s : Nat) (kk ring : Int32) (hx : zw G cX10_start kX10_start 0 0 177 [some (.inr (some (60, 99, 0))), some (.inl (nI p)), some (.inl (nI s)), some (.inl kk), some (.inl ring), some (.inl (nI (30 * p))), some (.inl (nI 24))] [] Sh P (zl C (ptF S p ring 24) X) Q) : ∀ (f k : Nat), k + f = 24 → zw G cX10_start kX10_start 0 0 139 [some (.inr (some (60, 99, 0))), some (.inl (nI p)), some (.inl (nI s)), some (.inl kk), some (.inl ring), some (.inl (nI (30 * p))), some (.inl (nI k))] [] Sh P (zl C (ptF S p ring k) X) Q := by
  intro f
  induction f with
  | zero =>
    intro k hf
    have ek : k = 24 := by omega
    subst ek
    refine zw_iload dX10_start_139 rfl ?_
    refine zw_bipush (nI 24) dX10_start_141 (by decide) ?_
    refine zw_icmp_ge 177 dX10_start_143 (by decide) (fun h143 => ?_) (fun h143 => ?_)
    · have g143 : 24 ≤ 24 := (nI_leI (by omega) (by omega)).mp h143
      exact hx
    · exact absurd ((nI_leI (by omega) (by omega)).mpr (by omega)) h143
  | succ f ih =>
    intro k hf
    refine zw_iload dX10_start_139 rfl ?_
    refine zw_bipush (nI 24) dX10_start_141 (by decide) ?_
    refine zw_icmp_ge 177 dX10_start_143 (by decide) (fun h143 => ?_) (fun h143 => ?_)
    · exact absurd ((nI_leI (by omega) (by omega)).mp h143) (by omega)
    · have g143 : ¬ (24 ≤ k) := fun z => h143 ((nI_leI (by omega) (by omega)).mpr z)
      refine zw_aload_n dX10_start_146 rfl rfl ?_
      refine rz_arr hz dX10_start_147 fX10_56 rfl ?_
      refine zw_bipush (nI 24) dX10_start_150 (by decide) ?_
      refine zw_iload_n dX10_start_152 rfl rfl ?_
      refine zw_imulN dX10_start_153 ?_
      refine zw_iload dX10_start_154 rfl ?_
      refine zw_iaddN dX10_start_156 ?_
      refine zw_iload dX10_start_157 rfl ?_
      refine zw_iconst (nI 3) dX10_start_159 (by decide) ?_
      refine zw_irem (by decide) dX10_start_160 ?_
      refine zw_top (y := nI (k % 3)) (pk_rem (by omega) (by omega) (by omega)) ?_
      refine zw_if_ne 169 dX10_start_161 (by decide) (fun h161 => ?_) (fun h161 => ?_)
      · have g161 : ¬ (k % 3) = 0 := fun z => h161 ((nI_eq (b := 0) (by omega) (by omega)).mpr z)
        refine zw_iconst (nI 0) dX10_start_169 (by decide) ?_
        refine zw_top (y := if k % 3 = 0 then ring else nI 0) (by first | exact (if_pos g161).symm | exact (if_neg g161).symm) ?_
        refine rz_ast (((24 * p) + k)) hz dX10_start_170 rfl (by decide) (by show ((24 * p) + k) < 96; omega) rfl ?_
        refine zw_iinc (nI (k + 1)) dX10_start_171 rfl (nI_1 _) (by decide) ?_
        dsimp only [List.set]
        refine zw_goto 139 dX10_start_174 (by decide) ?_
        exact ih (k + 1) (by omega)
      · have g161 : (k % 3) = 0 := (nI_eq (b := 0) (by omega) (by omega)).mp h161
        refine zw_iload dX10_start_164 rfl ?_
        refine zw_goto 170 dX10_start_166 (by decide) ?_
        refine zw_top (y := if k % 3 = 0 then ring else nI 0) (by first | exact (if_pos g161).symm | exact (if_neg g161).symm) ?_
        refine rz_ast (((24 * p) + k)) hz dX10_start_170 rfl (by decide) (by show ((24 * p) + k) < 96; omega) rfl ?_
        refine zw_iinc (nI (k + 1)) dX10_start_171 rfl (nI_1 _) (by decide) ?_
        dsimp only [List.set]
        refine zw_goto 139 dX10_start_174 (by decide) ?_
        exact ih (k + 1) (by omega)
set_option maxHeartbeats 4000000 in
set_option maxRecDepth 100000 in
theorem l_st5 {G : ZG} {Sh : ZS} {P : ZP} {C : ZI} {X : ZX} (hz : zr_sh Sh P) (S : ZT) (p : Nat) (hp : p < 4) (s : Nat) (kk ring : Int32) : zw G cX10_start kX10_start 0 0 222 [some (.inr (some (60, 99, 0))), some (.inl (nI p)), some (.inl (nI s)), some (.inl kk), some (.inl ring), some (.inl (nI (30 * p))), some (.inl (nI 512))] [] Sh P (zl C S X) (rq C Sh P (fun x S' X' => x = nI 1 ∧ S' = us S 18 (40 * p + 8) (nI s))) := by
  refine zw_aload_n dX10_start_222 rfl rfl ?_
  refine rz_arr hz dX10_start_223 fX10_62 rfl ?_
  refine zw_bipush (nI 40) dX10_start_226 (by decide) ?_
  refine zw_iload_n dX10_start_228 rfl rfl ?_
  refine zw_imulN dX10_start_229 ?_
  refine zw_bipush (nI 8) dX10_start_230 (by decide) ?_
  refine zw_iaddN dX10_start_232 ?_
  refine zw_iload_n dX10_start_233 rfl rfl ?_
  refine rz_ast (((40 * p) + 8)) hz dX10_start_234 rfl (by decide) (by show ((40 * p) + 8) < 160; omega) rfl ?_
  refine zw_iconst (nI 1) dX10_start_235 (by decide) ?_
  exact rz_zret dX10_start_236 rfl rfl ⟨rfl, rfl⟩
set_option maxHeartbeats 4000000 in
set_option maxRecDepth 100000 in
theorem l_st4 {G : ZG} {Sh : ZS} {P : ZP} {C : ZI} {X : ZX} (hz : zr_sh Sh P) (S : ZT) (p : Nat) (hp : p < 4) (s : Nat) (kk ring : Int32) : zw G cX10_start kX10_start 0 0 73 [some (.inr (some (60, 99, 0))), some (.inl (nI p)), some (.inl (nI s)), some (.inl kk), some (.inl ring), some (.inl (nI (30 * p))), some (.inl (nI 30))] [] Sh P (zl C S X) (rq C Sh P (fun x S' X' => x = nI 1 ∧ S' = us (skF (ptF (us (us (us (us (us (us S 15 (30 * p) (nI 1)) 15 (30 * p + 1) ring) 15 (30 * p + 2) (nI 8)) 15 (30 * p + 3) kk) 15 (30 * p + 16) (nI 9)) 15 (30 * p + 19) (-1)) p ring 24) p 512) 18 (40 * p + 8) (nI s))) := by
  refine zw_aload_n dX10_start_73 rfl rfl ?_
  refine rz_arr hz dX10_start_74 fX10_53 rfl ?_
  refine zw_iload dX10_start_77 rfl ?_
  refine zw_iconst (nI 1) dX10_start_79 (by decide) ?_
  refine rz_ast ((30 * p)) hz dX10_start_80 rfl (by decide) (by show (30 * p) < 120; omega) rfl ?_
  refine zw_aload_n dX10_start_81 rfl rfl ?_
  refine rz_arr hz dX10_start_82 fX10_53 rfl ?_
  refine zw_iload dX10_start_85 rfl ?_
  refine zw_iconst (nI 1) dX10_start_87 (by decide) ?_
  refine zw_iaddN dX10_start_88 ?_
  refine zw_iload dX10_start_89 rfl ?_
  refine rz_ast (((30 * p) + 1)) hz dX10_start_91 rfl (by decide) (by show ((30 * p) + 1) < 120; omega) rfl ?_
  refine zw_aload_n dX10_start_92 rfl rfl ?_
  refine rz_arr hz dX10_start_93 fX10_53 rfl ?_
  refine zw_iload dX10_start_96 rfl ?_
  refine zw_iconst (nI 2) dX10_start_98 (by decide) ?_
  refine zw_iaddN dX10_start_99 ?_
  refine zw_bipush (nI 8) dX10_start_100 (by decide) ?_
  refine rz_ast (((30 * p) + 2)) hz dX10_start_102 rfl (by decide) (by show ((30 * p) + 2) < 120; omega) rfl ?_
  refine zw_aload_n dX10_start_103 rfl rfl ?_
  refine rz_arr hz dX10_start_104 fX10_53 rfl ?_
  refine zw_iload dX10_start_107 rfl ?_
  refine zw_iconst (nI 3) dX10_start_109 (by decide) ?_
  refine zw_iaddN dX10_start_110 ?_
  refine zw_iload_n dX10_start_111 rfl rfl ?_
  refine rz_ast (((30 * p) + 3)) hz dX10_start_112 rfl (by decide) (by show ((30 * p) + 3) < 120; omega) rfl ?_
  refine zw_aload_n dX10_start_113 rfl rfl ?_
  refine rz_arr hz dX10_start_114 fX10_53 rfl ?_
  refine zw_iload dX10_start_117 rfl ?_
  refine zw_bipush (nI 16) dX10_start_119 (by decide) ?_
  refine zw_iaddN dX10_start_121 ?_
  refine zw_bipush (nI 9) dX10_start_122 (by decide) ?_
  refine rz_ast (((30 * p) + 16)) hz dX10_start_124 rfl (by decide) (by show ((30 * p) + 16) < 120; omega) rfl ?_
  refine zw_aload_n dX10_start_125 rfl rfl ?_
  refine rz_arr hz dX10_start_126 fX10_53 rfl ?_
  refine zw_iload dX10_start_129 rfl ?_
  refine zw_bipush (nI 19) dX10_start_131 (by decide) ?_
  refine zw_iaddN dX10_start_133 ?_
  refine zw_iconst (-1) dX10_start_134 (by decide) ?_
  refine rz_ast (((30 * p) + 19)) hz dX10_start_135 rfl (by decide) (by show ((30 * p) + 19) < 120; omega) rfl ?_
  refine zw_iconst (nI 0) dX10_start_136 (by decide) ?_
  refine zw_istore dX10_start_137 (by decide) ?_
  dsimp only [List.set]
  refine l_st2 hz _ p hp s kk ring ?_ 24 0 (by omega)
  refine zw_iconst (nI 0) dX10_start_177 (by decide) ?_
  refine zw_istore dX10_start_178 (by decide) ?_
  dsimp only [List.set]
  refine l_st3 hz _ p hp s kk ring ?_ 512 0 (by omega)
  exact l_st5 hz _ p hp s kk ring
set_option maxHeartbeats 4000000 in
set_option maxRecDepth 100000 in
theorem c_start {G : ZG} {Sh : ZS} {P : ZP} {C : ZI} {X : ZX} (hz : zr_sh Sh P) (S : ZT) (B : Nat) (hR : RI S B) (p s k ring : Int32) : rc G cX10_start kX10_start Sh P C S X [.inl p, .inl s, .inl k, .inl ring] (fun x S' X' => (x, S') = A_st S p s k ring) := by
  refine zw_C.of (by decide) rfl (Nat.le_of_ble_eq_true rfl) ?_
  show zw G cX10_start kX10_start 0 0 0 [some (.inr (some (60, 99, 0))), some (.inl p), some (.inl s), some (.inl k), some (.inl ring), none, none] [] Sh P (zl C S X) _
  have hs := hR.1
  have hsg := hs.2.1
  refine zw_iload_n dX10_start_0 rfl rfl ?_
  refine zw_iconst (nI 0) dX10_start_1 (by decide) ?_
  refine zw_iconst (nI 3) dX10_start_2 (by decide) ?_
  refine rz_callS dX10_start_3 eX10_start_3 (c_in _ _ _) rfl rfl (Nat.le_of_ble_eq_true rfl) (fun x3 q3 => ?_)
  rw [zb_congr (in_zin2 (m := 3) (by omega))] at q3
  subst q3
  refine zw_if_eq 38 dX10_start_6 (by decide) (fun h6 => ?_) (fun h6 => ?_)
  · have g6 := zb_eq h6
    refine zw_iconst (nI 0) dX10_start_38 (by decide) ?_
    refine rz_zret dX10_start_39 rfl rfl ?_
    unfold A_st
    rw [if_neg (fun z => g6 z.1)]
  · have g6 := zb_ne h6
    have h_p := zin_zn g6 (by omega)
    have e_p : (.inl p : Zv) = .inl (nI (zn p)) := congrArg _ h_p.2
    rw [e_p]
    refine zw_aload_n dX10_start_9 rfl rfl ?_
    refine zw_iload_n dX10_start_10 rfl rfl ?_
    refine rz_callP hz dX10_start_11 eX10_start_11 (c_isSegment S hz hs _) rfl rfl (Nat.le_of_ble_eq_true rfl) (fun x11 q11 => ?_)
    subst q11
    refine zw_if_eq 38 dX10_start_14 (by decide) (fun h14 => ?_) (fun h14 => ?_)
    · have g14 := zb_eq h14
      refine zw_iconst (nI 0) dX10_start_38 (by decide) ?_
      refine rz_zret dX10_start_39 rfl rfl ?_
      unfold A_st
      rw [if_neg (fun z => g14 z.2.1)]
    · have g14 := zb_ne h14
      have h_s := zin_zn g14 (by omega)
      have e_s : (.inl s : Zv) = .inl (nI (zn s)) := congrArg _ h_s.2
      rw [e_s]
      refine zw_iload dX10_start_17 rfl ?_
      refine zw_iconst (nI 0) dX10_start_19 (by decide) ?_
      refine zw_bipush (nI 7) dX10_start_20 (by decide) ?_
      refine rz_callS dX10_start_22 eX10_start_22 (c_in _ _ _) rfl rfl (Nat.le_of_ble_eq_true rfl) (fun x22 q22 => ?_)
      rw [zb_congr (in_zin2 (m := 7) (by omega))] at q22
      subst q22
      refine zw_if_eq 38 dX10_start_25 (by decide) (fun h25 => ?_) (fun h25 => ?_)
      · have g25 := zb_eq h25
        refine zw_iconst (nI 0) dX10_start_38 (by decide) ?_
        refine rz_zret dX10_start_39 rfl rfl ?_
        unfold A_st
        rw [if_neg (fun z => g25 z.2.2.1)]
      · have g25 := zb_ne h25
        refine zw_iload_n dX10_start_28 rfl rfl ?_
        refine zw_iconst (nI 0) dX10_start_29 (by decide) ?_
        refine zw_ldc (65535) dX10_start_30 lX10_93 ?_
        refine zw_top (y := nI 65535) rfl ?_
        refine rz_callS dX10_start_32 eX10_start_32 (c_in _ _ _) rfl rfl (Nat.le_of_ble_eq_true rfl) (fun x32 q32 => ?_)
        rw [zb_congr (in_zin2 (m := 65535) (by omega))] at q32
        subst q32
        refine zw_if_ne 40 dX10_start_35 (by decide) (fun h35 => ?_) (fun h35 => ?_)
        · have g35 := zb_ne h35
          refine zw_bipush (nI 30) dX10_start_40 (by decide) ?_
          refine zw_iload_n dX10_start_42 rfl rfl ?_
          refine zw_imulN dX10_start_43 ?_
          refine zw_istore dX10_start_44 (by decide) ?_
          dsimp only [List.set]
          refine zw_iconst (nI 0) dX10_start_46 (by decide) ?_
          refine zw_istore dX10_start_47 (by decide) ?_
          dsimp only [List.set]
          refine l_st1 hz S (zn p) h_p.1 (zn s) k ring ?_ 30 0 (by omega)
          refine zw.mono (l_st4 hz _ (zn p) h_p.1 (zn s) k ring) ?_
          rintro v2 Sh2 P2 I2 ⟨x, S2, X2, a1, a2, a3, a4, a5, a6⟩
          exact ⟨x, S2, X2, a1, a2, a3, a4, by rw [a5, a6]; unfold A_st; rw [if_pos ⟨g6, g14, g25, g35⟩]; rfl⟩
        · have g35 := zb_eq h35
          refine zw_iconst (nI 0) dX10_start_38 (by decide) ?_
          refine rz_zret dX10_start_39 rfl rfl ?_
          unfold A_st
          rw [if_neg (fun z => g35 z.2.2.2)]
set_option maxHeartbeats 4000000 in
set_option maxRecDepth 100000 in
theorem c_handler {G : ZG} {Sh : ZS} {P : ZP} {C : ZI} {X : ZX} (hz : zr_sh Sh P) (S : ZT) (B : Nat) (hR : RI S B) (p s k : Int32) : rc G cX10_handler kX10_handler Sh P C S X [.inl p, .inl s, .inl k] (fun x S' X' => (x, S') = A_ha S p s k) := by
  refine zw_C.of (by decide) rfl (Nat.le_of_ble_eq_true rfl) ?_
  show zw G cX10_handler kX10_handler 0 0 0 [some (.inr (some (60, 99, 0))), some (.inl p), some (.inl s), some (.inl k), none] [] Sh P (zl C S X) _
  have hs := hR.1
  have hsg := hs.2.1
  refine zw_aload_n dX10_handler_0 rfl rfl ?_
  refine zw_iload_n dX10_handler_1 rfl rfl ?_
  refine rz_callP hz dX10_handler_2 eX10_handler_2 (c_isThere S hz _) rfl rfl (Nat.le_of_ble_eq_true rfl) (fun x2 q2 => ?_)
  subst q2
  refine zw_if_eq 26 dX10_handler_5 (by decide) (fun h5 => ?_) (fun h5 => ?_)
  · have g5 := zb_eq h5
    refine zw_iconst (-1) dX10_handler_26 (by decide) ?_
    refine rz_iret dX10_handler_27 rfl ?_
    unfold A_ha
    rw [if_neg (fun z => g5 z.1)]
  · have g5 := zb_ne h5
    have h_p := zin_zn g5.1 (by omega)
    have e_p : (.inl p : Zv) = .inl (nI (zn p)) := congrArg _ h_p.2
    rw [e_p]
    have hkd := hR.2.2.1 _ h_p.1 g5.2
    refine zw_aload_n dX10_handler_8 rfl rfl ?_
    refine zw_iload_n dX10_handler_9 rfl rfl ?_
    refine rz_callP hz dX10_handler_10 eX10_handler_10 (c_isSegment S hz hs _) rfl rfl (Nat.le_of_ble_eq_true rfl) (fun x10 q10 => ?_)
    subst q10
    refine zw_if_eq 26 dX10_handler_13 (by decide) (fun h13 => ?_) (fun h13 => ?_)
    · have g13 := zb_eq h13
      refine zw_iconst (-1) dX10_handler_26 (by decide) ?_
      refine rz_iret dX10_handler_27 rfl ?_
      unfold A_ha
      rw [if_neg (fun z => g13 z.2.1)]
    · have g13 := zb_ne h13
      have h_s := zin_zn g13 (by omega)
      have e_s : (.inl s : Zv) = .inl (nI (zn s)) := congrArg _ h_s.2
      rw [e_s]
      refine zw_iload_n dX10_handler_16 rfl rfl ?_
      refine zw_iconst (nI 0) dX10_handler_17 (by decide) ?_
      refine zw_ldc (65535) dX10_handler_18 lX10_93 ?_
      refine zw_top (y := nI 65535) rfl ?_
      refine rz_callS dX10_handler_20 eX10_handler_20 (c_in _ _ _) rfl rfl (Nat.le_of_ble_eq_true rfl) (fun x20 q20 => ?_)
      rw [zb_congr (in_zin2 (m := 65535) (by omega))] at q20
      subst q20
      refine zw_if_ne 28 dX10_handler_23 (by decide) (fun h23 => ?_) (fun h23 => ?_)
      · have g23 := zb_ne h23
        refine zw_aload_n dX10_handler_28 rfl rfl ?_
        refine zw_iload_n dX10_handler_29 rfl rfl ?_
        refine zw_iload_n dX10_handler_30 rfl rfl ?_
        refine rz_callV hz dX10_handler_31 eX10_handler_31 (c_knows hz S (zn p) h_p.1 hkd.1 (zn s) (by omega) (rOK_of hs hkd.1 hkd.2 _ h_s.1)) rfl rfl (Nat.le_of_ble_eq_true rfl) (fun x31 S31 X31 q31 => ?_)
        obtain ⟨b1, b2, b3⟩ := q31
        rw [b1, b2, b3]
        refine zw_istore dX10_handler_34 (by decide) ?_
        dsimp only [List.set]
        refine zw_aload_n dX10_handler_36 rfl rfl ?_
        refine rz_arr hz dX10_handler_37 fX10_53 rfl ?_
        refine zw_bipush (nI 30) dX10_handler_40 (by decide) ?_
        refine zw_iload_n dX10_handler_42 rfl rfl ?_
        refine zw_imulN dX10_handler_43 ?_
        refine zw_bipush (nI 19) dX10_handler_44 (by decide) ?_
        refine zw_iaddN dX10_handler_46 ?_
        refine zw_iload dX10_handler_47 rfl ?_
        refine rz_ast (((30 * (zn p)) + 19)) hz dX10_handler_49 rfl (by decide) (by show ((30 * (zn p)) + 19) < 120; omega) rfl ?_
        refine zw_aload_n dX10_handler_50 rfl rfl ?_
        refine rz_arr hz dX10_handler_51 fX10_53 rfl ?_
        refine zw_bipush (nI 30) dX10_handler_54 (by decide) ?_
        refine zw_iload_n dX10_handler_56 rfl rfl ?_
        refine zw_imulN dX10_handler_57 ?_
        refine zw_bipush (nI 20) dX10_handler_58 (by decide) ?_
        refine zw_iaddN dX10_handler_60 ?_
        refine zw_iload_n dX10_handler_61 rfl rfl ?_
        refine rz_ast (((30 * (zn p)) + 20)) hz dX10_handler_62 rfl (by decide) (by show ((30 * (zn p)) + 20) < 120; omega) rfl ?_
        refine zw_iload dX10_handler_63 rfl ?_
        refine rz_iret dX10_handler_65 rfl ?_
        unfold A_ha
        rw [if_pos ⟨g5, g13, g23⟩]
      · have g23 := zb_eq h23
        refine zw_iconst (-1) dX10_handler_26 (by decide) ?_
        refine rz_iret dX10_handler_27 rfl ?_
        unfold A_ha
        rw [if_neg (fun z => g23 z.2.2)]
set_option maxHeartbeats 4000000 in
set_option maxRecDepth 100000 in
theorem c_state {G : ZG} {Sh : ZS} {P : ZP} {C : ZI} {X : ZX} (hz : zr_sh Sh P) (S : ZT) (B : Nat) (hR : RI S B) (p w : Int32) : rc G cX10_state kX10_state Sh P C S X [.inl p, .inl w] (fun x S' X' => (S' = S ∧ X' = X) ∧ (x = A_sa S p w)) := by
  refine zw_C.of (by decide) rfl (Nat.le_of_ble_eq_true rfl) ?_
  show zw G cX10_state kX10_state 0 0 0 [some (.inr (some (60, 99, 0))), some (.inl p), some (.inl w)] [] Sh P (zl C S X) _
  have hs := hR.1
  have hsg := hs.2.1
  refine zw_aload_n dX10_state_0 rfl rfl ?_
  refine zw_iload_n dX10_state_1 rfl rfl ?_
  refine rz_callP hz dX10_state_2 eX10_state_2 (c_isThere S hz _) rfl rfl (Nat.le_of_ble_eq_true rfl) (fun x2 q2 => ?_)
  subst q2
  refine zw_if_eq 32 dX10_state_5 (by decide) (fun h5 => ?_) (fun h5 => ?_)
  · have g5 := zb_eq h5
    refine zw_iconst (nI 0) dX10_state_32 (by decide) ?_
    refine rz_iret dX10_state_33 rfl ⟨⟨rfl, rfl⟩, ?_⟩
    unfold A_sa
    rw [if_neg (fun z => g5 z.1)]
  · have g5 := zb_ne h5
    have h_p := zin_zn g5.1 (by omega)
    have e_p : (.inl p : Zv) = .inl (nI (zn p)) := congrArg _ h_p.2
    rw [e_p]
    refine zw_iload_n dX10_state_8 rfl rfl ?_
    refine zw_iconst (nI 0) dX10_state_9 (by decide) ?_
    refine zw_bipush (nI 18) dX10_state_10 (by decide) ?_
    refine rz_callS dX10_state_12 eX10_state_12 (c_in _ _ _) rfl rfl (Nat.le_of_ble_eq_true rfl) (fun x12 q12 => ?_)
    rw [zb_congr (in_zin2 (m := 18) (by omega))] at q12
    subst q12
    refine zw_if_eq 32 dX10_state_15 (by decide) (fun h15 => ?_) (fun h15 => ?_)
    · have g15 := zb_eq h15
      refine zw_iconst (nI 0) dX10_state_32 (by decide) ?_
      refine rz_iret dX10_state_33 rfl ⟨⟨rfl, rfl⟩, ?_⟩
      unfold A_sa
      rw [if_neg (fun z => g15 z.2)]
    · have g15 := zb_ne h15
      have h_w := zin_zn g15 (by omega)
      have e_w : (.inl w : Zv) = .inl (nI (zn w)) := congrArg _ h_w.2
      rw [e_w]
      refine zw_aload_n dX10_state_18 rfl rfl ?_
      refine rz_arr hz dX10_state_19 fX10_53 rfl ?_
      refine zw_bipush (nI 30) dX10_state_22 (by decide) ?_
      refine zw_iload_n dX10_state_24 rfl rfl ?_
      refine zw_imulN dX10_state_25 ?_
      refine zw_iload_n dX10_state_26 rfl rfl ?_
      refine zw_iaddN dX10_state_27 ?_
      refine rz_ald (((30 * (zn p)) + (zn w))) hz dX10_state_28 rfl (by decide) (by show ((30 * (zn p)) + (zn w)) < 120; omega) rfl ?_
      refine zw_goto 33 dX10_state_29 (by decide) ?_
      refine rz_iret dX10_state_33 rfl ⟨⟨rfl, rfl⟩, ?_⟩
      unfold A_sa
      rw [if_pos ⟨g5, g15⟩]
set_option maxHeartbeats 4000000 in
set_option maxRecDepth 100000 in
theorem c_pointer {G : ZG} {Sh : ZS} {P : ZP} {C : ZI} {X : ZX} (hz : zr_sh Sh P) (S : ZT) (B : Nat) (hR : RI S B) (p n w : Int32) : rc G cX10_pointer kX10_pointer Sh P C S X [.inl p, .inl n, .inl w] (fun x S' X' => (S' = S ∧ X' = X) ∧ (x = A_po S p n w)) := by
  refine zw_C.of (by decide) rfl (Nat.le_of_ble_eq_true rfl) ?_
  show zw G cX10_pointer kX10_pointer 0 0 0 [some (.inr (some (60, 99, 0))), some (.inl p), some (.inl n), some (.inl w)] [] Sh P (zl C S X) _
  have hs := hR.1
  have hsg := hs.2.1
  refine zw_aload_n dX10_pointer_0 rfl rfl ?_
  refine zw_iload_n dX10_pointer_1 rfl rfl ?_
  refine rz_callP hz dX10_pointer_2 eX10_pointer_2 (c_isThere S hz _) rfl rfl (Nat.le_of_ble_eq_true rfl) (fun x2 q2 => ?_)
  subst q2
  refine zw_if_eq 45 dX10_pointer_5 (by decide) (fun h5 => ?_) (fun h5 => ?_)
  · have g5 := zb_eq h5
    refine zw_iconst (-1) dX10_pointer_45 (by decide) ?_
    refine rz_iret dX10_pointer_46 rfl ⟨⟨rfl, rfl⟩, ?_⟩
    unfold A_po
    rw [if_neg (fun z => g5 z.1)]
  · have g5 := zb_ne h5
    have h_p := zin_zn g5.1 (by omega)
    have e_p : (.inl p : Zv) = .inl (nI (zn p)) := congrArg _ h_p.2
    rw [e_p]
    refine zw_iload_n dX10_pointer_8 rfl rfl ?_
    refine zw_iconst (nI 0) dX10_pointer_9 (by decide) ?_
    refine zw_bipush (nI 7) dX10_pointer_10 (by decide) ?_
    refine rz_callS dX10_pointer_12 eX10_pointer_12 (c_in _ _ _) rfl rfl (Nat.le_of_ble_eq_true rfl) (fun x12 q12 => ?_)
    rw [zb_congr (in_zin2 (m := 7) (by omega))] at q12
    subst q12
    refine zw_if_eq 45 dX10_pointer_15 (by decide) (fun h15 => ?_) (fun h15 => ?_)
    · have g15 := zb_eq h15
      refine zw_iconst (-1) dX10_pointer_45 (by decide) ?_
      refine rz_iret dX10_pointer_46 rfl ⟨⟨rfl, rfl⟩, ?_⟩
      unfold A_po
      rw [if_neg (fun z => g15 z.2.1)]
    · have g15 := zb_ne h15
      have h_n := zin_zn g15 (by omega)
      have e_n : (.inl n : Zv) = .inl (nI (zn n)) := congrArg _ h_n.2
      rw [e_n]
      refine zw_iload_n dX10_pointer_18 rfl rfl ?_
      refine zw_iconst (nI 0) dX10_pointer_19 (by decide) ?_
      refine zw_iconst (nI 2) dX10_pointer_20 (by decide) ?_
      refine rz_callS dX10_pointer_21 eX10_pointer_21 (c_in _ _ _) rfl rfl (Nat.le_of_ble_eq_true rfl) (fun x21 q21 => ?_)
      rw [zb_congr (in_zin2 (m := 2) (by omega))] at q21
      subst q21
      refine zw_if_eq 45 dX10_pointer_24 (by decide) (fun h24 => ?_) (fun h24 => ?_)
      · have g24 := zb_eq h24
        refine zw_iconst (-1) dX10_pointer_45 (by decide) ?_
        refine rz_iret dX10_pointer_46 rfl ⟨⟨rfl, rfl⟩, ?_⟩
        unfold A_po
        rw [if_neg (fun z => g24 z.2.2)]
      · have g24 := zb_ne h24
        have h_w := zin_zn g24 (by omega)
        have e_w : (.inl w : Zv) = .inl (nI (zn w)) := congrArg _ h_w.2
        rw [e_w]
        refine zw_aload_n dX10_pointer_27 rfl rfl ?_
        refine rz_arr hz dX10_pointer_28 fX10_56 rfl ?_
        refine zw_bipush (nI 24) dX10_pointer_31 (by decide) ?_
        refine zw_iload_n dX10_pointer_33 rfl rfl ?_
        refine zw_imulN dX10_pointer_34 ?_
        refine zw_iconst (nI 3) dX10_pointer_35 (by decide) ?_
        refine zw_iload_n dX10_pointer_36 rfl rfl ?_
        refine zw_imulN dX10_pointer_37 ?_
        refine zw_iaddN dX10_pointer_38 ?_
        refine zw_iload_n dX10_pointer_39 rfl rfl ?_
        refine zw_iaddN dX10_pointer_40 ?_
        refine rz_ald ((((24 * (zn p)) + (3 * (zn n))) + (zn w))) hz dX10_pointer_41 rfl (by decide) (by show (((24 * (zn p)) + (3 * (zn n))) + (zn w)) < 96; omega) rfl ?_
        refine zw_goto 46 dX10_pointer_42 (by decide) ?_
        refine rz_iret dX10_pointer_46 rfl ⟨⟨rfl, rfl⟩, ?_⟩
        unfold A_po
        rw [if_pos ⟨g5, g15, g24⟩]
set_option maxHeartbeats 4000000 in
set_option maxRecDepth 100000 in
theorem c_stored {G : ZG} {Sh : ZS} {P : ZP} {C : ZI} {X : ZX} (hz : zr_sh Sh P) (S : ZT) (B : Nat) (hR : RI S B) (s k : Int32) : rc G cX10_stored kX10_stored Sh P C S X [.inl s, .inl k] (fun x S' X' => (S' = S ∧ X' = X) ∧ (x = A_so S s k)) := by
  refine zw_C.of (by decide) rfl (Nat.le_of_ble_eq_true rfl) ?_
  show zw G cX10_stored kX10_stored 0 0 0 [some (.inr (some (60, 99, 0))), some (.inl s), some (.inl k)] [] Sh P (zl C S X) _
  have hs := hR.1
  have hsg := hs.2.1
  refine zw_aload_n dX10_stored_0 rfl rfl ?_
  refine zw_iload_n dX10_stored_1 rfl rfl ?_
  refine rz_callP hz dX10_stored_2 eX10_stored_2 (c_isSegment S hz hs _) rfl rfl (Nat.le_of_ble_eq_true rfl) (fun x2 q2 => ?_)
  subst q2
  refine zw_if_eq 39 dX10_stored_5 (by decide) (fun h5 => ?_) (fun h5 => ?_)
  · have g5 := zb_eq h5
    refine zw_iconst (nI 0) dX10_stored_39 (by decide) ?_
    refine rz_iret dX10_stored_40 rfl ⟨⟨rfl, rfl⟩, ?_⟩
    unfold A_so
    rw [if_neg (fun z => g5 z.1)]
  · have g5 := zb_ne h5
    have h_s := zin_zn g5 (by omega)
    have e_s : (.inl s : Zv) = .inl (nI (zn s)) := congrArg _ h_s.2
    rw [e_s]
    have hwd := hs.2.2 _ h_s.1
    refine zw_iload_n dX10_stored_8 rfl rfl ?_
    refine zw_iconst (nI 0) dX10_stored_9 (by decide) ?_
    refine zw_aload_n dX10_stored_10 rfl rfl ?_
    refine rz_arr hz dX10_stored_11 fX10_13 rfl ?_
    refine zw_iload_n dX10_stored_14 rfl rfl ?_
    refine rz_ald ((zn s)) hz dX10_stored_15 rfl (by decide) (by show (zn s) < 32; omega) rfl ?_
    refine zw_top hwd.1 ?_
    refine zw_iconst (nI 1) dX10_stored_16 (by decide) ?_
    refine zw_isub dX10_stored_17 ?_
    refine rz_callS dX10_stored_18 eX10_stored_18 (c_in _ _ _) rfl rfl (Nat.le_of_ble_eq_true rfl) (fun x18 q18 => ?_)
    rw [zb_congr (in_zin (by omega))] at q18
    subst q18
    refine zw_if_eq 39 dX10_stored_21 (by decide) (fun h21 => ?_) (fun h21 => ?_)
    · have g21 := zb_eq h21
      refine zw_iconst (nI 0) dX10_stored_39 (by decide) ?_
      refine rz_iret dX10_stored_40 rfl ⟨⟨rfl, rfl⟩, ?_⟩
      unfold A_so
      rw [if_neg (fun z => g21 z.2)]
    · have g21 := zb_ne h21
      have h_k := zin_zn g21 (by omega)
      have e_k : (.inl k : Zv) = .inl (nI (zn k)) := congrArg _ h_k.2
      rw [e_k]
      refine zw_aload_n dX10_stored_24 rfl rfl ?_
      refine rz_arr hz dX10_stored_25 fX10_31 rfl ?_
      refine zw_sipush (nI 256) dX10_stored_28 (by decide) ?_
      refine zw_iload_n dX10_stored_31 rfl rfl ?_
      refine zw_imulN dX10_stored_32 ?_
      refine zw_iload_n dX10_stored_33 rfl rfl ?_
      refine zw_iaddN dX10_stored_34 ?_
      refine rz_ald (((256 * (zn s)) + (zn k))) hz dX10_stored_35 rfl (by decide) (by show ((256 * (zn s)) + (zn k)) < 8192; omega) rfl ?_
      refine zw_goto 40 dX10_stored_36 (by decide) ?_
      refine rz_iret dX10_stored_40 rfl ⟨⟨rfl, rfl⟩, ?_⟩
      unfold A_so
      rw [if_pos ⟨g5, g21⟩]
set_option maxHeartbeats 4000000 in
set_option maxRecDepth 100000 in
theorem c_peek {G : ZG} {Sh : ZS} {P : ZP} {C : ZI} {X : ZX} (hz : zr_sh Sh P) (S : ZT) (B : Nat) (hR : RI S B) (p n k : Int32) : rc G cX10_peek kX10_peek Sh P C S X [.inl p, .inl n, .inl k] (fun x S' X' => (S' = S ∧ X' = X) ∧ (x = A_pe S p n k)) := by
  refine zw_C.of (by decide) rfl (Nat.le_of_ble_eq_true rfl) ?_
  show zw G cX10_peek kX10_peek 0 0 0 [some (.inr (some (60, 99, 0))), some (.inl p), some (.inl n), some (.inl k)] [] Sh P (zl C S X) _
  have hs := hR.1
  have hsg := hs.2.1
  refine zw_aload_n dX10_peek_0 rfl rfl ?_
  refine zw_iload_n dX10_peek_1 rfl rfl ?_
  refine rz_callP hz dX10_peek_2 eX10_peek_2 (c_isThere S hz _) rfl rfl (Nat.le_of_ble_eq_true rfl) (fun x2 q2 => ?_)
  subst q2
  refine zw_if_eq 43 dX10_peek_5 (by decide) (fun h5 => ?_) (fun h5 => ?_)
  · have g5 := zb_eq h5
    refine zw_iconst (nI 0) dX10_peek_43 (by decide) ?_
    refine rz_iret dX10_peek_44 rfl ⟨⟨rfl, rfl⟩, ?_⟩
    unfold A_pe
    rw [if_neg (fun z => g5 z.1)]
  · have g5 := zb_ne h5
    have h_p := zin_zn g5.1 (by omega)
    have e_p : (.inl p : Zv) = .inl (nI (zn p)) := congrArg _ h_p.2
    rw [e_p]
    have hkd := hR.2.2.1 _ h_p.1 g5.2
    have hkc := hkd.1.2.2.1
    refine zw_aload_n dX10_peek_8 rfl rfl ?_
    refine zw_iload_n dX10_peek_9 rfl rfl ?_
    refine zw_iload_n dX10_peek_10 rfl rfl ?_
    refine rz_callP hz dX10_peek_11 eX10_peek_11 (c_isKnown hz S (zn p) h_p.1 hkd.1 _) rfl rfl (Nat.le_of_ble_eq_true rfl) (fun x11 q11 => ?_)
    subst q11
    refine zw_if_eq 43 dX10_peek_14 (by decide) (fun h14 => ?_) (fun h14 => ?_)
    · have g14 := zb_eq h14
      refine zw_iconst (nI 0) dX10_peek_43 (by decide) ?_
      refine rz_iret dX10_peek_44 rfl ⟨⟨rfl, rfl⟩, ?_⟩
      unfold A_pe
      rw [if_neg (fun z => g14 z.2.1)]
    · have g14 := zb_ne h14
      have h_n := zin_zn g14 (by omega)
      have e_n : (.inl n : Zv) = .inl (nI (zn n)) := congrArg _ h_n.2
      rw [e_n]
      have hsz := sz_le hkd.1 hs h_n.1
      refine zw_iload_n dX10_peek_17 rfl rfl ?_
      refine zw_iconst (nI 0) dX10_peek_18 (by decide) ?_
      refine zw_aload_n dX10_peek_19 rfl rfl ?_
      refine zw_iload_n dX10_peek_20 rfl rfl ?_
      refine zw_iload_n dX10_peek_21 rfl rfl ?_
      refine rz_callP hz dX10_peek_22 eX10_peek_22 (c_sizeOf hz S (zn p) h_p.1 hkd.1 hs _ h_n.1) rfl rfl (Nat.le_of_ble_eq_true rfl) (fun x22 q22 => ?_)
      subst q22
      refine zw_iconst (nI 1) dX10_peek_25 (by decide) ?_
      refine zw_isub dX10_peek_26 ?_
      refine rz_callS dX10_peek_27 eX10_peek_27 (c_in _ _ _) rfl rfl (Nat.le_of_ble_eq_true rfl) (fun x27 q27 => ?_)
      rw [zb_congr (in_zin (by omega))] at q27
      subst q27
      refine zw_if_eq 43 dX10_peek_30 (by decide) (fun h30 => ?_) (fun h30 => ?_)
      · have g30 := zb_eq h30
        refine zw_iconst (nI 0) dX10_peek_43 (by decide) ?_
        refine rz_iret dX10_peek_44 rfl ⟨⟨rfl, rfl⟩, ?_⟩
        unfold A_pe
        rw [if_neg (fun z => g30 z.2.2)]
      · have g30 := zb_ne h30
        have h_k := zin_zn g30 (by omega)
        have e_k : (.inl k : Zv) = .inl (nI (zn k)) := congrArg _ h_k.2
        rw [e_k]
        refine zw_aload_n dX10_peek_33 rfl rfl ?_
        refine zw_iload_n dX10_peek_34 rfl rfl ?_
        refine zw_iload_n dX10_peek_35 rfl rfl ?_
        refine zw_iload_n dX10_peek_36 rfl rfl ?_
        refine rz_callP hz dX10_peek_37 eX10_peek_37 (c_get hz S (zn p) h_p.1 hkd.1 hs _ h_n.1 _ h_k.1) rfl rfl (Nat.le_of_ble_eq_true rfl) (fun x37 q37 => ?_)
        subst q37
        refine zw_goto 44 dX10_peek_40 (by decide) ?_
        refine rz_iret dX10_peek_44 rfl ⟨⟨rfl, rfl⟩, ?_⟩
        unfold A_pe
        rw [if_pos ⟨g5, g14, g30⟩]
set_option maxHeartbeats 4000000 in
set_option maxRecDepth 100000 in
theorem c_known {G : ZG} {Sh : ZS} {P : ZP} {C : ZI} {X : ZX} (hz : zr_sh Sh P) (S : ZT) (B : Nat) (hR : RI S B) (p n : Int32) : rc G cX10_known kX10_known Sh P C S X [.inl p, .inl n] (fun x S' X' => (S' = S ∧ X' = X) ∧ (x = A_kn S p n)) := by
  refine zw_C.of (by decide) rfl (Nat.le_of_ble_eq_true rfl) ?_
  show zw G cX10_known kX10_known 0 0 0 [some (.inr (some (60, 99, 0))), some (.inl p), some (.inl n)] [] Sh P (zl C S X) _
  have hs := hR.1
  have hsg := hs.2.1
  refine zw_aload_n dX10_known_0 rfl rfl ?_
  refine zw_iload_n dX10_known_1 rfl rfl ?_
  refine rz_callP hz dX10_known_2 eX10_known_2 (c_isThere S hz _) rfl rfl (Nat.le_of_ble_eq_true rfl) (fun x2 q2 => ?_)
  subst q2
  refine zw_if_eq 17 dX10_known_5 (by decide) (fun h5 => ?_) (fun h5 => ?_)
  · have g5 := zb_eq h5
    refine zw_iconst (-1) dX10_known_17 (by decide) ?_
    refine rz_iret dX10_known_18 rfl ⟨⟨rfl, rfl⟩, ?_⟩
    unfold A_kn
    rw [if_neg (fun z => g5 z.1)]
  · have g5 := zb_ne h5
    have h_p := zin_zn g5.1 (by omega)
    have e_p : (.inl p : Zv) = .inl (nI (zn p)) := congrArg _ h_p.2
    rw [e_p]
    have hkd := hR.2.2.1 _ h_p.1 g5.2
    have hkc := hkd.1.2.2.1
    refine zw_aload_n dX10_known_8 rfl rfl ?_
    refine zw_iload_n dX10_known_9 rfl rfl ?_
    refine zw_iload_n dX10_known_10 rfl rfl ?_
    refine rz_callP hz dX10_known_11 eX10_known_11 (c_isKnown hz S (zn p) h_p.1 hkd.1 _) rfl rfl (Nat.le_of_ble_eq_true rfl) (fun x11 q11 => ?_)
    subst q11
    refine zw_if_ne 19 dX10_known_14 (by decide) (fun h14 => ?_) (fun h14 => ?_)
    · have g14 := zb_ne h14
      have h_n := zin_zn g14 (by omega)
      have e_n : (.inl n : Zv) = .inl (nI (zn n)) := congrArg _ h_n.2
      rw [e_n]
      refine zw_iload_n dX10_known_19 rfl rfl ?_
      refine zw_bipush (nI 8) dX10_known_20 (by decide) ?_
      refine zw_icmp_ge 30 dX10_known_22 (by decide) (fun h22 => ?_) (fun h22 => ?_)
      · have g22 : 8 ≤ (zn n) := (nI_leI (by omega) (by omega)).mp h22
        refine zw_aload_n dX10_known_30 rfl rfl ?_
        refine rz_arr hz dX10_known_31 fX10_62 rfl ?_
        refine zw_bipush (nI 40) dX10_known_34 (by decide) ?_
        refine zw_iload_n dX10_known_36 rfl rfl ?_
        refine zw_imulN dX10_known_37 ?_
        refine zw_iload_n dX10_known_38 rfl rfl ?_
        refine zw_iaddN dX10_known_39 ?_
        refine rz_ald (((40 * (zn p)) + (zn n))) hz dX10_known_40 rfl (by decide) (by show ((40 * (zn p)) + (zn n)) < 160; omega) rfl ?_
        refine rz_iret dX10_known_41 rfl ⟨⟨rfl, rfl⟩, ?_⟩
        unfold A_kn
        rw [if_pos ⟨g5, g14⟩, if_pos g22]
      · have g22 : ¬ (8 ≤ (zn n)) := fun z => h22 ((nI_leI (by omega) (by omega)).mpr z)
        refine zw_bipush (-2) dX10_known_25 (by decide) ?_
        refine zw_goto 41 dX10_known_27 (by decide) ?_
        refine rz_iret dX10_known_41 rfl ⟨⟨rfl, rfl⟩, ?_⟩
        unfold A_kn
        rw [if_pos ⟨g5, g14⟩, if_neg g22]
    · have g14 := zb_eq h14
      refine zw_iconst (-1) dX10_known_17 (by decide) ?_
      refine rz_iret dX10_known_18 rfl ⟨⟨rfl, rfl⟩, ?_⟩
      unfold A_kn
      rw [if_neg (fun z => g14 z.2)]
set_option maxHeartbeats 4000000 in
set_option maxRecDepth 100000 in
theorem c_may {G : ZG} {Sh : ZS} {P : ZP} {C : ZI} {X : ZX} (hz : zr_sh Sh P) (S : ZT) (B : Nat) (hR : RI S B) (p r n h : Int32) : rc G cX10_may kX10_may Sh P C S X [.inl p, .inl r, .inl n, .inl h] (fun x S' X' => (S' = S ∧ X' = X) ∧ (x = A_ma S p r n h)) := by
  refine zw_C.of (by decide) rfl (Nat.le_of_ble_eq_true rfl) ?_
  show zw G cX10_may kX10_may 0 0 0 [some (.inr (some (60, 99, 0))), some (.inl p), some (.inl r), some (.inl n), some (.inl h)] [] Sh P (zl C S X) _
  have hs := hR.1
  have hsg := hs.2.1
  refine zw_aload_n dX10_may_0 rfl rfl ?_
  refine zw_iload_n dX10_may_1 rfl rfl ?_
  refine rz_callP hz dX10_may_2 eX10_may_2 (c_isThere S hz _) rfl rfl (Nat.le_of_ble_eq_true rfl) (fun x2 q2 => ?_)
  subst q2
  refine zw_if_eq 37 dX10_may_5 (by decide) (fun h5 => ?_) (fun h5 => ?_)
  · have g5 := zb_eq h5
    refine zw_iconst (-1) dX10_may_37 (by decide) ?_
    refine rz_iret dX10_may_38 rfl ⟨⟨rfl, rfl⟩, ?_⟩
    unfold A_ma
    rw [if_neg (fun z => g5 z.1)]
  · have g5 := zb_ne h5
    have h_p := zin_zn g5.1 (by omega)
    have e_p : (.inl p : Zv) = .inl (nI (zn p)) := congrArg _ h_p.2
    rw [e_p]
    have hkd := hR.2.2.1 _ h_p.1 g5.2
    have hkc := hkd.1.2.2.1
    refine zw_aload_n dX10_may_8 rfl rfl ?_
    refine zw_iload_n dX10_may_9 rfl rfl ?_
    refine zw_iload_n dX10_may_10 rfl rfl ?_
    refine rz_callP hz dX10_may_11 eX10_may_11 (c_isKnown hz S (zn p) h_p.1 hkd.1 _) rfl rfl (Nat.le_of_ble_eq_true rfl) (fun x11 q11 => ?_)
    subst q11
    refine zw_if_eq 37 dX10_may_14 (by decide) (fun h14 => ?_) (fun h14 => ?_)
    · have g14 := zb_eq h14
      refine zw_iconst (-1) dX10_may_37 (by decide) ?_
      refine rz_iret dX10_may_38 rfl ⟨⟨rfl, rfl⟩, ?_⟩
      unfold A_ma
      rw [if_neg (fun z => g14 z.2.1)]
    · have g14 := zb_ne h14
      have h_n := zin_zn g14 (by omega)
      have e_n : (.inl n : Zv) = .inl (nI (zn n)) := congrArg _ h_n.2
      rw [e_n]
      refine zw_iload_n dX10_may_17 rfl rfl ?_
      refine zw_iconst (nI 0) dX10_may_18 (by decide) ?_
      refine zw_bipush (nI 7) dX10_may_19 (by decide) ?_
      refine rz_callS dX10_may_21 eX10_may_21 (c_in _ _ _) rfl rfl (Nat.le_of_ble_eq_true rfl) (fun x21 q21 => ?_)
      rw [zb_congr (in_zin2 (m := 7) (by omega))] at q21
      subst q21
      refine zw_if_eq 37 dX10_may_24 (by decide) (fun h24 => ?_) (fun h24 => ?_)
      · have g24 := zb_eq h24
        refine zw_iconst (-1) dX10_may_37 (by decide) ?_
        refine rz_iret dX10_may_38 rfl ⟨⟨rfl, rfl⟩, ?_⟩
        unfold A_ma
        rw [if_neg (fun z => g24 z.2.2.1)]
      · have g24 := zb_ne h24
        refine zw_iload dX10_may_27 rfl ?_
        refine zw_iconst (nI 0) dX10_may_29 (by decide) ?_
        refine zw_iconst (nI 2) dX10_may_30 (by decide) ?_
        refine rz_callS dX10_may_31 eX10_may_31 (c_in _ _ _) rfl rfl (Nat.le_of_ble_eq_true rfl) (fun x31 q31 => ?_)
        rw [zb_congr (in_zin2 (m := 2) (by omega))] at q31
        subst q31
        refine zw_if_ne 39 dX10_may_34 (by decide) (fun h34 => ?_) (fun h34 => ?_)
        · have g34 := zb_ne h34
          have h_h := zin_zn g34 (by omega)
          have e_h : (.inl h : Zv) = .inl (nI (zn h)) := congrArg _ h_h.2
          rw [e_h]
          refine zw_aload_n dX10_may_39 rfl rfl ?_
          refine zw_iload_n dX10_may_40 rfl rfl ?_
          refine zw_iload_n dX10_may_41 rfl rfl ?_
          refine zw_iload_n dX10_may_42 rfl rfl ?_
          refine zw_iload dX10_may_43 rfl ?_
          refine rz_callP hz dX10_may_45 eX10_may_45 (c_mayDo hz S (zn p) h_p.1 hkd.1 hs _ h_n.1 _ (zn h) h_h.1) rfl rfl (Nat.le_of_ble_eq_true rfl) (fun x45 q45 => ?_)
          subst q45
          refine zw_if_eq 55 dX10_may_48 (by decide) (fun h48 => ?_) (fun h48 => ?_)
          · have g48 := zb_eq h48
            refine zw_iconst (nI 0) dX10_may_55 (by decide) ?_
            refine rz_iret dX10_may_56 rfl ⟨⟨rfl, rfl⟩, ?_⟩
            unfold A_ma
            rw [if_pos ⟨g5, g14, g24, g34⟩, zb_f g48]
            rfl
          · have g48 := zb_ne h48
            refine zw_iconst (nI 1) dX10_may_51 (by decide) ?_
            refine zw_goto 56 dX10_may_52 (by decide) ?_
            refine rz_iret dX10_may_56 rfl ⟨⟨rfl, rfl⟩, ?_⟩
            unfold A_ma
            rw [if_pos ⟨g5, g14, g24, g34⟩, zb_t g48]
            rfl
        · have g34 := zb_eq h34
          refine zw_iconst (-1) dX10_may_37 (by decide) ?_
          refine rz_iret dX10_may_38 rfl ⟨⟨rfl, rfl⟩, ?_⟩
          unfold A_ma
          rw [if_neg (fun z => g34 z.2.2.2)]
set_option maxHeartbeats 4000000 in
set_option maxRecDepth 100000 in
theorem c_said {G : ZG} {Sh : ZS} {P : ZP} {C : ZI} {X : ZX} (hz : zr_sh Sh P) (S : ZT) (B : Nat) (hR : RI S B) (i : Int32) : rc G cX10_said kX10_said Sh P C S X [.inl i] (fun x S' X' => (S' = S ∧ X' = X) ∧ (x = A_sd S i)) := by
  refine zw_C.of (by decide) rfl (Nat.le_of_ble_eq_true rfl) ?_
  show zw G cX10_said kX10_said 0 0 0 [some (.inr (some (60, 99, 0))), some (.inl i)] [] Sh P (zl C S X) _
  have hs := hR.1
  have hsg := hs.2.1
  refine zw_iload_n dX10_said_0 rfl rfl ?_
  refine zw_iconst (nI 0) dX10_said_1 (by decide) ?_
  refine zw_sipush (nI 199) dX10_said_2 (by decide) ?_
  refine rz_callS dX10_said_5 eX10_said_5 (c_in _ _ _) rfl rfl (Nat.le_of_ble_eq_true rfl) (fun x5 q5 => ?_)
  rw [zb_congr (in_zin2 (m := 199) (by omega))] at q5
  subst q5
  refine zw_if_eq 28 dX10_said_8 (by decide) (fun h8 => ?_) (fun h8 => ?_)
  · have g8 := zb_eq h8
    refine zw_iconst (nI 0) dX10_said_28 (by decide) ?_
    refine rz_iret dX10_said_29 rfl ⟨⟨rfl, rfl⟩, ?_⟩
    unfold A_sd
    rw [if_neg (fun z => g8 z.1)]
  · have g8 := zb_ne h8
    have h_i := zin_zn g8 (by omega)
    refine zw_iload_n dX10_said_11 rfl rfl ?_
    refine zw_aload_n dX10_said_12 rfl rfl ?_
    refine rz_int hz dX10_said_13 fX10_185 rfl (by decide) ?_
    refine zw_icmp_ge 28 dX10_said_16 (by decide) (fun h16 => ?_) (fun h16 => ?_)
    · refine zw_iconst (nI 0) dX10_said_28 (by decide) ?_
      refine rz_iret dX10_said_29 rfl ⟨⟨rfl, rfl⟩, ?_⟩
      unfold A_sd
      rw [if_neg (fun z => absurd z.2 (Int32.not_lt.mpr h16))]
    · refine zw_aload_n dX10_said_19 rfl rfl ?_
      refine rz_arr hz dX10_said_20 fX10_74 rfl ?_
      refine zw_iload_n dX10_said_23 rfl rfl ?_
      refine zw_top h_i.2 ?_
      refine rz_ald ((zn i)) hz dX10_said_24 rfl (by decide) (by show (zn i) < 200; omega) rfl ?_
      refine zw_goto 29 dX10_said_25 (by decide) ?_
      refine rz_iret dX10_said_29 rfl ⟨⟨rfl, rfl⟩, ?_⟩
      unfold A_sd
      rw [if_pos ⟨g8, Int32.not_le.mp h16⟩]
set_option maxHeartbeats 4000000 in
set_option maxRecDepth 100000 in
theorem c_sayings {G : ZG} {Sh : ZS} {P : ZP} {C : ZI} {X : ZX} (hz : zr_sh Sh P) (S : ZT) (B : Nat) (hR : RI S B) : rc G cX10_sayings kX10_sayings Sh P C S X [] (fun x S' X' => (S' = S ∧ X' = X) ∧ (x = S 99 23)) := by
  refine zw_C.of (by decide) rfl (Nat.le_of_ble_eq_true rfl) ?_
  show zw G cX10_sayings kX10_sayings 0 0 0 [some (.inr (some (60, 99, 0)))] [] Sh P (zl C S X) _
  refine zw_aload_n dX10_sayings_0 rfl rfl ?_
  refine rz_int hz dX10_sayings_1 fX10_185 rfl (by decide) ?_
  exact rz_iret dX10_sayings_4 rfl ⟨⟨rfl, rfl⟩, rfl⟩
