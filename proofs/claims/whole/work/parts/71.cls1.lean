set_option maxHeartbeats 4000000 in
set_option maxRecDepth 100000 in
theorem d_set {G : ZG} {Sh : ZS} {P : ZP} {I : ZI} (r : Zr) (h3 : Sh r = some (3, 3)) (a b c : Int32) : vc G cX3_set kX3_set Sh P I [.inr (some r), .inl a, .inl b, .inl c] (pl3 I r a b c) := by
  refine zw_C.of (by decide) rfl (Nat.le_of_ble_eq_true rfl) ?_
  show zw G cX3_set kX3_set 0 0 0 [some (.inr (some r)), some (.inl a), some (.inl b), some (.inl c)] [] Sh P I _
  refine zw_aload_n dX3_set_0 rfl rfl ?_
  refine zw_iload_n dX3_set_1 rfl rfl ?_
  refine zw_puti 3 dX3_set_2 fX3_9 h3 (Or.inl rfl) ⟨rfl, rfl⟩ rfl ?_
  refine zw_aload_n dX3_set_5 rfl rfl ?_
  refine zw_iload_n dX3_set_6 rfl rfl ?_
  refine zw_puti 3 dX3_set_7 fX3_15 h3 (Or.inl rfl) ⟨rfl, rfl⟩ rfl ?_
  refine zw_aload_n dX3_set_10 rfl rfl ?_
  refine zw_iload_n dX3_set_11 rfl rfl ?_
  refine zw_puti 3 dX3_set_12 fX3_18 h3 (Or.inl rfl) ⟨rfl, rfl⟩ rfl ?_
  exact vz_ret dX3_set_15 rfl rfl
set_option maxHeartbeats 4000000 in
set_option maxRecDepth 100000 in
theorem d_copy {G : ZG} {Sh : ZS} {P : ZP} {I : ZI} (r : Zr) (h3 : Sh r = some (3, 3)) (q : Zr) (q3 : Sh q = some (3, 3)) : vc G cX3_copy kX3_copy Sh P I [.inr (some r), .inr (some q)] (pl3 I r (I q 0) (I q 1) (I q 2)) := by
  refine zw_C.of (by decide) rfl (Nat.le_of_ble_eq_true rfl) ?_
  show zw G cX3_copy kX3_copy 0 0 0 [some (.inr (some r)), some (.inr (some q))] [] Sh P I _
  refine zw_aload_n dX3_copy_0 rfl rfl ?_
  refine zw_aload_n dX3_copy_1 rfl rfl ?_
  refine zw_geti 3 dX3_copy_2 fX3_9 q3 rfl ?_
  refine zw_aload_n dX3_copy_5 rfl rfl ?_
  refine zw_geti 3 dX3_copy_6 fX3_15 q3 rfl ?_
  refine zw_aload_n dX3_copy_9 rfl rfl ?_
  refine zw_geti 3 dX3_copy_10 fX3_18 q3 rfl ?_
  refine cz_callV dX3_copy_13 eX3_copy_13 (d_set _ h3 _ _ _) h3 rfl rfl (Nat.le_of_ble_eq_true rfl) ?_
  exact vz_ret dX3_copy_16 rfl rfl
set_option maxHeartbeats 4000000 in
set_option maxRecDepth 100000 in
theorem d_unpack {G : ZG} {Sh : ZS} {P : ZP} {I : ZI} (r : Zr) (h3 : Sh r = some (3, 3)) (e v : Int32) : vc G cX3_unpack kX3_unpack Sh P I [.inr (some r), .inl e, .inl v] (pl3 I r e (pw_n v) (pw_w v)) := by
  refine zw_C.of (by decide) rfl (Nat.le_of_ble_eq_true rfl) ?_
  show zw G cX3_unpack kX3_unpack 0 0 0 [some (.inr (some r)), some (.inl e), some (.inl v)] [] Sh P I _
  refine zw_aload_n dX3_unpack_0 rfl rfl ?_
  refine zw_iload_n dX3_unpack_1 rfl rfl ?_
  refine zw_iload_n dX3_unpack_2 rfl rfl ?_
  refine zw_bipush (nI 16) dX3_unpack_3 (by decide) ?_
  refine zw_iushr dX3_unpack_5 ?_
  refine zw_sipush (nI 4095) dX3_unpack_6 (by decide) ?_
  refine zw_iand dX3_unpack_9 ?_
  refine zw_top (y := pw_n v) (u_pn v) ?_
  refine zw_iload_n dX3_unpack_10 rfl rfl ?_
  refine zw_ldc (65535) dX3_unpack_11 lX3_25 ?_
  refine zw_iand dX3_unpack_13 ?_
  refine cz_callV dX3_unpack_14 eX3_unpack_14 (d_set _ h3 _ _ _) h3 rfl rfl (Nat.le_of_ble_eq_true rfl) ?_
  exact vz_ret dX3_unpack_17 rfl rfl
set_option maxHeartbeats 4000000 in
set_option maxRecDepth 100000 in
theorem d_pack {G : ZG} {Sh : ZS} {P : ZP} {I : ZI} (r : Zr) (h3 : Sh r = some (3, 3)) : sc G cX3_pack kX3_pack Sh P I [.inr (some r)] (fun x => x = ((I r 0 <<< (nI 28 &&& 31)) ||| (I r 1 <<< (nI 16 &&& 31))) ||| I r 2) := by
  refine zw_C.of (by decide) rfl (Nat.le_of_ble_eq_true rfl) ?_
  show zw G cX3_pack kX3_pack 0 0 0 [some (.inr (some r))] [] Sh P I _
  refine zw_aload_n dX3_pack_0 rfl rfl ?_
  refine zw_geti 3 dX3_pack_1 fX3_9 h3 rfl ?_
  refine zw_bipush (nI 28) dX3_pack_4 (by decide) ?_
  refine zw_ishl dX3_pack_6 ?_
  refine zw_aload_n dX3_pack_7 rfl rfl ?_
  refine zw_geti 3 dX3_pack_8 fX3_15 h3 rfl ?_
  refine zw_bipush (nI 16) dX3_pack_11 (by decide) ?_
  refine zw_ishl dX3_pack_13 ?_
  refine zw_ior dX3_pack_14 ?_
  refine zw_aload_n dX3_pack_15 rfl rfl ?_
  refine zw_geti 3 dX3_pack_16 fX3_18 h3 rfl ?_
  refine zw_ior dX3_pack_19 ?_
  exact sz_iret dX3_pack_20 rfl rfl
set_option maxHeartbeats 4000000 in
set_option maxRecDepth 100000 in
theorem d_ringOf {G : ZG} {Sh : ZS} {P : ZP} {I : ZI} (v : Int32) : sc G cX3_ringOf kX3_ringOf Sh P I [.inl v] (fun x => x = pw_r v) := by
  refine zw_C.of (by decide) rfl (Nat.le_of_ble_eq_true rfl) ?_
  show zw G cX3_ringOf kX3_ringOf 0 0 0 [some (.inl v)] [] Sh P I _
  refine zw_iload_n dX3_ringOf_0 rfl rfl ?_
  refine zw_bipush (nI 28) dX3_ringOf_1 (by decide) ?_
  refine zw_iushr dX3_ringOf_3 ?_
  refine zw_bipush (nI 7) dX3_ringOf_4 (by decide) ?_
  refine zw_iand dX3_ringOf_6 ?_
  exact sz_iret dX3_ringOf_7 rfl (u_pr v)
set_option maxHeartbeats 4000000 in
set_option maxRecDepth 100000 in
theorem d_isBelow {G : ZG} {Sh : ZS} {P : ZP} {I : ZI} (k b : Int32) : sc G cX9_isBelow kX9_isBelow Sh P I [.inl k, .inl b] (fun x => x = zb (¬ k < 0 ∧ k < b)) := by
  refine zw_C.of (by decide) rfl (Nat.le_of_ble_eq_true rfl) ?_
  show zw G cX9_isBelow kX9_isBelow 0 0 0 [some (.inl k), some (.inl b)] [] Sh P I _
  refine zw_iload_n dX9_isBelow_0 rfl rfl ?_
  refine zw_if_lt 13 dX9_isBelow_1 (by decide) (fun h1 => ?_) (fun h1 => ?_)
  · refine zw_iconst (nI 0) dX9_isBelow_13 (by decide) ?_
    exact sz_zret dX9_isBelow_14 rfl rfl (zb_f (fun z => z.1 h1)).symm
  · refine zw_iload_n dX9_isBelow_4 rfl rfl ?_
    refine zw_iload_n dX9_isBelow_5 rfl rfl ?_
    refine zw_icmp_ge 13 dX9_isBelow_6 (by decide) (fun h6 => ?_) (fun h6 => ?_)
    · refine zw_iconst (nI 0) dX9_isBelow_13 (by decide) ?_
      exact sz_zret dX9_isBelow_14 rfl rfl (zb_f (fun z => absurd z.2 (Int32.not_lt.mpr h6))).symm
    · refine zw_iconst (nI 1) dX9_isBelow_9 (by decide) ?_
      refine zw_goto 14 dX9_isBelow_10 (by decide) ?_
      exact sz_zret dX9_isBelow_14 rfl rfl (zb_t ⟨h1, Int32.not_le.mp h6⟩).symm
set_option maxHeartbeats 4000000 in
set_option maxRecDepth 100000 in
theorem d_fits16 {G : ZG} {Sh : ZS} {P : ZP} {I : ZI} (k : Int32) : sc G cX9_fits16Bits kX9_fits16Bits Sh P I [.inl k] (fun x => x = zb (zin k 65536)) := by
  refine zw_C.of (by decide) rfl (Nat.le_of_ble_eq_true rfl) ?_
  show zw G cX9_fits16Bits kX9_fits16Bits 0 0 0 [some (.inl k)] [] Sh P I _
  refine zw_iload_n dX9_fits16Bits_0 rfl rfl ?_
  refine zw_if_lt 14 dX9_fits16Bits_1 (by decide) (fun h1 => ?_) (fun h1 => ?_)
  · refine zw_iconst (nI 0) dX9_fits16Bits_14 (by decide) ?_
    have e := in_zin2 (x := k) (m := 65535) (by omega)
    exact sz_zret dX9_fits16Bits_15 rfl rfl (zb_f (fun z => absurd (e.mpr z).1 (Int32.not_le.mpr h1))).symm
  · refine zw_iload_n dX9_fits16Bits_4 rfl rfl ?_
    refine zw_ldc (65535) dX9_fits16Bits_5 lX9_146 ?_
    refine zw_top (y := nI 65535) rfl ?_
    refine zw_icmp_gt 14 dX9_fits16Bits_7 (by decide) (fun h7 => ?_) (fun h7 => ?_)
    · refine zw_iconst (nI 0) dX9_fits16Bits_14 (by decide) ?_
      have e := in_zin2 (x := k) (m := 65535) (by omega)
      exact sz_zret dX9_fits16Bits_15 rfl rfl (zb_f (fun z => absurd (e.mpr z).2 (Int32.not_le.mpr h7))).symm
    · refine zw_iconst (nI 1) dX9_fits16Bits_10 (by decide) ?_
      refine zw_goto 15 dX9_fits16Bits_11 (by decide) ?_
      have e := in_zin2 (x := k) (m := 65535) (by omega)
      exact sz_zret dX9_fits16Bits_15 rfl rfl (zb_t (e.mp ⟨Int32.not_lt.mp h1, Int32.not_lt.mp h7⟩)).symm
set_option maxHeartbeats 4000000 in
set_option maxRecDepth 100000 in
theorem d_hasWord {G : ZG} {Sh : ZS} {P : ZP} {I : ZI} (r rw rf : Zr) (n : Nat) (h : sgR Sh P r rw rf n) (k : Int32) : sc G cX8_hasWord kX8_hasWord Sh P I [.inr (some r), .inl k] (fun x => x = zb (zin k n)) := by
  refine zw_C.of (by decide) rfl (Nat.le_of_ble_eq_true rfl) ?_
  show zw G cX8_hasWord kX8_hasWord 0 0 0 [some (.inr (some r)), some (.inl k)] [] Sh P I _
  have hn := h.2.2.2.2.2
  refine zw_iload_n dX8_hasWord_0 rfl rfl ?_
  refine zw_aload_n dX8_hasWord_1 rfl rfl ?_
  refine zw_getp 8 (some rw) dX8_hasWord_2 fX8_22 h.1 rfl h.2.1 ?_
  refine zw_alen dX8_hasWord_5 h.2.2.1 (by decide) ?_
  refine rz_callS dX8_hasWord_6 eX8_hasWord_6 (d_isBelow _ _) rfl rfl (Nat.le_of_ble_eq_true rfl) (fun x6 q6 => ?_)
  exact sz_zret dX8_hasWord_9 rfl (by rw [q6]; exact zb_nar _) (q6.trans (zb_congr (bel_zin (by omega))))
set_option maxHeartbeats 4000000 in
set_option maxRecDepth 100000 in
theorem d_read {G : ZG} {Sh : ZS} {P : ZP} {I : ZI} (r rw rf : Zr) (n : Nat) (h : sgR Sh P r rw rf n) (k : Int32) : sc G cX8_read kX8_read Sh P I [.inr (some r), .inl k] (fun x => x = (if zin k n then I rw (zn k) else nI 0)) := by
  refine zw_C.of (by decide) rfl (Nat.le_of_ble_eq_true rfl) ?_
  show zw G cX8_read kX8_read 0 0 0 [some (.inr (some r)), some (.inl k)] [] Sh P I _
  have hn := h.2.2.2.2.2
  refine zw_aload_n dX8_read_0 rfl rfl ?_
  refine zw_iload_n dX8_read_1 rfl rfl ?_
  refine cz_callP dX8_read_2 eX8_read_2 (d_hasWord _ _ _ _ h _) h.1 rfl rfl (Nat.le_of_ble_eq_true rfl) (fun x2 q2 => ?_)
  subst q2
  refine zw_if_eq 17 dX8_read_5 (by decide) (fun h5 => ?_) (fun h5 => ?_)
  · have g5 := zb_eq h5
    refine zw_iconst (nI 0) dX8_read_17 (by decide) ?_
    exact sz_iret dX8_read_18 rfl (if_neg g5).symm
  · have g5 := zb_ne h5
    have hv := zin_zn g5 (by omega)
    have ev : (.inl k : Zv) = .inl (nI (zn k)) := congrArg _ hv.2
    rw [ev]
    refine zw_aload_n dX8_read_8 rfl rfl ?_
    refine zw_getp 8 (some rw) dX8_read_9 fX8_22 h.1 rfl h.2.1 ?_
    refine zw_iload_n dX8_read_12 rfl rfl ?_
    refine zw_iald ((zn k)) dX8_read_13 h.2.2.1 (Or.inl rfl) (by omega) rfl ?_
    refine zw_goto 18 dX8_read_14 (by decide) ?_
    exact sz_iret dX8_read_18 rfl (if_pos g5).symm
set_option maxHeartbeats 4000000 in
set_option maxRecDepth 100000 in
theorem d_write {G : ZG} {Sh : ZS} {P : ZP} {I : ZI} (r rw rf : Zr) (n : Nat) (h : sgR Sh P r rw rf n) (k v : Int32) : ic G cX8_write kX8_write Sh P I [.inr (some r), .inl k, .inl v] (fun x I' => (x, I') = (if zin k n then (nI 1, ui I rw (zn k) v) else (nI 0, I))) := by
  refine zw_C.of (by decide) rfl (Nat.le_of_ble_eq_true rfl) ?_
  show zw G cX8_write kX8_write 0 0 0 [some (.inr (some r)), some (.inl k), some (.inl v)] [] Sh P I _
  have hn := h.2.2.2.2.2
  refine zw_aload_n dX8_write_0 rfl rfl ?_
  refine zw_iload_n dX8_write_1 rfl rfl ?_
  refine cz_callP dX8_write_2 eX8_write_2 (d_hasWord _ _ _ _ h _) h.1 rfl rfl (Nat.le_of_ble_eq_true rfl) (fun x2 q2 => ?_)
  subst q2
  refine zw_if_ne 10 dX8_write_5 (by decide) (fun h5 => ?_) (fun h5 => ?_)
  · have g5 := zb_ne h5
    have hv := zin_zn g5 (by omega)
    have ev : (.inl k : Zv) = .inl (nI (zn k)) := congrArg _ hv.2
    rw [ev]
    refine zw_aload_n dX8_write_10 rfl rfl ?_
    refine zw_getp 8 (some rw) dX8_write_11 fX8_22 h.1 rfl h.2.1 ?_
    refine zw_iload_n dX8_write_14 rfl rfl ?_
    refine zw_iload_n dX8_write_15 rfl rfl ?_
    refine zw_iast ((zn k)) dX8_write_16 h.2.2.1 (by omega) rfl ?_
    refine zw_iconst (nI 1) dX8_write_17 (by decide) ?_
    exact iz_zret dX8_write_18 rfl rfl rfl rfl (if_pos g5).symm
  · have g5 := zb_eq h5
    refine zw_iconst (nI 0) dX8_write_8 (by decide) ?_
    exact iz_zret dX8_write_9 rfl rfl rfl rfl (if_neg g5).symm
set_option maxHeartbeats 4000000 in
set_option maxRecDepth 100000 in
theorem d_setBr28 {G : ZG} {Sh : ZS} {P : ZP} {I : ZI} (r rw rf : Zr) (n : Nat) (h : sgR Sh P r rw rf n) (a b c g : Int32) : zw G cX8_setBrackets kX8_setBrackets 0 0 28 [some (.inr (some r)), some (.inl a), some (.inl b), some (.inl c), some (.inl g), some (.inl (zb (nI 0 ≤ a ∧ a ≤ b ∧ b ≤ c ∧ c < nI 8)))] [] Sh P I (fun v Sh' P' I' => ∃ x, v = some (.inl x) ∧ Sh' = Sh ∧ P' = P ∧ (fun x I' => (x, I') = (if (nI 0 ≤ a ∧ a ≤ b ∧ b ≤ c ∧ c < nI 8) ∧ 0 ≤ g ∧ g ≤ nI n then (nI 1, ui (ui (ui (ui I r 5 a) r 6 b) r 7 c) r 8 g) else (nI 0, I))) x I') := by
  have hn := h.2.2.2.2.2
  refine zw_iload dX8_setBrackets_28 rfl ?_
  refine zw_if_eq 48 dX8_setBrackets_30 (by decide) (fun h30 => ?_) (fun h30 => ?_)
  · have g30 := zb_eq h30
    refine zw_iconst (nI 0) dX8_setBrackets_48 (by decide) ?_
    exact iz_zret dX8_setBrackets_49 rfl rfl rfl rfl (if_neg (fun z => g30 z.1)).symm
  · have g30 := zb_ne h30
    refine zw_iload dX8_setBrackets_33 rfl ?_
    refine zw_if_lt 48 dX8_setBrackets_35 (by decide) (fun h35 => ?_) (fun h35 => ?_)
    · refine zw_iconst (nI 0) dX8_setBrackets_48 (by decide) ?_
      exact iz_zret dX8_setBrackets_49 rfl rfl rfl rfl (if_neg (fun z => absurd z.2.1 (Int32.not_le.mpr h35))).symm
    · refine zw_iload dX8_setBrackets_38 rfl ?_
      refine zw_aload_n dX8_setBrackets_40 rfl rfl ?_
      refine zw_getp 8 (some rw) dX8_setBrackets_41 fX8_22 h.1 rfl h.2.1 ?_
      refine zw_alen dX8_setBrackets_44 h.2.2.1 (by decide) ?_
      refine zw_icmp_le 50 dX8_setBrackets_45 (by decide) (fun h45 => ?_) (fun h45 => ?_)
      · refine zw_aload_n dX8_setBrackets_50 rfl rfl ?_
        refine zw_iload_n dX8_setBrackets_51 rfl rfl ?_
        refine zw_puti 8 dX8_setBrackets_52 fX8_37 h.1 (Or.inl rfl) ⟨rfl, rfl⟩ rfl ?_
        refine zw_aload_n dX8_setBrackets_55 rfl rfl ?_
        refine zw_iload_n dX8_setBrackets_56 rfl rfl ?_
        refine zw_puti 8 dX8_setBrackets_57 fX8_40 h.1 (Or.inl rfl) ⟨rfl, rfl⟩ rfl ?_
        refine zw_aload_n dX8_setBrackets_60 rfl rfl ?_
        refine zw_iload_n dX8_setBrackets_61 rfl rfl ?_
        refine zw_puti 8 dX8_setBrackets_62 fX8_43 h.1 (Or.inl rfl) ⟨rfl, rfl⟩ rfl ?_
        refine zw_aload_n dX8_setBrackets_65 rfl rfl ?_
        refine zw_iload dX8_setBrackets_66 rfl ?_
        refine zw_puti 8 dX8_setBrackets_68 fX8_46 h.1 (Or.inl rfl) ⟨rfl, rfl⟩ rfl ?_
        refine zw_iconst (nI 1) dX8_setBrackets_71 (by decide) ?_
        exact iz_zret dX8_setBrackets_72 rfl rfl rfl rfl (if_pos ⟨g30, Int32.not_lt.mp h35, h45⟩).symm
      · refine zw_iconst (nI 0) dX8_setBrackets_48 (by decide) ?_
        exact iz_zret dX8_setBrackets_49 rfl rfl rfl rfl (if_neg (fun z => h45 z.2.2)).symm
set_option maxHeartbeats 4000000 in
set_option maxRecDepth 100000 in
theorem d_setBrackets {G : ZG} {Sh : ZS} {P : ZP} {I : ZI} (r rw rf : Zr) (n : Nat) (h : sgR Sh P r rw rf n) (a b c g : Int32) : ic G cX8_setBrackets kX8_setBrackets Sh P I [.inr (some r), .inl a, .inl b, .inl c, .inl g] (fun x I' => (x, I') = (if (nI 0 ≤ a ∧ a ≤ b ∧ b ≤ c ∧ c < nI 8) ∧ 0 ≤ g ∧ g ≤ nI n then (nI 1, ui (ui (ui (ui I r 5 a) r 6 b) r 7 c) r 8 g) else (nI 0, I))) := by
  refine zw_C.of (by decide) rfl (Nat.le_of_ble_eq_true rfl) ?_
  show zw G cX8_setBrackets kX8_setBrackets 0 0 0 [some (.inr (some r)), some (.inl a), some (.inl b), some (.inl c), some (.inl g), none] [] Sh P I _
  refine zw_iconst (nI 0) dX8_setBrackets_0 (by decide) ?_
  refine zw_iload_n dX8_setBrackets_1 rfl rfl ?_
  refine zw_icmp_gt 25 dX8_setBrackets_2 (by decide) (fun h2 => ?_) (fun h2 => ?_)
  · refine zw_iconst (nI 0) dX8_setBrackets_25 (by decide) ?_
    refine zw_top (y := zb (nI 0 ≤ a ∧ a ≤ b ∧ b ≤ c ∧ c < nI 8)) (by exact (zb_f (fun z => absurd z.1 (Int32.not_le.mpr h2))).symm) ?_
    refine zw_istore dX8_setBrackets_26 (by decide) ?_
    exact d_setBr28 r rw rf n h a b c g
  · refine zw_iload_n dX8_setBrackets_5 rfl rfl ?_
    refine zw_iload_n dX8_setBrackets_6 rfl rfl ?_
    refine zw_icmp_gt 25 dX8_setBrackets_7 (by decide) (fun h7 => ?_) (fun h7 => ?_)
    · refine zw_iconst (nI 0) dX8_setBrackets_25 (by decide) ?_
      refine zw_top (y := zb (nI 0 ≤ a ∧ a ≤ b ∧ b ≤ c ∧ c < nI 8)) (by exact (zb_f (fun z => absurd z.2.1 (Int32.not_le.mpr h7))).symm) ?_
      refine zw_istore dX8_setBrackets_26 (by decide) ?_
      exact d_setBr28 r rw rf n h a b c g
    · refine zw_iload_n dX8_setBrackets_10 rfl rfl ?_
      refine zw_iload_n dX8_setBrackets_11 rfl rfl ?_
      refine zw_icmp_gt 25 dX8_setBrackets_12 (by decide) (fun h12 => ?_) (fun h12 => ?_)
      · refine zw_iconst (nI 0) dX8_setBrackets_25 (by decide) ?_
        refine zw_top (y := zb (nI 0 ≤ a ∧ a ≤ b ∧ b ≤ c ∧ c < nI 8)) (by exact (zb_f (fun z => absurd z.2.2.1 (Int32.not_le.mpr h12))).symm) ?_
        refine zw_istore dX8_setBrackets_26 (by decide) ?_
        exact d_setBr28 r rw rf n h a b c g
      · refine zw_iload_n dX8_setBrackets_15 rfl rfl ?_
        refine zw_bipush (nI 8) dX8_setBrackets_16 (by decide) ?_
        refine zw_icmp_ge 25 dX8_setBrackets_18 (by decide) (fun h18 => ?_) (fun h18 => ?_)
        · refine zw_iconst (nI 0) dX8_setBrackets_25 (by decide) ?_
          refine zw_top (y := zb (nI 0 ≤ a ∧ a ≤ b ∧ b ≤ c ∧ c < nI 8)) (by exact (zb_f (fun z => absurd z.2.2.2 (Int32.not_lt.mpr h18))).symm) ?_
          refine zw_istore dX8_setBrackets_26 (by decide) ?_
          exact d_setBr28 r rw rf n h a b c g
        · refine zw_iconst (nI 1) dX8_setBrackets_21 (by decide) ?_
          refine zw_goto 26 dX8_setBrackets_22 (by decide) ?_
          refine zw_top (y := zb (nI 0 ≤ a ∧ a ≤ b ∧ b ≤ c ∧ c < nI 8)) (by exact (zb_t ⟨Int32.not_lt.mp h2, Int32.not_lt.mp h7, Int32.not_lt.mp h12, Int32.not_le.mp h18⟩).symm) ?_
          refine zw_istore dX8_setBrackets_26 (by decide) ?_
          exact d_setBr28 r rw rf n h a b c g
set_option maxHeartbeats 4000000 in
set_option maxRecDepth 100000 in
theorem d_setFlags {G : ZG} {Sh : ZS} {P : ZP} {I : ZI} (r rw rf : Zr) (n : Nat) (h : sgR Sh P r rw rf n) (u f : Int32) : ic G cX8_setFlags kX8_setFlags Sh P I [.inr (some r), .inl u, .inl f] (fun x I' => (x, I') = (if zin u 4 ∧ 0 ≤ f ∧ f ≤ nI 7 then (nI 1, ui I rf (zn u) f) else (nI 0, I))) := by
  refine zw_C.of (by decide) rfl (Nat.le_of_ble_eq_true rfl) ?_
  show zw G cX8_setFlags kX8_setFlags 0 0 0 [some (.inr (some r)), some (.inl u), some (.inl f)] [] Sh P I _
  refine zw_iload_n dX8_setFlags_0 rfl rfl ?_
  refine zw_iconst (nI 4) dX8_setFlags_1 (by decide) ?_
  refine rz_callS dX8_setFlags_2 eX8_setFlags_2 (d_isBelow _ _) rfl rfl (Nat.le_of_ble_eq_true rfl) (fun x2 q2 => ?_)
  rw [zb_congr (bel_zin (by omega))] at q2
  subst q2
  refine zw_if_eq 18 dX8_setFlags_5 (by decide) (fun h5 => ?_) (fun h5 => ?_)
  · have g5 := zb_eq h5
    refine zw_iconst (nI 0) dX8_setFlags_18 (by decide) ?_
    exact iz_zret dX8_setFlags_19 rfl rfl rfl rfl (if_neg (fun z => g5 z.1)).symm
  · have g5 := zb_ne h5
    have hv := zin_zn g5 (by omega)
    have ev : (.inl u : Zv) = .inl (nI (zn u)) := congrArg _ hv.2
    rw [ev]
    refine zw_iload_n dX8_setFlags_8 rfl rfl ?_
    refine zw_if_lt 18 dX8_setFlags_9 (by decide) (fun h9 => ?_) (fun h9 => ?_)
    · refine zw_iconst (nI 0) dX8_setFlags_18 (by decide) ?_
      exact iz_zret dX8_setFlags_19 rfl rfl rfl rfl (if_neg (fun z => absurd z.2.1 (Int32.not_le.mpr h9))).symm
    · refine zw_iload_n dX8_setFlags_12 rfl rfl ?_
      refine zw_bipush (nI 7) dX8_setFlags_13 (by decide) ?_
      refine zw_icmp_le 20 dX8_setFlags_15 (by decide) (fun h15 => ?_) (fun h15 => ?_)
      · refine zw_aload_n dX8_setFlags_20 rfl rfl ?_
        refine zw_getp 8 (some rf) dX8_setFlags_21 fX8_9 h.1 rfl h.2.2.2.1 ?_
        refine zw_iload_n dX8_setFlags_24 rfl rfl ?_
        refine zw_iload_n dX8_setFlags_25 rfl rfl ?_
        refine zw_iast ((zn u)) dX8_setFlags_26 h.2.2.2.2.1 (by omega) rfl ?_
        refine zw_iconst (nI 1) dX8_setFlags_27 (by decide) ?_
        exact iz_zret dX8_setFlags_28 rfl rfl rfl rfl (if_pos ⟨g5, Int32.not_lt.mp h9, h15⟩).symm
      · refine zw_iconst (nI 0) dX8_setFlags_18 (by decide) ?_
        exact iz_zret dX8_setFlags_19 rfl rfl rfl rfl (if_neg (fun z => h15 z.2.2)).symm
set_option maxHeartbeats 4000000 in
set_option maxRecDepth 100000 in
theorem d_hasFlag {G : ZG} {Sh : ZS} {P : ZP} {I : ZI} (r rw rf : Zr) (n : Nat) (h : sgR Sh P r rw rf n) (u : Nat) (hu : u < 4) (f : Int32) : sc G cX8_hasFlag kX8_hasFlag Sh P I [.inr (some r), .inl (nI u), .inl f] (fun x => x = zb (¬ I rf u &&& f = 0)) := by
  refine zw_C.of (by decide) rfl (Nat.le_of_ble_eq_true rfl) ?_
  show zw G cX8_hasFlag kX8_hasFlag 0 0 0 [some (.inr (some r)), some (.inl (nI u)), some (.inl f)] [] Sh P I _
  refine zw_iload_n dX8_hasFlag_0 rfl rfl ?_
  refine zw_if_lt 24 dX8_hasFlag_1 (by decide) (fun h1 => ?_) (fun h1 => ?_)
  · exact absurd h1 (nI_pos (by omega))
  · refine zw_iload_n dX8_hasFlag_4 rfl rfl ?_
    refine zw_iconst (nI 4) dX8_hasFlag_5 (by decide) ?_
    refine zw_icmp_ge 24 dX8_hasFlag_6 (by decide) (fun h6 => ?_) (fun h6 => ?_)
    · exact absurd ((nI_leI (by omega) (by omega)).mp h6) (by omega)
    · have g6 : ¬ (4 ≤ u) := fun z => h6 ((nI_leI (by omega) (by omega)).mpr z)
      refine zw_aload_n dX8_hasFlag_9 rfl rfl ?_
      refine zw_getp 8 (some rf) dX8_hasFlag_10 fX8_9 h.1 rfl h.2.2.2.1 ?_
      refine zw_iload_n dX8_hasFlag_13 rfl rfl ?_
      refine zw_iald (u) dX8_hasFlag_14 h.2.2.2.2.1 (Or.inl rfl) (by omega) rfl ?_
      refine zw_iload_n dX8_hasFlag_15 rfl rfl ?_
      refine zw_iand dX8_hasFlag_16 ?_
      refine zw_if_eq 24 dX8_hasFlag_17 (by decide) (fun h17 => ?_) (fun h17 => ?_)
      · refine zw_iconst (nI 0) dX8_hasFlag_24 (by decide) ?_
        exact sz_zret dX8_hasFlag_25 rfl rfl (zb_f (fun z => z h17)).symm
      · refine zw_iconst (nI 1) dX8_hasFlag_20 (by decide) ?_
        refine zw_goto 25 dX8_hasFlag_21 (by decide) ?_
        exact sz_zret dX8_hasFlag_25 rfl rfl (zb_t h17).symm
set_option maxHeartbeats 4000000 in
set_option maxRecDepth 100000 in
theorem d_allows {G : ZG} {Sh : ZS} {P : ZP} {I : ZI} (r rw rf : Zr) (n : Nat) (h : sgR Sh P r rw rf n) (u : Nat) (hu : u < 4) (e : Int32) (how : Nat) (hh : how < 3) : sc G cX8_allows kX8_allows Sh P I [.inr (some r), .inl (nI u), .inl e, .inl (nI how)] (fun x => x = (match how with | 0 => zb (¬ I rf u &&& nI 1 = 0 ∧ e ≤ I r 6) | 1 => zb (¬ I rf u &&& nI 2 = 0 ∧ e ≤ I r 5) | _ => zb (¬ I rf u &&& nI 4 = 0 ∧ I r 5 ≤ e ∧ e ≤ I r 6))) := by
  refine zw_C.of (by decide) rfl (Nat.le_of_ble_eq_true rfl) ?_
  show zw G cX8_allows kX8_allows 0 0 0 [some (.inr (some r)), some (.inl (nI u)), some (.inl e), some (.inl (nI how))] [] Sh P I _
  refine zw_iload_n dX8_allows_0 rfl rfl ?_
  rcases (show how = 0 ∨ how = 1 ∨ how = 2 by omega) with e1 | e1 | e1
  · refine zw_top (y := nI 0) (congrArg nI e1) ?_
    refine zw_look 28 dX8_allows_1 (by decide) rfl (by decide) ?_
    subst e1
    refine zw_aload_n dX8_allows_28 rfl rfl ?_
    refine zw_iload_n dX8_allows_29 rfl rfl ?_
    refine zw_iconst (nI 1) dX8_allows_30 (by decide) ?_
    refine cz_callP dX8_allows_31 eX8_allows_31 (d_hasFlag _ _ _ _ h _ hu _) h.1 rfl rfl (Nat.le_of_ble_eq_true rfl) (fun x31 q31 => ?_)
    subst q31
    refine zw_if_eq 49 dX8_allows_34 (by decide) (fun h34 => ?_) (fun h34 => ?_)
    · have g34 := zb_eq h34
      refine zw_iconst (nI 0) dX8_allows_49 (by decide) ?_
      exact sz_zret dX8_allows_50 rfl rfl (zb_f (fun z => g34 z.1)).symm
    · have g34 := zb_ne h34
      refine zw_iload_n dX8_allows_37 rfl rfl ?_
      refine zw_aload_n dX8_allows_38 rfl rfl ?_
      refine zw_geti 8 dX8_allows_39 fX8_40 h.1 rfl ?_
      refine zw_icmp_gt 49 dX8_allows_42 (by decide) (fun h42 => ?_) (fun h42 => ?_)
      · refine zw_iconst (nI 0) dX8_allows_49 (by decide) ?_
        exact sz_zret dX8_allows_50 rfl rfl (zb_f (fun z => absurd z.2 (Int32.not_le.mpr h42))).symm
      · refine zw_iconst (nI 1) dX8_allows_45 (by decide) ?_
        refine zw_goto 50 dX8_allows_46 (by decide) ?_
        exact sz_zret dX8_allows_50 rfl rfl (zb_t ⟨g34, Int32.not_lt.mp h42⟩).symm
  · refine zw_top (y := nI 1) (congrArg nI e1) ?_
    refine zw_look 51 dX8_allows_1 (by decide) rfl (by decide) ?_
    subst e1
    refine zw_aload_n dX8_allows_51 rfl rfl ?_
    refine zw_iload_n dX8_allows_52 rfl rfl ?_
    refine zw_iconst (nI 2) dX8_allows_53 (by decide) ?_
    refine cz_callP dX8_allows_54 eX8_allows_54 (d_hasFlag _ _ _ _ h _ hu _) h.1 rfl rfl (Nat.le_of_ble_eq_true rfl) (fun x54 q54 => ?_)
    subst q54
    refine zw_if_eq 72 dX8_allows_57 (by decide) (fun h57 => ?_) (fun h57 => ?_)
    · have g57 := zb_eq h57
      refine zw_iconst (nI 0) dX8_allows_72 (by decide) ?_
      exact sz_zret dX8_allows_73 rfl rfl (zb_f (fun z => g57 z.1)).symm
    · have g57 := zb_ne h57
      refine zw_iload_n dX8_allows_60 rfl rfl ?_
      refine zw_aload_n dX8_allows_61 rfl rfl ?_
      refine zw_geti 8 dX8_allows_62 fX8_37 h.1 rfl ?_
      refine zw_icmp_gt 72 dX8_allows_65 (by decide) (fun h65 => ?_) (fun h65 => ?_)
      · refine zw_iconst (nI 0) dX8_allows_72 (by decide) ?_
        exact sz_zret dX8_allows_73 rfl rfl (zb_f (fun z => absurd z.2 (Int32.not_le.mpr h65))).symm
      · refine zw_iconst (nI 1) dX8_allows_68 (by decide) ?_
        refine zw_goto 73 dX8_allows_69 (by decide) ?_
        exact sz_zret dX8_allows_73 rfl rfl (zb_t ⟨g57, Int32.not_lt.mp h65⟩).symm
  · refine zw_top (y := nI 2) (congrArg nI e1) ?_
    refine zw_look 74 dX8_allows_1 (by decide) rfl (by decide) ?_
    subst e1
    refine zw_aload_n dX8_allows_74 rfl rfl ?_
    refine zw_iload_n dX8_allows_75 rfl rfl ?_
    refine zw_iconst (nI 4) dX8_allows_76 (by decide) ?_
    refine cz_callP dX8_allows_77 eX8_allows_77 (d_hasFlag _ _ _ _ h _ hu _) h.1 rfl rfl (Nat.le_of_ble_eq_true rfl) (fun x77 q77 => ?_)
    subst q77
    refine zw_if_eq 103 dX8_allows_80 (by decide) (fun h80 => ?_) (fun h80 => ?_)
    · have g80 := zb_eq h80
      refine zw_iconst (nI 0) dX8_allows_103 (by decide) ?_
      exact sz_zret dX8_allows_104 rfl rfl (zb_f (fun z => g80 z.1)).symm
    · have g80 := zb_ne h80
      refine zw_iload_n dX8_allows_83 rfl rfl ?_
      refine zw_aload_n dX8_allows_84 rfl rfl ?_
      refine zw_geti 8 dX8_allows_85 fX8_37 h.1 rfl ?_
      refine zw_icmp_lt 103 dX8_allows_88 (by decide) (fun h88 => ?_) (fun h88 => ?_)
      · refine zw_iconst (nI 0) dX8_allows_103 (by decide) ?_
        exact sz_zret dX8_allows_104 rfl rfl (zb_f (fun z => absurd z.2.1 (Int32.not_le.mpr h88))).symm
      · refine zw_iload_n dX8_allows_91 rfl rfl ?_
        refine zw_aload_n dX8_allows_92 rfl rfl ?_
        refine zw_geti 8 dX8_allows_93 fX8_40 h.1 rfl ?_
        refine zw_icmp_gt 103 dX8_allows_96 (by decide) (fun h96 => ?_) (fun h96 => ?_)
        · refine zw_iconst (nI 0) dX8_allows_103 (by decide) ?_
          exact sz_zret dX8_allows_104 rfl rfl (zb_f (fun z => absurd z.2.2 (Int32.not_le.mpr h96))).symm
        · refine zw_iconst (nI 1) dX8_allows_99 (by decide) ?_
          refine zw_goto 104 dX8_allows_100 (by decide) ?_
          exact sz_zret dX8_allows_104 rfl rfl (zb_t ⟨g80, Int32.not_lt.mp h88, Int32.not_lt.mp h96⟩).symm
