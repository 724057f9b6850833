set_option maxHeartbeats 4000000 in
set_option maxRecDepth 100000 in
theorem l_returns {G : ZG} {Sh : ZS} {P : ZP} {C : ZI} {X : ZX} {v2 v3 v5 v6 : Zv} (hz : zr_sh Sh P) (S : ZT) (p : Nat) (hp : p < 4) (to : Int32) : ∀ (f k : Nat), k + f = 8 → zw G cX10_returns kX10_returns 0 0 118 [some (.inr (some (60, 99, 0))), some (.inl (nI p)), some v2, some v3, some (.inl to), some v5, some v6, some (.inl (nI k))] [] Sh P (zl C (rsF S p to k) X) (rq C Sh P (oc (okO (us (rsF S p to 8) 15 (30 * p + 18) (rsF S p to 8 15 (30 * p + 18) + nI 1))))) := by
  intro f
  induction f with
  | zero =>
    intro k hf
    have ek : k = 8 := by omega
    subst ek
    refine zw_iload dX10_returns_118 rfl ?_
    refine zw_bipush (nI 8) dX10_returns_120 (by decide) ?_
    refine zw_icmp_ge 166 dX10_returns_122 (by decide) (fun h122 => ?_) (fun h122 => ?_)
    · have g122 : 8 ≤ 8 := (nI_leI (by omega) (by omega)).mp h122
      refine zw_aload_n dX10_returns_166 rfl rfl ?_
      refine rz_arr hz dX10_returns_167 fX10_53 rfl ?_
      refine zw_bipush (nI 30) dX10_returns_170 (by decide) ?_
      refine zw_iload_n dX10_returns_172 rfl rfl ?_
      refine zw_imulN dX10_returns_173 ?_
      refine zw_bipush (nI 18) dX10_returns_174 (by decide) ?_
      refine zw_iaddN dX10_returns_176 ?_
      refine zw_dup2 dX10_returns_177 ?_
      refine rz_ald (((30 * p) + 18)) hz dX10_returns_178 rfl (by decide) (by show ((30 * p) + 18) < 120; omega) rfl ?_
      refine zw_iconst (nI 1) dX10_returns_179 (by decide) ?_
      refine zw_iadd dX10_returns_180 ?_
      refine rz_ast (((30 * p) + 18)) hz dX10_returns_181 rfl (by decide) (by show ((30 * p) + 18) < 120; omega) rfl ?_
      refine zw_iconst (nI 1) dX10_returns_182 (by decide) ?_
      exact rz_zret dX10_returns_183 rfl rfl oc_ok
    · exact absurd ((nI_leI (by omega) (by omega)).mpr (by omega)) h122
  | succ f ih =>
    intro k hf
    refine zw_iload dX10_returns_118 rfl ?_
    refine zw_bipush (nI 8) dX10_returns_120 (by decide) ?_
    refine zw_icmp_ge 166 dX10_returns_122 (by decide) (fun h122 => ?_) (fun h122 => ?_)
    · exact absurd ((nI_leI (by omega) (by omega)).mp h122) (by omega)
    · have g122 : ¬ (8 ≤ k) := fun z => h122 ((nI_leI (by omega) (by omega)).mpr z)
      refine zw_aload_n dX10_returns_125 rfl rfl ?_
      refine rz_arr hz dX10_returns_126 fX10_56 rfl ?_
      refine zw_bipush (nI 24) dX10_returns_129 (by decide) ?_
      refine zw_iload_n dX10_returns_131 rfl rfl ?_
      refine zw_imulN dX10_returns_132 ?_
      refine zw_iconst (nI 3) dX10_returns_133 (by decide) ?_
      refine zw_iload dX10_returns_134 rfl ?_
      refine zw_imulN dX10_returns_136 ?_
      refine zw_iaddN dX10_returns_137 ?_
      refine rz_ald (((24 * p) + (3 * k))) hz dX10_returns_138 rfl (by decide) (by show ((24 * p) + (3 * k)) < 96; omega) rfl ?_
      refine zw_iload dX10_returns_139 rfl ?_
      refine zw_icmp_ge 160 dX10_returns_141 (by decide) (fun h141 => ?_) (fun h141 => ?_)
      · have er : rsF S p to (k + 1) = rsF S p to k := by rw [rsF, if_pos h141]
        refine zw_iinc (nI (k + 1)) dX10_returns_160 rfl (nI_1 _) (by decide) ?_
        dsimp only [List.set]
        refine zw_goto 118 dX10_returns_163 (by decide) ?_
        rw [← er]
        exact ih (k + 1) (by omega)
      · have er : rsF S p to (k + 1) = us (rsF S p to k) 16 (24 * p + 3 * k) to := by rw [rsF, if_neg h141]
        refine zw_aload_n dX10_returns_144 rfl rfl ?_
        refine rz_arr hz dX10_returns_145 fX10_56 rfl ?_
        refine zw_bipush (nI 24) dX10_returns_148 (by decide) ?_
        refine zw_iload_n dX10_returns_150 rfl rfl ?_
        refine zw_imulN dX10_returns_151 ?_
        refine zw_iconst (nI 3) dX10_returns_152 (by decide) ?_
        refine zw_iload dX10_returns_153 rfl ?_
        refine zw_imulN dX10_returns_155 ?_
        refine zw_iaddN dX10_returns_156 ?_
        refine zw_iload dX10_returns_157 rfl ?_
        refine rz_ast (((24 * p) + (3 * k))) hz dX10_returns_159 rfl (by decide) (by show ((24 * p) + (3 * k)) < 96; omega) rfl ?_
        refine zw_iinc (nI (k + 1)) dX10_returns_160 rfl (nI_1 _) (by decide) ?_
        dsimp only [List.set]
        refine zw_goto 118 dX10_returns_163 (by decide) ?_
        rw [← er]
        exact ih (k + 1) (by omega)
set_option maxHeartbeats 4000000 in
set_option maxRecDepth 100000 in
theorem c_returns {G : ZG} {Sh : ZS} {P : ZP} {C : ZI} {X : ZX} (hz : zr_sh Sh P) (S : ZT) (p : Nat) (hp : p < 4) (hk : kOK S p) (hs : sOK S) (ring : Int32) : rc G cX10_returns kX10_returns Sh P C S X [.inl (nI p), .inl ring] (oc (ret' S p ring (X 28) (X 29) (X 30))) := by
  refine zw_C.of (by decide) rfl (Nat.le_of_ble_eq_true rfl) ?_
  show zw G cX10_returns kX10_returns 0 0 0 [some (.inr (some (60, 99, 0))), some (.inl (nI p)), some (.inl ring), none, none, none, none, none] [] Sh P (zl C S X) _
  refine zw_aload_n dX10_returns_0 rfl rfl ?_
  refine zw_iload_n dX10_returns_1 rfl rfl ?_
  refine zw_aload_n dX10_returns_2 rfl rfl ?_
  refine rz_intX hz dX10_returns_3 fX10_139 rfl (by decide) ?_
  refine zw_aload_n dX10_returns_6 rfl rfl ?_
  refine rz_intX hz dX10_returns_7 fX10_133 rfl (by decide) ?_
  refine zw_aload_n dX10_returns_10 rfl rfl ?_
  refine rz_intX hz dX10_returns_11 fX10_136 rfl (by decide) ?_
  refine zw_iconst (nI 0) dX10_returns_14 (by decide) ?_
  refine rz_can hz dX10_returns_15 eX10_returns_15 (c_can hz S p hp hk hs _ _ _ 0 (by omega)) rfl rfl (Nat.le_of_ble_eq_true rfl) 23 dX10_returns_18 (by decide) (fun k15 => ?_) (fun k15 => ?_)
  · have hc3 := canK_0' k15
    have hn1 := zin_zn hc3.1 (by have := hk.2.2.1; omega)
    have hsz := sz_le hk hs hn1.1
    have hw1 := zin_zn hc3.2.1 (by omega)
    refine zw_aload_n dX10_returns_23 rfl rfl ?_
    refine zw_iload_n dX10_returns_24 rfl rfl ?_
    refine zw_aload_n dX10_returns_25 rfl rfl ?_
    refine rz_intX hz dX10_returns_26 fX10_133 rfl (by decide) ?_
    refine zw_top hn1.2 ?_
    refine zw_aload_n dX10_returns_29 rfl rfl ?_
    refine rz_intX hz dX10_returns_30 fX10_136 rfl (by decide) ?_
    refine zw_top hw1.2 ?_
    refine rz_callP hz dX10_returns_33 eX10_returns_33 (c_get hz S p hp hk hs _ hn1.1 _ hw1.1) rfl rfl (Nat.le_of_ble_eq_true rfl) (fun x33 q33 => ?_)
    subst q33
    refine zw_istore_n dX10_returns_36 rfl (by decide) ?_
    dsimp only [List.set]
    refine zw_iload_n dX10_returns_37 rfl rfl ?_
    refine zw_bipush (nI 28) dX10_returns_38 (by decide) ?_
    refine zw_ishr dX10_returns_40 ?_
    refine zw_bipush (nI 7) dX10_returns_41 (by decide) ?_
    refine zw_iand dX10_returns_43 ?_
    refine zw_top (y := pw_r (getW S p (zn (X 29)) (zn (X 30)))) rfl ?_
    refine zw_istore dX10_returns_44 (by decide) ?_
    dsimp only [List.set]
    refine zw_iload dX10_returns_46 rfl ?_
    refine zw_iload_n dX10_returns_48 rfl rfl ?_
    refine zw_icmp_ge 71 dX10_returns_49 (by decide) (fun h49 => ?_) (fun h49 => ?_)
    · refine zw_iload_n dX10_returns_71 rfl rfl ?_
      refine zw_bipush (nI 16) dX10_returns_72 (by decide) ?_
      refine zw_ishr dX10_returns_74 ?_
      refine zw_sipush (nI 4095) dX10_returns_75 (by decide) ?_
      refine zw_iand dX10_returns_78 ?_
      refine zw_top (y := pw_n (getW S p (zn (X 29)) (zn (X 30)))) rfl ?_
      refine zw_istore dX10_returns_79 (by decide) ?_
      dsimp only [List.set]
      refine zw_iload_n dX10_returns_81 rfl rfl ?_
      refine zw_ldc (65535) dX10_returns_82 lX10_93 ?_
      refine zw_iand dX10_returns_84 ?_
      refine zw_top (y := pw_w (getW S p (zn (X 29)) (zn (X 30)))) rfl ?_
      refine zw_istore dX10_returns_85 (by decide) ?_
      dsimp only [List.set]
      refine zw_aload_n dX10_returns_87 rfl rfl ?_
      refine zw_iload_n dX10_returns_88 rfl rfl ?_
      refine zw_iload dX10_returns_89 rfl ?_
      refine zw_iload dX10_returns_91 rfl ?_
      refine zw_iload dX10_returns_93 rfl ?_
      refine zw_iconst (nI 2) dX10_returns_95 (by decide) ?_
      refine rz_can hz dX10_returns_96 eX10_returns_96 (c_can hz S p hp hk hs _ _ _ 2 (by omega)) rfl rfl (Nat.le_of_ble_eq_true rfl) 104 dX10_returns_99 (by decide) (fun k96 => ?_) (fun k96 => ?_)
      · refine zw_aload_n dX10_returns_104 rfl rfl ?_
        refine zw_iload_n dX10_returns_105 rfl rfl ?_
        refine zw_iload dX10_returns_106 rfl ?_
        refine zw_iload dX10_returns_108 rfl ?_
        refine zw_iload dX10_returns_110 rfl ?_
        refine rz_callT hz dX10_returns_112 eX10_returns_112 (c_goes hz S p hp _ _ _) rfl rfl (Nat.le_of_ble_eq_true rfl) ?_
        refine zw_iconst (nI 0) dX10_returns_115 (by decide) ?_
        refine zw_istore dX10_returns_116 (by decide) ?_
        dsimp only [List.set]
        have er : ret' S p ring (X 28) (X 29) (X 30) = okO (retS S p (getW S p (zn (X 29)) (zn (X 30)))) := by unfold ret'; rw [if_pos k15]; show (if _ then _ else _) = _; rw [if_pos h49, if_pos k96]
        rw [er]
        exact l_returns hz (goS S p _ _ _) p hp _ 8 0 (by omega)
      · refine zw_iconst (nI 0) dX10_returns_102 (by decide) ?_
        exact rz_zret dX10_returns_103 rfl rfl (by unfold ret'; rw [if_pos k15]; show oc (if _ then _ else _) _ _ _; rw [if_pos h49, if_neg k96]; exact oc_no k96)
    · refine zw_aload_n dX10_returns_52 rfl rfl ?_
      refine zw_bipush (nI 10) dX10_returns_53 (by decide) ?_
      refine zw_aload_n dX10_returns_55 rfl rfl ?_
      refine rz_intX hz dX10_returns_56 fX10_139 rfl (by decide) ?_
      refine zw_aload_n dX10_returns_59 rfl rfl ?_
      refine rz_intX hz dX10_returns_60 fX10_133 rfl (by decide) ?_
      refine zw_aload_n dX10_returns_63 rfl rfl ?_
      refine rz_intX hz dX10_returns_64 fX10_136 rfl (by decide) ?_
      refine rz_callX hz dX10_returns_67 eX10_returns_67 (c_fails hz S _ _ _ _) rfl rfl (Nat.le_of_ble_eq_true rfl) (fun x67 X67 q67 => ?_)
      exact rz_zret dX10_returns_70 rfl (by rw [q67.1]; rfl) (by unfold ret'; rw [if_pos k15]; show oc (if _ then _ else _) _ _ _; rw [if_neg h49]; exact oc_no' (by decide) q67.1 rfl q67.2)
  · refine zw_iconst (nI 0) dX10_returns_21 (by decide) ?_
    exact rz_zret dX10_returns_22 rfl rfl (by unfold ret'; rw [if_neg k15]; exact oc_no k15)
set_option maxHeartbeats 4000000 in
set_option maxRecDepth 100000 in
theorem l_res1 {G : ZG} {Sh : ZS} {P : ZP} {C : ZI} {X : ZX} {Q : ZQ} {v2 v4 : Zv} (hz : zr_sh Sh P) (S : ZT) (p : Nat) (hp : p < 4) (hx : zw G cX10_resumes kX10_resumes 0 0 94 [some (.inr (some (60, 99, 0))), some (.inl (nI p)), some v2, some (.inl (nI (30 * p))), some v4, some (.inl (nI 8))] [] Sh P (zl C (cpF S 15 (30 * p + 1) 21 (32 * p) 8) X) Q) : ∀ (f k : Nat), k + f = 8 → zw G cX10_resumes kX10_resumes 0 0 58 [some (.inr (some (60, 99, 0))), some (.inl (nI p)), some v2, some (.inl (nI (30 * p))), some v4, some (.inl (nI k))] [] Sh P (zl C (cpF S 15 (30 * p + 1) 21 (32 * p) k) X) Q := by
  intro f
  induction f with
  | zero =>
    intro k hf
    have ek : k = 8 := by omega
    subst ek
    refine zw_iload dX10_resumes_58 rfl ?_
    refine zw_bipush (nI 8) dX10_resumes_60 (by decide) ?_
    refine zw_icmp_ge 94 dX10_resumes_62 (by decide) (fun h62 => ?_) (fun h62 => ?_)
    · have g62 : 8 ≤ 8 := (nI_leI (by omega) (by omega)).mp h62
      exact hx
    · exact absurd ((nI_leI (by omega) (by omega)).mpr (by omega)) h62
  | succ f ih =>
    intro k hf
    refine zw_iload dX10_resumes_58 rfl ?_
    refine zw_bipush (nI 8) dX10_resumes_60 (by decide) ?_
    refine zw_icmp_ge 94 dX10_resumes_62 (by decide) (fun h62 => ?_) (fun h62 => ?_)
    · exact absurd ((nI_leI (by omega) (by omega)).mp h62) (by omega)
    · have g62 : ¬ (8 ≤ k) := fun z => h62 ((nI_leI (by omega) (by omega)).mpr z)
      refine zw_aload_n dX10_resumes_65 rfl rfl ?_
      refine rz_arr hz dX10_resumes_66 fX10_53 rfl ?_
      refine zw_iload_n dX10_resumes_69 rfl rfl ?_
      refine zw_iconst (nI 1) dX10_resumes_70 (by decide) ?_
      refine zw_iaddN dX10_resumes_71 ?_
      refine zw_iload dX10_resumes_72 rfl ?_
      refine zw_iaddN dX10_resumes_74 ?_
      refine zw_aload_n dX10_resumes_75 rfl rfl ?_
      refine rz_arr hz dX10_resumes_76 fX10_71 rfl ?_
      refine zw_bipush (nI 32) dX10_resumes_79 (by decide) ?_
      refine zw_iload_n dX10_resumes_81 rfl rfl ?_
      refine zw_imulN dX10_resumes_82 ?_
      refine zw_iload dX10_resumes_83 rfl ?_
      refine zw_iaddN dX10_resumes_85 ?_
      refine rz_ald (((32 * p) + k)) hz dX10_resumes_86 rfl (by decide) (by show ((32 * p) + k) < 128; omega) rfl ?_
      refine rz_ast ((((30 * p) + 1) + k)) hz dX10_resumes_87 rfl (by decide) (by show (((30 * p) + 1) + k) < 120; omega) rfl ?_
      refine zw_iinc (nI (k + 1)) dX10_resumes_88 rfl (nI_1 _) (by decide) ?_
      dsimp only [List.set]
      refine zw_goto 58 dX10_resumes_91 (by decide) ?_
      exact ih (k + 1) (by omega)
set_option maxHeartbeats 4000000 in
set_option maxRecDepth 100000 in
theorem l_res2 {G : ZG} {Sh : ZS} {P : ZP} {C : ZI} {X : ZX} {Q : ZQ} {v2 v4 : Zv} (hz : zr_sh Sh P) (S : ZT) (p : Nat) (hp : p < 4) (hx : zw G cX10_resumes kX10_resumes 0 0 137 [some (.inr (some (60, 99, 0))), some (.inl (nI p)), some v2, some (.inl (nI (30 * p))), some v4, some (.inl (nI 24))] [] Sh P (zl C (cpF S 16 (24 * p) 21 (32 * p + 8) 24) X) Q) : ∀ (f k : Nat), k + f = 24 → zw G cX10_resumes kX10_resumes 0 0 97 [some (.inr (some (60, 99, 0))), some (.inl (nI p)), some v2, some (.inl (nI (30 * p))), some v4, some (.inl (nI k))] [] Sh P (zl C (cpF S 16 (24 * p) 21 (32 * p + 8) k) X) Q := by
  intro f
  induction f with
  | zero =>
    intro k hf
    have ek : k = 24 := by omega
    subst ek
    refine zw_iload dX10_resumes_97 rfl ?_
    refine zw_bipush (nI 24) dX10_resumes_99 (by decide) ?_
    refine zw_icmp_ge 137 dX10_resumes_101 (by decide) (fun h101 => ?_) (fun h101 => ?_)
    · have g101 : 24 ≤ 24 := (nI_leI (by omega) (by omega)).mp h101
      exact hx
    · exact absurd ((nI_leI (by omega) (by omega)).mpr (by omega)) h101
  | succ f ih =>
    intro k hf
    refine zw_iload dX10_resumes_97 rfl ?_
    refine zw_bipush (nI 24) dX10_resumes_99 (by decide) ?_
    refine zw_icmp_ge 137 dX10_resumes_101 (by decide) (fun h101 => ?_) (fun h101 => ?_)
    · exact absurd ((nI_leI (by omega) (by omega)).mp h101) (by omega)
    · have g101 : ¬ (24 ≤ k) := fun z => h101 ((nI_leI (by omega) (by omega)).mpr z)
      refine zw_aload_n dX10_resumes_104 rfl rfl ?_
      refine rz_arr hz dX10_resumes_105 fX10_56 rfl ?_
      refine zw_bipush (nI 24) dX10_resumes_108 (by decide) ?_
      refine zw_iload_n dX10_resumes_110 rfl rfl ?_
      refine zw_imulN dX10_resumes_111 ?_
      refine zw_iload dX10_resumes_112 rfl ?_
      refine zw_iaddN dX10_resumes_114 ?_
      refine zw_aload_n dX10_resumes_115 rfl rfl ?_
      refine rz_arr hz dX10_resumes_116 fX10_71 rfl ?_
      refine zw_bipush (nI 32) dX10_resumes_119 (by decide) ?_
      refine zw_iload_n dX10_resumes_121 rfl rfl ?_
      refine zw_imulN dX10_resumes_122 ?_
      refine zw_bipush (nI 8) dX10_resumes_123 (by decide) ?_
      refine zw_iaddN dX10_resumes_125 ?_
      refine zw_iload dX10_resumes_126 rfl ?_
      refine zw_iaddN dX10_resumes_128 ?_
      refine rz_ald ((((32 * p) + 8) + k)) hz dX10_resumes_129 rfl (by decide) (by show (((32 * p) + 8) + k) < 128; omega) rfl ?_
      refine rz_ast (((24 * p) + k)) hz dX10_resumes_130 rfl (by decide) (by show ((24 * p) + k) < 96; omega) rfl ?_
      refine zw_iinc (nI (k + 1)) dX10_resumes_131 rfl (nI_1 _) (by decide) ?_
      dsimp only [List.set]
      refine zw_goto 97 dX10_resumes_134 (by decide) ?_
      exact ih (k + 1) (by omega)
set_option maxHeartbeats 4000000 in
set_option maxRecDepth 100000 in
theorem l_res4 {G : ZG} {Sh : ZS} {P : ZP} {C : ZI} {X : ZX} (hz : zr_sh Sh P) (S : ZT) (p : Nat) (hp : p < 4) (ring : Int32) (h6 : ring = 0) (h26 : ¬ S 15 (30 * p + 15) = 0) : zw G cX10_resumes kX10_resumes 0 0 137 [some (.inr (some (60, 99, 0))), some (.inl (nI p)), some (.inl ring), some (.inl (nI (30 * p))), some (.inl (if S 15 (30 * p + 5) = 0 then nI 0 else nI 1)), some (.inl (nI 24))] [] Sh P (zl C (cpF (cpF S 15 (30 * p + 1) 21 (32 * p) 8) 16 (24 * p) 21 (32 * p + 8) 24) X) (rq C Sh P (oc (rsmO S p ring))) := by
  refine zw_aload_n dX10_resumes_137 rfl rfl ?_
  refine rz_arr hz dX10_resumes_138 fX10_53 rfl ?_
  refine zw_iload_n dX10_resumes_141 rfl rfl ?_
  refine zw_iconst (nI 3) dX10_resumes_142 (by decide) ?_
  refine zw_iaddN dX10_resumes_143 ?_
  refine zw_dup2 dX10_resumes_144 ?_
  refine rz_ald (((30 * p) + 3)) hz dX10_resumes_145 rfl (by decide) (by show ((30 * p) + 3) < 120; omega) rfl ?_
  refine zw_iload dX10_resumes_146 rfl ?_
  refine zw_iadd dX10_resumes_148 ?_
  refine rz_ast (((30 * p) + 3)) hz dX10_resumes_149 rfl (by decide) (by show ((30 * p) + 3) < 120; omega) rfl ?_
  refine zw_aload_n dX10_resumes_150 rfl rfl ?_
  refine rz_arr hz dX10_resumes_151 fX10_53 rfl ?_
  refine zw_iload_n dX10_resumes_154 rfl rfl ?_
  refine zw_bipush (nI 15) dX10_resumes_155 (by decide) ?_
  refine zw_iaddN dX10_resumes_157 ?_
  refine zw_iconst (nI 0) dX10_resumes_158 (by decide) ?_
  refine rz_ast (((30 * p) + 15)) hz dX10_resumes_159 rfl (by decide) (by show ((30 * p) + 15) < 120; omega) rfl ?_
  refine zw_iconst (nI 1) dX10_resumes_160 (by decide) ?_
  exact rz_zret dX10_resumes_161 rfl rfl (by unfold rsmO; rw [if_pos h6, if_neg h26]; exact oc_ok)
set_option maxHeartbeats 4000000 in
set_option maxRecDepth 100000 in
theorem l_res3 {G : ZG} {Sh : ZS} {P : ZP} {C : ZI} {X : ZX} (hz : zr_sh Sh P) (S : ZT) (p : Nat) (hp : p < 4) (ring : Int32) (h6 : ring = 0) (h26 : ¬ S 15 (30 * p + 15) = 0) : zw G cX10_resumes kX10_resumes 0 0 55 [some (.inr (some (60, 99, 0))), some (.inl (nI p)), some (.inl ring), some (.inl (nI (30 * p))), some (.inl (if S 15 (30 * p + 5) = 0 then nI 0 else nI 1)), none] [] Sh P (zl C S X) (rq C Sh P (oc (rsmO S p ring))) := by
  refine zw_iconst (nI 0) dX10_resumes_55 (by decide) ?_
  refine zw_istore dX10_resumes_56 (by decide) ?_
  dsimp only [List.set]
  refine l_res1 hz S p hp ?_ 8 0 (by omega)
  refine zw_iconst (nI 0) dX10_resumes_94 (by decide) ?_
  refine zw_istore dX10_resumes_95 (by decide) ?_
  dsimp only [List.set]
  refine l_res2 hz (cpF S 15 (30 * p + 1) 21 (32 * p) 8) p hp ?_ 24 0 (by omega)
  exact l_res4 hz S p hp ring h6 h26
set_option maxHeartbeats 4000000 in
set_option maxRecDepth 100000 in
theorem c_resumes {G : ZG} {Sh : ZS} {P : ZP} {C : ZI} {X : ZX} (hz : zr_sh Sh P) (S : ZT) (p : Nat) (hp : p < 4) (ring : Int32) : rc G cX10_resumes kX10_resumes Sh P C S X [.inl (nI p), .inl ring] (oc (rsmO S p ring)) := by
  refine zw_C.of (by decide) rfl (Nat.le_of_ble_eq_true rfl) ?_
  show zw G cX10_resumes kX10_resumes 0 0 0 [some (.inr (some (60, 99, 0))), some (.inl (nI p)), some (.inl ring), none, none, none] [] Sh P (zl C S X) _
  refine zw_bipush (nI 30) dX10_resumes_0 (by decide) ?_
  refine zw_iload_n dX10_resumes_2 rfl rfl ?_
  refine zw_imulN dX10_resumes_3 ?_
  refine zw_istore_n dX10_resumes_4 rfl (by decide) ?_
  dsimp only [List.set]
  refine zw_iload_n dX10_resumes_5 rfl rfl ?_
  refine zw_if_eq 17 dX10_resumes_6 (by decide) (fun h6 => ?_) (fun h6 => ?_)
  · refine zw_aload_n dX10_resumes_17 rfl rfl ?_
    refine rz_arr hz dX10_resumes_18 fX10_53 rfl ?_
    refine zw_iload_n dX10_resumes_21 rfl rfl ?_
    refine zw_bipush (nI 15) dX10_resumes_22 (by decide) ?_
    refine zw_iaddN dX10_resumes_24 ?_
    refine rz_ald (((30 * p) + 15)) hz dX10_resumes_25 rfl (by decide) (by show ((30 * p) + 15) < 120; omega) rfl ?_
    refine zw_if_ne 37 dX10_resumes_26 (by decide) (fun h26 => ?_) (fun h26 => ?_)
    · refine zw_aload_n dX10_resumes_37 rfl rfl ?_
      refine rz_arr hz dX10_resumes_38 fX10_53 rfl ?_
      refine zw_iload_n dX10_resumes_41 rfl rfl ?_
      refine zw_iconst (nI 5) dX10_resumes_42 (by decide) ?_
      refine zw_iaddN dX10_resumes_43 ?_
      refine rz_ald (((30 * p) + 5)) hz dX10_resumes_44 rfl (by decide) (by show ((30 * p) + 5) < 120; omega) rfl ?_
      refine zw_if_eq 52 dX10_resumes_45 (by decide) (fun h45 => ?_) (fun h45 => ?_)
      · refine zw_iconst (nI 0) dX10_resumes_52 (by decide) ?_
        refine zw_top (y := if S 15 (30 * p + 5) = 0 then nI 0 else nI 1) (by first | exact (if_pos h45).symm | exact (if_neg h45).symm) ?_
        refine zw_istore dX10_resumes_53 (by decide) ?_
        exact l_res3 hz S p hp ring h6 h26
      · refine zw_iconst (nI 1) dX10_resumes_48 (by decide) ?_
        refine zw_goto 53 dX10_resumes_49 (by decide) ?_
        refine zw_top (y := if S 15 (30 * p + 5) = 0 then nI 0 else nI 1) (by first | exact (if_pos h45).symm | exact (if_neg h45).symm) ?_
        refine zw_istore dX10_resumes_53 (by decide) ?_
        exact l_res3 hz S p hp ring h6 h26
    · refine zw_aload_n dX10_resumes_29 rfl rfl ?_
      refine zw_iload_n dX10_resumes_30 rfl rfl ?_
      refine zw_bipush (nI 13) dX10_resumes_31 (by decide) ?_
      refine rz_callX hz dX10_resumes_33 eX10_resumes_33 (c_failsHere hz S p hp _) rfl rfl (Nat.le_of_ble_eq_true rfl) (fun x33 X33 q33 => ?_)
      exact rz_zret dX10_resumes_36 rfl (by rw [q33.1]; rfl) (by unfold rsmO here; rw [if_pos h6, if_pos h26]; exact oc_no' (by decide) q33.1 rfl q33.2)
  · refine zw_aload_n dX10_resumes_9 rfl rfl ?_
    refine zw_iload_n dX10_resumes_10 rfl rfl ?_
    refine zw_bipush (nI 14) dX10_resumes_11 (by decide) ?_
    refine rz_callX hz dX10_resumes_13 eX10_resumes_13 (c_failsHere hz S p hp _) rfl rfl (Nat.le_of_ble_eq_true rfl) (fun x13 X13 q13 => ?_)
    exact rz_zret dX10_resumes_16 rfl (by rw [q13.1]; rfl) (by unfold rsmO here; rw [if_neg h6]; exact oc_no' (by decide) q13.1 rfl q13.2)
set_option maxHeartbeats 4000000 in
set_option maxRecDepth 100000 in
theorem l_flt1 {G : ZG} {Sh : ZS} {P : ZP} {C : ZI} {X : ZX} {Q : ZQ} (hz : zr_sh Sh P) (S : ZT) (p : Nat) (hp : p < 4) (hx : zw G cX10_faults kX10_faults 0 0 154 [some (.inr (some (60, 99, 0))), some (.inl (nI p)), some (.inl (nI (30 * p))), some (.inl (nI 8))] [] Sh P (zl C (cpF S 21 (32 * p) 15 (30 * p + 1) 8) X) Q) : ∀ (f k : Nat), k + f = 8 → zw G cX10_faults kX10_faults 0 0 121 [some (.inr (some (60, 99, 0))), some (.inl (nI p)), some (.inl (nI (30 * p))), some (.inl (nI k))] [] Sh P (zl C (cpF S 21 (32 * p) 15 (30 * p + 1) k) X) Q := by
  intro f
  induction f with
  | zero =>
    intro k hf
    have ek : k = 8 := by omega
    subst ek
    refine zw_iload_n dX10_faults_121 rfl rfl ?_
    refine zw_bipush (nI 8) dX10_faults_122 (by decide) ?_
    refine zw_icmp_ge 154 dX10_faults_124 (by decide) (fun h124 => ?_) (fun h124 => ?_)
    · have g124 : 8 ≤ 8 := (nI_leI (by omega) (by omega)).mp h124
      exact hx
    · exact absurd ((nI_leI (by omega) (by omega)).mpr (by omega)) h124
  | succ f ih =>
    intro k hf
    refine zw_iload_n dX10_faults_121 rfl rfl ?_
    refine zw_bipush (nI 8) dX10_faults_122 (by decide) ?_
    refine zw_icmp_ge 154 dX10_faults_124 (by decide) (fun h124 => ?_) (fun h124 => ?_)
    · exact absurd ((nI_leI (by omega) (by omega)).mp h124) (by omega)
    · have g124 : ¬ (8 ≤ k) := fun z => h124 ((nI_leI (by omega) (by omega)).mpr z)
      refine zw_aload_n dX10_faults_127 rfl rfl ?_
      refine rz_arr hz dX10_faults_128 fX10_71 rfl ?_
      refine zw_bipush (nI 32) dX10_faults_131 (by decide) ?_
      refine zw_iload_n dX10_faults_133 rfl rfl ?_
      refine zw_imulN dX10_faults_134 ?_
      refine zw_iload_n dX10_faults_135 rfl rfl ?_
      refine zw_iaddN dX10_faults_136 ?_
      refine zw_aload_n dX10_faults_137 rfl rfl ?_
      refine rz_arr hz dX10_faults_138 fX10_53 rfl ?_
      refine zw_iload_n dX10_faults_141 rfl rfl ?_
      refine zw_iconst (nI 1) dX10_faults_142 (by decide) ?_
      refine zw_iaddN dX10_faults_143 ?_
      refine zw_iload_n dX10_faults_144 rfl rfl ?_
      refine zw_iaddN dX10_faults_145 ?_
      refine rz_ald ((((30 * p) + 1) + k)) hz dX10_faults_146 rfl (by decide) (by show (((30 * p) + 1) + k) < 120; omega) rfl ?_
      refine rz_ast (((32 * p) + k)) hz dX10_faults_147 rfl (by decide) (by show ((32 * p) + k) < 128; omega) rfl ?_
      refine zw_iinc (nI (k + 1)) dX10_faults_148 rfl (nI_1 _) (by decide) ?_
      dsimp only [List.set]
      refine zw_goto 121 dX10_faults_151 (by decide) ?_
      exact ih (k + 1) (by omega)
set_option maxHeartbeats 4000000 in
set_option maxRecDepth 100000 in
theorem l_flt2 {G : ZG} {Sh : ZS} {P : ZP} {C : ZI} {X : ZX} {Q : ZQ} (hz : zr_sh Sh P) (S : ZT) (p : Nat) (hp : p < 4) (hx : zw G cX10_faults kX10_faults 0 0 193 [some (.inr (some (60, 99, 0))), some (.inl (nI p)), some (.inl (nI (30 * p))), some (.inl (nI 24))] [] Sh P (zl C (cpF S 21 (32 * p + 8) 16 (24 * p) 24) X) Q) : ∀ (f k : Nat), k + f = 24 → zw G cX10_faults kX10_faults 0 0 156 [some (.inr (some (60, 99, 0))), some (.inl (nI p)), some (.inl (nI (30 * p))), some (.inl (nI k))] [] Sh P (zl C (cpF S 21 (32 * p + 8) 16 (24 * p) k) X) Q := by
  intro f
  induction f with
  | zero =>
    intro k hf
    have ek : k = 24 := by omega
    subst ek
    refine zw_iload_n dX10_faults_156 rfl rfl ?_
    refine zw_bipush (nI 24) dX10_faults_157 (by decide) ?_
    refine zw_icmp_ge 193 dX10_faults_159 (by decide) (fun h159 => ?_) (fun h159 => ?_)
    · have g159 : 24 ≤ 24 := (nI_leI (by omega) (by omega)).mp h159
      exact hx
    · exact absurd ((nI_leI (by omega) (by omega)).mpr (by omega)) h159
  | succ f ih =>
    intro k hf
    refine zw_iload_n dX10_faults_156 rfl rfl ?_
    refine zw_bipush (nI 24) dX10_faults_157 (by decide) ?_
    refine zw_icmp_ge 193 dX10_faults_159 (by decide) (fun h159 => ?_) (fun h159 => ?_)
    · exact absurd ((nI_leI (by omega) (by omega)).mp h159) (by omega)
    · have g159 : ¬ (24 ≤ k) := fun z => h159 ((nI_leI (by omega) (by omega)).mpr z)
      refine zw_aload_n dX10_faults_162 rfl rfl ?_
      refine rz_arr hz dX10_faults_163 fX10_71 rfl ?_
      refine zw_bipush (nI 32) dX10_faults_166 (by decide) ?_
      refine zw_iload_n dX10_faults_168 rfl rfl ?_
      refine zw_imulN dX10_faults_169 ?_
      refine zw_bipush (nI 8) dX10_faults_170 (by decide) ?_
      refine zw_iaddN dX10_faults_172 ?_
      refine zw_iload_n dX10_faults_173 rfl rfl ?_
      refine zw_iaddN dX10_faults_174 ?_
      refine zw_aload_n dX10_faults_175 rfl rfl ?_
      refine rz_arr hz dX10_faults_176 fX10_56 rfl ?_
      refine zw_bipush (nI 24) dX10_faults_179 (by decide) ?_
      refine zw_iload_n dX10_faults_181 rfl rfl ?_
      refine zw_imulN dX10_faults_182 ?_
      refine zw_iload_n dX10_faults_183 rfl rfl ?_
      refine zw_iaddN dX10_faults_184 ?_
      refine rz_ald (((24 * p) + k)) hz dX10_faults_185 rfl (by decide) (by show ((24 * p) + k) < 96; omega) rfl ?_
      refine rz_ast ((((32 * p) + 8) + k)) hz dX10_faults_186 rfl (by decide) (by show (((32 * p) + 8) + k) < 128; omega) rfl ?_
      refine zw_iinc (nI (k + 1)) dX10_faults_187 rfl (nI_1 _) (by decide) ?_
      dsimp only [List.set]
      refine zw_goto 156 dX10_faults_190 (by decide) ?_
      exact ih (k + 1) (by omega)
set_option maxHeartbeats 4000000 in
set_option maxRecDepth 100000 in
theorem l_flt4 {G : ZG} {Sh : ZS} {P : ZP} {C : ZI} {X : ZX} (hz : zr_sh Sh P) (S : ZT) (p : Nat) (hp : p < 4) : zw G cX10_faults kX10_faults 0 0 193 [some (.inr (some (60, 99, 0))), some (.inl (nI p)), some (.inl (nI (30 * p))), some (.inl (nI 24))] [] Sh P (zl C (cpF (cpF S 21 (32 * p) 15 (30 * p + 1) 8) 21 (32 * p + 8) 16 (24 * p) 24) X) (rqv C Sh P (fun S' X' => S' = flt2 S p (X 24) (X 25) (X 26) (X 27) ∧ X' = X)) := by
  refine zw_aload_n dX10_faults_193 rfl rfl ?_
  refine rz_arr hz dX10_faults_194 fX10_53 rfl ?_
  refine zw_iload_n dX10_faults_197 rfl rfl ?_
  refine zw_bipush (nI 15) dX10_faults_198 (by decide) ?_
  refine zw_iaddN dX10_faults_200 ?_
  refine zw_iconst (nI 1) dX10_faults_201 (by decide) ?_
  refine rz_ast (((30 * p) + 15)) hz dX10_faults_202 rfl (by decide) (by show ((30 * p) + 15) < 120; omega) rfl ?_
  refine zw_aload_n dX10_faults_203 rfl rfl ?_
  refine zw_iload_n dX10_faults_204 rfl rfl ?_
  refine zw_iconst (nI 0) dX10_faults_205 (by decide) ?_
  refine zw_aload_n dX10_faults_206 rfl rfl ?_
  refine rz_arr hz dX10_faults_207 fX10_53 rfl ?_
  refine zw_iload_n dX10_faults_210 rfl rfl ?_
  refine zw_bipush (nI 19) dX10_faults_211 (by decide) ?_
  refine zw_iaddN dX10_faults_213 ?_
  refine rz_ald (((30 * p) + 19)) hz dX10_faults_214 rfl (by decide) (by show ((30 * p) + 19) < 120; omega) rfl ?_
  refine zw_aload_n dX10_faults_215 rfl rfl ?_
  refine rz_arr hz dX10_faults_216 fX10_53 rfl ?_
  refine zw_iload_n dX10_faults_219 rfl rfl ?_
  refine zw_bipush (nI 20) dX10_faults_220 (by decide) ?_
  refine zw_iaddN dX10_faults_222 ?_
  refine rz_ald (((30 * p) + 20)) hz dX10_faults_223 rfl (by decide) (by show ((30 * p) + 20) < 120; omega) rfl ?_
  refine rz_callT hz dX10_faults_224 eX10_faults_224 (c_goes hz _ p hp _ _ _) rfl rfl (Nat.le_of_ble_eq_true rfl) ?_
  refine zw_aload_n dX10_faults_227 rfl rfl ?_
  refine rz_arr hz dX10_faults_228 fX10_53 rfl ?_
  refine zw_iload_n dX10_faults_231 rfl rfl ?_
  refine zw_iconst (nI 4) dX10_faults_232 (by decide) ?_
  refine zw_iaddN dX10_faults_233 ?_
  refine zw_aload_n dX10_faults_234 rfl rfl ?_
  refine rz_intX hz dX10_faults_235 fX10_107 rfl (by decide) ?_
  refine rz_ast (((30 * p) + 4)) hz dX10_faults_238 rfl (by decide) (by show ((30 * p) + 4) < 120; omega) rfl ?_
  refine zw_aload_n dX10_faults_239 rfl rfl ?_
  refine zw_iload_n dX10_faults_240 rfl rfl ?_
  refine zw_iconst (nI 1) dX10_faults_241 (by decide) ?_
  refine zw_aload_n dX10_faults_242 rfl rfl ?_
  refine rz_intX hz dX10_faults_243 fX10_110 rfl (by decide) ?_
  refine zw_aload_n dX10_faults_246 rfl rfl ?_
  refine rz_intX hz dX10_faults_247 fX10_113 rfl (by decide) ?_
  refine zw_aload_n dX10_faults_250 rfl rfl ?_
  refine rz_intX hz dX10_faults_251 fX10_116 rfl (by decide) ?_
  refine zw_ldc (65535) dX10_faults_254 lX10_93 ?_
  refine zw_iand dX10_faults_256 ?_
  refine rz_callT hz dX10_faults_257 eX10_faults_257 (c_points hz _ p hp 1 (by omega) _ _ _) rfl rfl (Nat.le_of_ble_eq_true rfl) ?_
  exact rz_vret dX10_faults_260 rfl ⟨rfl, rfl⟩
set_option maxHeartbeats 4000000 in
set_option maxRecDepth 100000 in
theorem l_flt3 {G : ZG} {Sh : ZS} {P : ZP} {C : ZI} {X : ZX} (hz : zr_sh Sh P) (S : ZT) (p : Nat) (hp : p < 4) : zw G cX10_faults kX10_faults 0 0 119 [some (.inr (some (60, 99, 0))), some (.inl (nI p)), some (.inl (nI (30 * p))), none] [] Sh P (zl C S X) (rqv C Sh P (fun S' X' => S' = flt2 S p (X 24) (X 25) (X 26) (X 27) ∧ X' = X)) := by
  refine zw_iconst (nI 0) dX10_faults_119 (by decide) ?_
  refine zw_istore_n dX10_faults_120 rfl (by decide) ?_
  dsimp only [List.set]
  refine l_flt1 hz S p hp ?_ 8 0 (by omega)
  refine zw_iconst (nI 0) dX10_faults_154 (by decide) ?_
  refine zw_istore_n dX10_faults_155 rfl (by decide) ?_
  dsimp only [List.set]
  refine l_flt2 hz (cpF S 21 (32 * p) 15 (30 * p + 1) 8) p hp ?_ 24 0 (by omega)
  exact l_flt4 hz S p hp
set_option maxHeartbeats 4000000 in
set_option maxRecDepth 100000 in
theorem c_faults {G : ZG} {Sh : ZS} {P : ZP} {C : ZI} {X : ZX} (hz : zr_sh Sh P) (S : ZT) (p : Nat) (hp : p < 4) : rcv G cX10_faults kX10_faults Sh P C S X [.inl (nI p)] (fun S' X' => S' = flt S p (X 24) (X 25) (X 26) (X 27) ∧ X' = X) := by
  refine zw_C.of (by decide) rfl (Nat.le_of_ble_eq_true rfl) ?_
  show zw G cX10_faults kX10_faults 0 0 0 [some (.inr (some (60, 99, 0))), some (.inl (nI p)), none, none] [] Sh P (zl C S X) _
  refine zw_bipush (nI 30) dX10_faults_0 (by decide) ?_
  refine zw_iload_n dX10_faults_2 rfl rfl ?_
  refine zw_imulN dX10_faults_3 ?_
  refine zw_istore_n dX10_faults_4 rfl (by decide) ?_
  dsimp only [List.set]
  refine zw_aload_n dX10_faults_5 rfl rfl ?_
  refine rz_arr hz dX10_faults_6 fX10_53 rfl ?_
  refine zw_iload_n dX10_faults_9 rfl rfl ?_
  refine zw_bipush (nI 9) dX10_faults_10 (by decide) ?_
  refine zw_iaddN dX10_faults_12 ?_
  refine zw_aload_n dX10_faults_13 rfl rfl ?_
  refine rz_intX hz dX10_faults_14 fX10_107 rfl (by decide) ?_
  refine rz_ast (((30 * p) + 9)) hz dX10_faults_17 rfl (by decide) (by show ((30 * p) + 9) < 120; omega) rfl ?_
  refine zw_aload_n dX10_faults_18 rfl rfl ?_
  refine rz_arr hz dX10_faults_19 fX10_53 rfl ?_
  refine zw_iload_n dX10_faults_22 rfl rfl ?_
  refine zw_bipush (nI 10) dX10_faults_23 (by decide) ?_
  refine zw_iaddN dX10_faults_25 ?_
  refine zw_aload_n dX10_faults_26 rfl rfl ?_
  refine rz_intX hz dX10_faults_27 fX10_110 rfl (by decide) ?_
  refine rz_ast (((30 * p) + 10)) hz dX10_faults_30 rfl (by decide) (by show ((30 * p) + 10) < 120; omega) rfl ?_
  refine zw_aload_n dX10_faults_31 rfl rfl ?_
  refine rz_arr hz dX10_faults_32 fX10_53 rfl ?_
  refine zw_iload_n dX10_faults_35 rfl rfl ?_
  refine zw_bipush (nI 11) dX10_faults_36 (by decide) ?_
  refine zw_iaddN dX10_faults_38 ?_
  refine zw_aload_n dX10_faults_39 rfl rfl ?_
  refine rz_intX hz dX10_faults_40 fX10_113 rfl (by decide) ?_
  refine rz_ast (((30 * p) + 11)) hz dX10_faults_43 rfl (by decide) (by show ((30 * p) + 11) < 120; omega) rfl ?_
  refine zw_aload_n dX10_faults_44 rfl rfl ?_
  refine rz_arr hz dX10_faults_45 fX10_53 rfl ?_
  refine zw_iload_n dX10_faults_48 rfl rfl ?_
  refine zw_bipush (nI 12) dX10_faults_49 (by decide) ?_
  refine zw_iaddN dX10_faults_51 ?_
  refine zw_aload_n dX10_faults_52 rfl rfl ?_
  refine rz_intX hz dX10_faults_53 fX10_116 rfl (by decide) ?_
  refine rz_ast (((30 * p) + 12)) hz dX10_faults_56 rfl (by decide) (by show ((30 * p) + 12) < 120; omega) rfl ?_
  refine zw_aload_n dX10_faults_57 rfl rfl ?_
  refine rz_arr hz dX10_faults_58 fX10_53 rfl ?_
  refine zw_iload_n dX10_faults_61 rfl rfl ?_
  refine zw_bipush (nI 14) dX10_faults_62 (by decide) ?_
  refine zw_iaddN dX10_faults_64 ?_
  refine zw_dup2 dX10_faults_65 ?_
  refine rz_ald (((30 * p) + 14)) hz dX10_faults_66 rfl (by decide) (by show ((30 * p) + 14) < 120; omega) rfl ?_
  refine zw_iconst (nI 1) dX10_faults_67 (by decide) ?_
  refine zw_iadd dX10_faults_68 ?_
  refine rz_ast (((30 * p) + 14)) hz dX10_faults_69 rfl (by decide) (by show ((30 * p) + 14) < 120; omega) rfl ?_
  change zw G _ _ _ _ _ _ _ Sh P (zl C (flt1 S p (X 24) (X 25) (X 26) (X 27)) X) _
  refine zw_aload_n dX10_faults_70 rfl rfl ?_
  refine rz_arr hz dX10_faults_71 fX10_53 rfl ?_
  refine zw_iload_n dX10_faults_74 rfl rfl ?_
  refine zw_bipush (nI 19) dX10_faults_75 (by decide) ?_
  refine zw_iaddN dX10_faults_77 ?_
  refine rz_ald (((30 * p) + 19)) hz dX10_faults_78 rfl (by decide) (by show ((30 * p) + 19) < 120; omega) rfl ?_
  refine zw_if_lt 95 dX10_faults_79 (by decide) (fun h79 => ?_) (fun h79 => ?_)
  · refine zw_aload_n dX10_faults_95 rfl rfl ?_
    refine rz_arr hz dX10_faults_96 fX10_53 rfl ?_
    refine zw_iload_n dX10_faults_99 rfl rfl ?_
    refine zw_aload_n dX10_faults_100 rfl rfl ?_
    refine rz_arr hz dX10_faults_101 fX10_53 rfl ?_
    refine zw_iload_n dX10_faults_104 rfl rfl ?_
    refine zw_bipush (nI 19) dX10_faults_105 (by decide) ?_
    refine zw_iaddN dX10_faults_107 ?_
    refine rz_ald (((30 * p) + 19)) hz dX10_faults_108 rfl (by decide) (by show ((30 * p) + 19) < 120; omega) rfl ?_
    refine zw_if_ge 116 dX10_faults_109 (by decide) (fun h109 => ?_) (fun h109 => ?_)
    · first | exact absurd h109 (Int32.not_le.mpr h79) | (refine zw_iconst (nI 4) dX10_faults_116 (by decide) ?_; refine rz_ast (30 * p) hz dX10_faults_117 rfl (by decide) (by show 30 * p < 120; omega) rfl ?_; exact rz_vret dX10_faults_118 rfl ⟨by unfold flt; show _ = (if flt1 S p (X 24) (X 25) (X 26) (X 27) 15 (30 * p + 19) < 0 then _ else _); rw [if_neg h79, if_pos h92], rfl⟩)
    · first | exact absurd (Int32.not_le.mp h109) h79 | (refine zw_iconst (nI 3) dX10_faults_112 (by decide) ?_; refine zw_goto 117 dX10_faults_113 (by decide) ?_; refine rz_ast (30 * p) hz dX10_faults_117 rfl (by decide) (by show 30 * p < 120; omega) rfl ?_; exact rz_vret dX10_faults_118 rfl ⟨by unfold flt; show _ = (if flt1 S p (X 24) (X 25) (X 26) (X 27) 15 (30 * p + 19) < 0 then _ else _); rw [if_pos (Int32.not_le.mp h109)], rfl⟩)
  · refine zw_aload_n dX10_faults_82 rfl rfl ?_
    refine rz_arr hz dX10_faults_83 fX10_53 rfl ?_
    refine zw_iload_n dX10_faults_86 rfl rfl ?_
    refine zw_bipush (nI 15) dX10_faults_87 (by decide) ?_
    refine zw_iaddN dX10_faults_89 ?_
    refine rz_ald (((30 * p) + 15)) hz dX10_faults_90 rfl (by decide) (by show ((30 * p) + 15) < 120; omega) rfl ?_
    refine zw_iconst (nI 1) dX10_faults_91 (by decide) ?_
    refine zw_icmp_ne 119 dX10_faults_92 (by decide) (fun h92 => ?_) (fun h92 => ?_)
    · refine zw.mono (l_flt3 hz _ p hp) ?_
      rintro v Sh2 P2 I2 ⟨S2, X2, e1, e2, e3, e4, e5, e6⟩
      refine ⟨S2, X2, e1, e2, e3, e4, ?_, e6⟩
      rw [e5]
      unfold flt
      show _ = (if flt1 S p (X 24) (X 25) (X 26) (X 27) 15 (30 * p + 19) < 0 then _ else _)
      rw [if_neg h79, if_neg h92]
    · refine zw_aload_n dX10_faults_95 rfl rfl ?_
      refine rz_arr hz dX10_faults_96 fX10_53 rfl ?_
      refine zw_iload_n dX10_faults_99 rfl rfl ?_
      refine zw_aload_n dX10_faults_100 rfl rfl ?_
      refine rz_arr hz dX10_faults_101 fX10_53 rfl ?_
      refine zw_iload_n dX10_faults_104 rfl rfl ?_
      refine zw_bipush (nI 19) dX10_faults_105 (by decide) ?_
      refine zw_iaddN dX10_faults_107 ?_
      refine rz_ald (((30 * p) + 19)) hz dX10_faults_108 rfl (by decide) (by show ((30 * p) + 19) < 120; omega) rfl ?_
      refine zw_if_ge 116 dX10_faults_109 (by decide) (fun h109 => ?_) (fun h109 => ?_)
      · first | exact absurd h109 (Int32.not_le.mpr h79) | (refine zw_iconst (nI 4) dX10_faults_116 (by decide) ?_; refine rz_ast (30 * p) hz dX10_faults_117 rfl (by decide) (by show 30 * p < 120; omega) rfl ?_; exact rz_vret dX10_faults_118 rfl ⟨by unfold flt; show _ = (if flt1 S p (X 24) (X 25) (X 26) (X 27) 15 (30 * p + 19) < 0 then _ else _); rw [if_neg h79, if_pos h92], rfl⟩)
      · first | exact absurd (Int32.not_le.mp h109) h79 | (refine zw_iconst (nI 3) dX10_faults_112 (by decide) ?_; refine zw_goto 117 dX10_faults_113 (by decide) ?_; refine rz_ast (30 * p) hz dX10_faults_117 rfl (by decide) (by show 30 * p < 120; omega) rfl ?_; exact rz_vret dX10_faults_118 rfl ⟨by unfold flt; show _ = (if flt1 S p (X 24) (X 25) (X 26) (X 27) 15 (30 * p + 19) < 0 then _ else _); rw [if_pos (Int32.not_le.mp h109)], rfl⟩)
