set_option maxHeartbeats 4000000 in
set_option maxRecDepth 100000 in
theorem c_works {G : ZG} {Sh : ZS} {P : ZP} {C : ZI} {X : ZX} (hz : zr_sh Sh P) (S : ZT) (p : Nat) (hp : p < 4) (o : Nat) (ho : o = 1 ∨ (3 ≤ o ∧ o ≤ 9)) (x : Int32) : rcv G cX10_works kX10_works Sh P C S X [.inl (nI (30 * p)), .inl (nI o), .inl x] (fun S' X' => S' = wk S p o x ∧ X' = X) := by
  refine zw_C.of (by decide) rfl (Nat.le_of_ble_eq_true rfl) ?_
  show zw G cX10_works kX10_works 0 0 0 [some (.inr (some (60, 99, 0))), some (.inl (nI (30 * p))), some (.inl (nI o)), some (.inl x), none] [] Sh P (zl C S X) _
  refine zw_aload_n dX10_works_0 rfl rfl ?_
  refine rz_arr hz dX10_works_1 fX10_53 rfl ?_
  refine zw_iload_n dX10_works_4 rfl rfl ?_
  refine zw_iconst (nI 4) dX10_works_5 (by decide) ?_
  refine zw_iaddN dX10_works_6 ?_
  refine rz_ald (((30 * p) + 4)) hz dX10_works_7 rfl (by decide) (by show ((30 * p) + 4) < 120; omega) rfl ?_
  refine zw_istore dX10_works_8 (by decide) ?_
  dsimp only [List.set]
  refine zw_iload_n dX10_works_10 rfl rfl ?_
  rcases (show o = 1 ∨ o = 3 ∨ o = 4 ∨ o = 5 ∨ o = 6 ∨ o = 7 ∨ o = 8 ∨ o = 9 by omega) with e11 | e11 | e11 | e11 | e11 | e11 | e11 | e11
  · refine zw_top (y := nI 1) (congrArg nI e11) ?_
    refine zw_tabIn 56 dX10_works_11 (by decide) (by decide) rfl (by decide) ?_
    refine zw_aload_n dX10_works_56 rfl rfl ?_
    refine rz_arr hz dX10_works_57 fX10_53 rfl ?_
    refine zw_iload_n dX10_works_60 rfl rfl ?_
    refine zw_iconst (nI 4) dX10_works_61 (by decide) ?_
    refine zw_iaddN dX10_works_62 ?_
    refine zw_iload_n dX10_works_63 rfl rfl ?_
    refine rz_ast (((30 * p) + 4)) hz dX10_works_64 rfl (by decide) (by show ((30 * p) + 4) < 120; omega) rfl ?_
    refine zw_goto 188 dX10_works_65 (by decide) ?_
    first | exact rz_vret dX10_works_188 rfl ⟨by subst e11; rfl, rfl⟩ | exact rz_vret dX10_works_188 rfl ⟨by subst e11; unfold wk cmp; rw [if_pos rfl, if_neg h169], rfl⟩ | exact rz_vret dX10_works_188 rfl ⟨by subst e11; unfold wk cmp; rw [if_pos rfl, if_pos h169, if_pos h179], rfl⟩ | exact rz_vret dX10_works_188 rfl ⟨by subst e11; unfold wk cmp; rw [if_pos rfl, if_pos h169, if_neg h179], rfl⟩
  · refine zw_top (y := nI 3) (congrArg nI e11) ?_
    refine zw_tabIn 68 dX10_works_11 (by decide) (by decide) rfl (by decide) ?_
    refine zw_aload_n dX10_works_68 rfl rfl ?_
    refine rz_arr hz dX10_works_69 fX10_53 rfl ?_
    refine zw_iload_n dX10_works_72 rfl rfl ?_
    refine zw_iconst (nI 4) dX10_works_73 (by decide) ?_
    refine zw_iaddN dX10_works_74 ?_
    refine zw_iload dX10_works_75 rfl ?_
    refine zw_iload_n dX10_works_77 rfl rfl ?_
    refine zw_iadd dX10_works_78 ?_
    refine rz_ast (((30 * p) + 4)) hz dX10_works_79 rfl (by decide) (by show ((30 * p) + 4) < 120; omega) rfl ?_
    refine zw_goto 188 dX10_works_80 (by decide) ?_
    first | exact rz_vret dX10_works_188 rfl ⟨by subst e11; rfl, rfl⟩ | exact rz_vret dX10_works_188 rfl ⟨by subst e11; unfold wk cmp; rw [if_pos rfl, if_neg h169], rfl⟩ | exact rz_vret dX10_works_188 rfl ⟨by subst e11; unfold wk cmp; rw [if_pos rfl, if_pos h169, if_pos h179], rfl⟩ | exact rz_vret dX10_works_188 rfl ⟨by subst e11; unfold wk cmp; rw [if_pos rfl, if_pos h169, if_neg h179], rfl⟩
  · refine zw_top (y := nI 4) (congrArg nI e11) ?_
    refine zw_tabIn 83 dX10_works_11 (by decide) (by decide) rfl (by decide) ?_
    refine zw_aload_n dX10_works_83 rfl rfl ?_
    refine rz_arr hz dX10_works_84 fX10_53 rfl ?_
    refine zw_iload_n dX10_works_87 rfl rfl ?_
    refine zw_iconst (nI 4) dX10_works_88 (by decide) ?_
    refine zw_iaddN dX10_works_89 ?_
    refine zw_iload dX10_works_90 rfl ?_
    refine zw_iload_n dX10_works_92 rfl rfl ?_
    refine zw_isub dX10_works_93 ?_
    refine rz_ast (((30 * p) + 4)) hz dX10_works_94 rfl (by decide) (by show ((30 * p) + 4) < 120; omega) rfl ?_
    refine zw_goto 188 dX10_works_95 (by decide) ?_
    first | exact rz_vret dX10_works_188 rfl ⟨by subst e11; rfl, rfl⟩ | exact rz_vret dX10_works_188 rfl ⟨by subst e11; unfold wk cmp; rw [if_pos rfl, if_neg h169], rfl⟩ | exact rz_vret dX10_works_188 rfl ⟨by subst e11; unfold wk cmp; rw [if_pos rfl, if_pos h169, if_pos h179], rfl⟩ | exact rz_vret dX10_works_188 rfl ⟨by subst e11; unfold wk cmp; rw [if_pos rfl, if_pos h169, if_neg h179], rfl⟩
  · refine zw_top (y := nI 5) (congrArg nI e11) ?_
    refine zw_tabIn 98 dX10_works_11 (by decide) (by decide) rfl (by decide) ?_
    refine zw_aload_n dX10_works_98 rfl rfl ?_
    refine rz_arr hz dX10_works_99 fX10_53 rfl ?_
    refine zw_iload_n dX10_works_102 rfl rfl ?_
    refine zw_iconst (nI 4) dX10_works_103 (by decide) ?_
    refine zw_iaddN dX10_works_104 ?_
    refine zw_iload dX10_works_105 rfl ?_
    refine zw_iload_n dX10_works_107 rfl rfl ?_
    refine zw_imul dX10_works_108 ?_
    refine rz_ast (((30 * p) + 4)) hz dX10_works_109 rfl (by decide) (by show ((30 * p) + 4) < 120; omega) rfl ?_
    refine zw_goto 188 dX10_works_110 (by decide) ?_
    first | exact rz_vret dX10_works_188 rfl ⟨by subst e11; rfl, rfl⟩ | exact rz_vret dX10_works_188 rfl ⟨by subst e11; unfold wk cmp; rw [if_pos rfl, if_neg h169], rfl⟩ | exact rz_vret dX10_works_188 rfl ⟨by subst e11; unfold wk cmp; rw [if_pos rfl, if_pos h169, if_pos h179], rfl⟩ | exact rz_vret dX10_works_188 rfl ⟨by subst e11; unfold wk cmp; rw [if_pos rfl, if_pos h169, if_neg h179], rfl⟩
  · refine zw_top (y := nI 6) (congrArg nI e11) ?_
    refine zw_tabIn 113 dX10_works_11 (by decide) (by decide) rfl (by decide) ?_
    refine zw_aload_n dX10_works_113 rfl rfl ?_
    refine rz_arr hz dX10_works_114 fX10_53 rfl ?_
    refine zw_iload_n dX10_works_117 rfl rfl ?_
    refine zw_iconst (nI 4) dX10_works_118 (by decide) ?_
    refine zw_iaddN dX10_works_119 ?_
    refine zw_iload dX10_works_120 rfl ?_
    refine zw_iload_n dX10_works_122 rfl rfl ?_
    refine zw_iand dX10_works_123 ?_
    refine rz_ast (((30 * p) + 4)) hz dX10_works_124 rfl (by decide) (by show ((30 * p) + 4) < 120; omega) rfl ?_
    refine zw_goto 188 dX10_works_125 (by decide) ?_
    first | exact rz_vret dX10_works_188 rfl ⟨by subst e11; rfl, rfl⟩ | exact rz_vret dX10_works_188 rfl ⟨by subst e11; unfold wk cmp; rw [if_pos rfl, if_neg h169], rfl⟩ | exact rz_vret dX10_works_188 rfl ⟨by subst e11; unfold wk cmp; rw [if_pos rfl, if_pos h169, if_pos h179], rfl⟩ | exact rz_vret dX10_works_188 rfl ⟨by subst e11; unfold wk cmp; rw [if_pos rfl, if_pos h169, if_neg h179], rfl⟩
  · refine zw_top (y := nI 7) (congrArg nI e11) ?_
    refine zw_tabIn 128 dX10_works_11 (by decide) (by decide) rfl (by decide) ?_
    refine zw_aload_n dX10_works_128 rfl rfl ?_
    refine rz_arr hz dX10_works_129 fX10_53 rfl ?_
    refine zw_iload_n dX10_works_132 rfl rfl ?_
    refine zw_iconst (nI 4) dX10_works_133 (by decide) ?_
    refine zw_iaddN dX10_works_134 ?_
    refine zw_iload dX10_works_135 rfl ?_
    refine zw_iload_n dX10_works_137 rfl rfl ?_
    refine zw_ior dX10_works_138 ?_
    refine rz_ast (((30 * p) + 4)) hz dX10_works_139 rfl (by decide) (by show ((30 * p) + 4) < 120; omega) rfl ?_
    refine zw_goto 188 dX10_works_140 (by decide) ?_
    first | exact rz_vret dX10_works_188 rfl ⟨by subst e11; rfl, rfl⟩ | exact rz_vret dX10_works_188 rfl ⟨by subst e11; unfold wk cmp; rw [if_pos rfl, if_neg h169], rfl⟩ | exact rz_vret dX10_works_188 rfl ⟨by subst e11; unfold wk cmp; rw [if_pos rfl, if_pos h169, if_pos h179], rfl⟩ | exact rz_vret dX10_works_188 rfl ⟨by subst e11; unfold wk cmp; rw [if_pos rfl, if_pos h169, if_neg h179], rfl⟩
  · refine zw_top (y := nI 8) (congrArg nI e11) ?_
    refine zw_tabIn 143 dX10_works_11 (by decide) (by decide) rfl (by decide) ?_
    refine zw_aload_n dX10_works_143 rfl rfl ?_
    refine rz_arr hz dX10_works_144 fX10_53 rfl ?_
    refine zw_iload_n dX10_works_147 rfl rfl ?_
    refine zw_iconst (nI 4) dX10_works_148 (by decide) ?_
    refine zw_iaddN dX10_works_149 ?_
    refine zw_iload dX10_works_150 rfl ?_
    refine zw_iload_n dX10_works_152 rfl rfl ?_
    refine zw_ixor dX10_works_153 ?_
    refine rz_ast (((30 * p) + 4)) hz dX10_works_154 rfl (by decide) (by show ((30 * p) + 4) < 120; omega) rfl ?_
    refine zw_goto 188 dX10_works_155 (by decide) ?_
    first | exact rz_vret dX10_works_188 rfl ⟨by subst e11; rfl, rfl⟩ | exact rz_vret dX10_works_188 rfl ⟨by subst e11; unfold wk cmp; rw [if_pos rfl, if_neg h169], rfl⟩ | exact rz_vret dX10_works_188 rfl ⟨by subst e11; unfold wk cmp; rw [if_pos rfl, if_pos h169, if_pos h179], rfl⟩ | exact rz_vret dX10_works_188 rfl ⟨by subst e11; unfold wk cmp; rw [if_pos rfl, if_pos h169, if_neg h179], rfl⟩
  · refine zw_top (y := nI 9) (congrArg nI e11) ?_
    refine zw_tabOut 158 dX10_works_11 (by decide) (by decide) ?_
    refine zw_aload_n dX10_works_158 rfl rfl ?_
    refine rz_arr hz dX10_works_159 fX10_53 rfl ?_
    refine zw_iload_n dX10_works_162 rfl rfl ?_
    refine zw_bipush (nI 8) dX10_works_163 (by decide) ?_
    refine zw_iaddN dX10_works_165 ?_
    refine zw_iload dX10_works_166 rfl ?_
    refine zw_iload_n dX10_works_168 rfl rfl ?_
    refine zw_icmp_ge 176 dX10_works_169 (by decide) (fun h169 => ?_) (fun h169 => ?_)
    · refine zw_iload dX10_works_176 rfl ?_
      refine zw_iload_n dX10_works_178 rfl rfl ?_
      refine zw_icmp_ne 186 dX10_works_179 (by decide) (fun h179 => ?_) (fun h179 => ?_)
      · refine zw_iconst (nI 1) dX10_works_186 (by decide) ?_
        refine rz_ast (((30 * p) + 8)) hz dX10_works_187 rfl (by decide) (by show ((30 * p) + 8) < 120; omega) rfl ?_
        first | exact rz_vret dX10_works_188 rfl ⟨by subst e11; rfl, rfl⟩ | exact rz_vret dX10_works_188 rfl ⟨by subst e11; unfold wk cmp; rw [if_pos rfl, if_neg h169], rfl⟩ | exact rz_vret dX10_works_188 rfl ⟨by subst e11; unfold wk cmp; rw [if_pos rfl, if_pos h169, if_pos h179], rfl⟩ | exact rz_vret dX10_works_188 rfl ⟨by subst e11; unfold wk cmp; rw [if_pos rfl, if_pos h169, if_neg h179], rfl⟩
      · refine zw_iconst (nI 0) dX10_works_182 (by decide) ?_
        refine zw_goto 187 dX10_works_183 (by decide) ?_
        refine rz_ast (((30 * p) + 8)) hz dX10_works_187 rfl (by decide) (by show ((30 * p) + 8) < 120; omega) rfl ?_
        first | exact rz_vret dX10_works_188 rfl ⟨by subst e11; rfl, rfl⟩ | exact rz_vret dX10_works_188 rfl ⟨by subst e11; unfold wk cmp; rw [if_pos rfl, if_neg h169], rfl⟩ | exact rz_vret dX10_works_188 rfl ⟨by subst e11; unfold wk cmp; rw [if_pos rfl, if_pos h169, if_pos h179], rfl⟩ | exact rz_vret dX10_works_188 rfl ⟨by subst e11; unfold wk cmp; rw [if_pos rfl, if_pos h169, if_neg h179], rfl⟩
    · refine zw_iconst (-1) dX10_works_172 (by decide) ?_
      refine zw_goto 187 dX10_works_173 (by decide) ?_
      refine rz_ast (((30 * p) + 8)) hz dX10_works_187 rfl (by decide) (by show ((30 * p) + 8) < 120; omega) rfl ?_
      first | exact rz_vret dX10_works_188 rfl ⟨by subst e11; rfl, rfl⟩ | exact rz_vret dX10_works_188 rfl ⟨by subst e11; unfold wk cmp; rw [if_pos rfl, if_neg h169], rfl⟩ | exact rz_vret dX10_works_188 rfl ⟨by subst e11; unfold wk cmp; rw [if_pos rfl, if_pos h169, if_pos h179], rfl⟩ | exact rz_vret dX10_works_188 rfl ⟨by subst e11; unfold wk cmp; rw [if_pos rfl, if_pos h169, if_neg h179], rfl⟩
set_option maxHeartbeats 4000000 in
set_option maxRecDepth 100000 in
theorem l_jumps {G : ZG} {Sh : ZS} {P : ZP} {C : ZI} {X : ZX} (hz : zr_sh Sh P) (S : ZT) (p : Nat) (hp : p < 4) (hk : kOK S p) (hs : sOK S) (o : Nat) (ho : 10 ≤ o ∧ o ≤ 14) (ring w : Int32) : zw G cX10_jumps kX10_jumps 0 0 73 [some (.inr (some (60, 99, 0))), some (.inl (nI p)), some (.inl (nI o)), some (.inl ring), some (.inl w), some (.inl (S 15 (30 * p + 8))), some (.inl (zb (gsb o (S 15 (30 * p + 8)) = true)))] [] Sh P (zl C S X) (rq C Sh P (oc (jmp S p o ring w (X 28) (X 29) (X 30)))) := by
  refine zw_iload dX10_jumps_73 rfl ?_
  refine zw_if_ne 95 dX10_jumps_75 (by decide) (fun h75 => ?_) (fun h75 => ?_)
  · have g75 := zb_ne h75
    refine zw_aload_n dX10_jumps_95 rfl rfl ?_
    refine zw_iload_n dX10_jumps_96 rfl rfl ?_
    refine zw_aload_n dX10_jumps_97 rfl rfl ?_
    refine rz_intX hz dX10_jumps_98 fX10_139 rfl (by decide) ?_
    refine zw_aload_n dX10_jumps_101 rfl rfl ?_
    refine rz_intX hz dX10_jumps_102 fX10_133 rfl (by decide) ?_
    refine zw_aload_n dX10_jumps_105 rfl rfl ?_
    refine rz_intX hz dX10_jumps_106 fX10_136 rfl (by decide) ?_
    refine zw_iconst (nI 2) dX10_jumps_109 (by decide) ?_
    refine rz_can hz dX10_jumps_110 eX10_jumps_110 (c_can hz S p hp hk hs _ _ _ 2 (by omega)) rfl rfl (Nat.le_of_ble_eq_true rfl) 118 dX10_jumps_113 (by decide) (fun k110 => ?_) (fun k110 => ?_)
    · refine zw_aload_n dX10_jumps_118 rfl rfl ?_
      refine rz_intX hz dX10_jumps_119 fX10_139 rfl (by decide) ?_
      refine zw_iload_n dX10_jumps_122 rfl rfl ?_
      refine zw_icmp_eq 145 dX10_jumps_123 (by decide) (fun h123 => ?_) (fun h123 => ?_)
      · refine zw_aload_n dX10_jumps_145 rfl rfl ?_
        refine zw_iload_n dX10_jumps_146 rfl rfl ?_
        refine zw_iload_n dX10_jumps_147 rfl rfl ?_
        refine zw_aload_n dX10_jumps_148 rfl rfl ?_
        refine rz_intX hz dX10_jumps_149 fX10_133 rfl (by decide) ?_
        refine zw_aload_n dX10_jumps_152 rfl rfl ?_
        refine rz_intX hz dX10_jumps_153 fX10_136 rfl (by decide) ?_
        refine rz_callT hz dX10_jumps_156 eX10_jumps_156 (c_goes hz S p hp _ _ _) rfl rfl (Nat.le_of_ble_eq_true rfl) ?_
        refine zw_iconst (nI 1) dX10_jumps_159 (by decide) ?_
        exact rz_zret dX10_jumps_160 rfl rfl (by unfold jmp; rw [if_pos g75, if_pos k110, if_pos h123]; exact oc_ok)
      · refine zw_aload_n dX10_jumps_126 rfl rfl ?_
        refine zw_bipush (nI 9) dX10_jumps_127 (by decide) ?_
        refine zw_aload_n dX10_jumps_129 rfl rfl ?_
        refine rz_intX hz dX10_jumps_130 fX10_139 rfl (by decide) ?_
        refine zw_aload_n dX10_jumps_133 rfl rfl ?_
        refine rz_intX hz dX10_jumps_134 fX10_133 rfl (by decide) ?_
        refine zw_aload_n dX10_jumps_137 rfl rfl ?_
        refine rz_intX hz dX10_jumps_138 fX10_136 rfl (by decide) ?_
        refine rz_callX hz dX10_jumps_141 eX10_jumps_141 (c_fails hz S _ _ _ _) rfl rfl (Nat.le_of_ble_eq_true rfl) (fun x141 X141 q141 => ?_)
        exact rz_zret dX10_jumps_144 rfl (by rw [q141.1]; rfl) (by unfold jmp; rw [if_pos g75, if_pos k110, if_neg h123]; exact oc_no' (by decide) q141.1 rfl q141.2)
    · refine zw_iconst (nI 0) dX10_jumps_116 (by decide) ?_
      exact rz_zret dX10_jumps_117 rfl rfl (by unfold jmp; rw [if_pos g75, if_neg k110]; exact oc_no k110)
  · have g75 := zb_eq h75
    refine zw_aload_n dX10_jumps_78 rfl rfl ?_
    refine rz_arr hz dX10_jumps_79 fX10_53 rfl ?_
    refine zw_bipush (nI 30) dX10_jumps_82 (by decide) ?_
    refine zw_iload_n dX10_jumps_84 rfl rfl ?_
    refine zw_imulN dX10_jumps_85 ?_
    refine zw_iconst (nI 3) dX10_jumps_86 (by decide) ?_
    refine zw_iaddN dX10_jumps_87 ?_
    refine zw_iload dX10_jumps_88 rfl ?_
    refine zw_iconst (nI 1) dX10_jumps_90 (by decide) ?_
    refine zw_iadd dX10_jumps_91 ?_
    refine rz_ast (((30 * p) + 3)) hz dX10_jumps_92 rfl (by decide) (by show ((30 * p) + 3) < 120; omega) rfl ?_
    refine zw_iconst (nI 1) dX10_jumps_93 (by decide) ?_
    exact rz_zret dX10_jumps_94 rfl rfl (by unfold jmp; rw [if_neg g75]; exact oc_ok)
set_option maxHeartbeats 4000000 in
set_option maxRecDepth 100000 in
theorem c_jumps {G : ZG} {Sh : ZS} {P : ZP} {C : ZI} {X : ZX} (hz : zr_sh Sh P) (S : ZT) (p : Nat) (hp : p < 4) (hk : kOK S p) (hs : sOK S) (o : Nat) (ho : 10 ≤ o ∧ o ≤ 14) (ring w : Int32) : rc G cX10_jumps kX10_jumps Sh P C S X [.inl (nI p), .inl (nI o), .inl ring, .inl w] (oc (jmp S p o ring w (X 28) (X 29) (X 30))) := by
  refine zw_C.of (by decide) rfl (Nat.le_of_ble_eq_true rfl) ?_
  show zw G cX10_jumps kX10_jumps 0 0 0 [some (.inr (some (60, 99, 0))), some (.inl (nI p)), some (.inl (nI o)), some (.inl ring), some (.inl w), none, none] [] Sh P (zl C S X) _
  refine zw_aload_n dX10_jumps_0 rfl rfl ?_
  refine rz_arr hz dX10_jumps_1 fX10_53 rfl ?_
  refine zw_bipush (nI 30) dX10_jumps_4 (by decide) ?_
  refine zw_iload_n dX10_jumps_6 rfl rfl ?_
  refine zw_imulN dX10_jumps_7 ?_
  refine zw_bipush (nI 8) dX10_jumps_8 (by decide) ?_
  refine zw_iaddN dX10_jumps_10 ?_
  refine rz_ald (((30 * p) + 8)) hz dX10_jumps_11 rfl (by decide) (by show ((30 * p) + 8) < 120; omega) rfl ?_
  refine zw_istore dX10_jumps_12 (by decide) ?_
  dsimp only [List.set]
  refine zw_iload_n dX10_jumps_14 rfl rfl ?_
  refine zw_bipush (nI 10) dX10_jumps_15 (by decide) ?_
  refine zw_icmp_eq 66 dX10_jumps_17 (by decide) (fun h17 => ?_) (fun h17 => ?_)
  · have g17 : o = 10 := (nI_eq (by omega) (by omega)).mp h17
    refine zw_iconst (nI 1) dX10_jumps_66 (by decide) ?_
    refine zw_goto 71 dX10_jumps_67 (by decide) ?_
    refine zw_top (y := zb (gsb o (S 15 (30 * p + 8)) = true)) (by first | exact (zb_t (decide_eq_true (Or.inl (by omega)))).symm | exact (zb_t (decide_eq_true (Or.inr (Or.inl ⟨by omega, by assumption⟩)))).symm | exact (zb_t (decide_eq_true (Or.inr (Or.inr (Or.inl ⟨by omega, by assumption⟩))))).symm | exact (zb_t (decide_eq_true (Or.inr (Or.inr (Or.inr (Or.inl ⟨by omega, by assumption⟩)))))).symm | exact (zb_t (decide_eq_true (Or.inr (Or.inr (Or.inr (Or.inr ⟨by omega, by assumption⟩)))))).symm | exact (zb_f (fun z => by rcases of_decide_eq_true z with k | ⟨k, k1⟩ | ⟨k, k1⟩ | ⟨k, k1⟩ | ⟨k, k1⟩ <;> first | omega | contradiction)).symm) ?_
    refine zw_istore dX10_jumps_71 (by decide) ?_
    exact l_jumps hz S p hp hk hs o ho ring w
  · have g17 : ¬ (o = 10) := fun z => h17 ((nI_eq (by omega) (by omega)).mpr z)
    refine zw_iload_n dX10_jumps_20 rfl rfl ?_
    refine zw_bipush (nI 11) dX10_jumps_21 (by decide) ?_
    refine zw_icmp_ne 31 dX10_jumps_23 (by decide) (fun h23 => ?_) (fun h23 => ?_)
    · have g23 : ¬ (o = 11) := fun z => h23 ((nI_eq (by omega) (by omega)).mpr z)
      refine zw_iload_n dX10_jumps_31 rfl rfl ?_
      refine zw_bipush (nI 12) dX10_jumps_32 (by decide) ?_
      refine zw_icmp_ne 42 dX10_jumps_34 (by decide) (fun h34 => ?_) (fun h34 => ?_)
      · have g34 : ¬ (o = 12) := fun z => h34 ((nI_eq (by omega) (by omega)).mpr z)
        refine zw_iload_n dX10_jumps_42 rfl rfl ?_
        refine zw_bipush (nI 13) dX10_jumps_43 (by decide) ?_
        refine zw_icmp_ne 54 dX10_jumps_45 (by decide) (fun h45 => ?_) (fun h45 => ?_)
        · have g45 : ¬ (o = 13) := fun z => h45 ((nI_eq (by omega) (by omega)).mpr z)
          refine zw_iload_n dX10_jumps_54 rfl rfl ?_
          refine zw_bipush (nI 14) dX10_jumps_55 (by decide) ?_
          refine zw_icmp_ne 70 dX10_jumps_57 (by decide) (fun h57 => ?_) (fun h57 => ?_)
          · have g57 : ¬ (o = 14) := fun z => h57 ((nI_eq (by omega) (by omega)).mpr z)
            refine zw_iconst (nI 0) dX10_jumps_70 (by decide) ?_
            refine zw_top (y := zb (gsb o (S 15 (30 * p + 8)) = true)) (by first | exact (zb_t (decide_eq_true (Or.inl (by omega)))).symm | exact (zb_t (decide_eq_true (Or.inr (Or.inl ⟨by omega, by assumption⟩)))).symm | exact (zb_t (decide_eq_true (Or.inr (Or.inr (Or.inl ⟨by omega, by assumption⟩))))).symm | exact (zb_t (decide_eq_true (Or.inr (Or.inr (Or.inr (Or.inl ⟨by omega, by assumption⟩)))))).symm | exact (zb_t (decide_eq_true (Or.inr (Or.inr (Or.inr (Or.inr ⟨by omega, by assumption⟩)))))).symm | exact (zb_f (fun z => by rcases of_decide_eq_true z with k | ⟨k, k1⟩ | ⟨k, k1⟩ | ⟨k, k1⟩ | ⟨k, k1⟩ <;> first | omega | contradiction)).symm) ?_
            refine zw_istore dX10_jumps_71 (by decide) ?_
            exact l_jumps hz S p hp hk hs o ho ring w
          · have g57 : o = 14 := (nI_eq (by omega) (by omega)).mp h57
            refine zw_iload dX10_jumps_60 rfl ?_
            refine zw_iconst (-1) dX10_jumps_62 (by decide) ?_
            refine zw_icmp_eq 70 dX10_jumps_63 (by decide) (fun h63 => ?_) (fun h63 => ?_)
            · refine zw_iconst (nI 0) dX10_jumps_70 (by decide) ?_
              refine zw_top (y := zb (gsb o (S 15 (30 * p + 8)) = true)) (by first | exact (zb_t (decide_eq_true (Or.inl (by omega)))).symm | exact (zb_t (decide_eq_true (Or.inr (Or.inl ⟨by omega, by assumption⟩)))).symm | exact (zb_t (decide_eq_true (Or.inr (Or.inr (Or.inl ⟨by omega, by assumption⟩))))).symm | exact (zb_t (decide_eq_true (Or.inr (Or.inr (Or.inr (Or.inl ⟨by omega, by assumption⟩)))))).symm | exact (zb_t (decide_eq_true (Or.inr (Or.inr (Or.inr (Or.inr ⟨by omega, by assumption⟩)))))).symm | exact (zb_f (fun z => by rcases of_decide_eq_true z with k | ⟨k, k1⟩ | ⟨k, k1⟩ | ⟨k, k1⟩ | ⟨k, k1⟩ <;> first | omega | contradiction)).symm) ?_
              refine zw_istore dX10_jumps_71 (by decide) ?_
              exact l_jumps hz S p hp hk hs o ho ring w
            · refine zw_iconst (nI 1) dX10_jumps_66 (by decide) ?_
              refine zw_goto 71 dX10_jumps_67 (by decide) ?_
              refine zw_top (y := zb (gsb o (S 15 (30 * p + 8)) = true)) (by first | exact (zb_t (decide_eq_true (Or.inl (by omega)))).symm | exact (zb_t (decide_eq_true (Or.inr (Or.inl ⟨by omega, by assumption⟩)))).symm | exact (zb_t (decide_eq_true (Or.inr (Or.inr (Or.inl ⟨by omega, by assumption⟩))))).symm | exact (zb_t (decide_eq_true (Or.inr (Or.inr (Or.inr (Or.inl ⟨by omega, by assumption⟩)))))).symm | exact (zb_t (decide_eq_true (Or.inr (Or.inr (Or.inr (Or.inr ⟨by omega, by assumption⟩)))))).symm | exact (zb_f (fun z => by rcases of_decide_eq_true z with k | ⟨k, k1⟩ | ⟨k, k1⟩ | ⟨k, k1⟩ | ⟨k, k1⟩ <;> first | omega | contradiction)).symm) ?_
              refine zw_istore dX10_jumps_71 (by decide) ?_
              exact l_jumps hz S p hp hk hs o ho ring w
        · have g45 : o = 13 := (nI_eq (by omega) (by omega)).mp h45
          refine zw_iload dX10_jumps_48 rfl ?_
          refine zw_iconst (-1) dX10_jumps_50 (by decide) ?_
          refine zw_icmp_eq 66 dX10_jumps_51 (by decide) (fun h51 => ?_) (fun h51 => ?_)
          · refine zw_iconst (nI 1) dX10_jumps_66 (by decide) ?_
            refine zw_goto 71 dX10_jumps_67 (by decide) ?_
            refine zw_top (y := zb (gsb o (S 15 (30 * p + 8)) = true)) (by first | exact (zb_t (decide_eq_true (Or.inl (by omega)))).symm | exact (zb_t (decide_eq_true (Or.inr (Or.inl ⟨by omega, by assumption⟩)))).symm | exact (zb_t (decide_eq_true (Or.inr (Or.inr (Or.inl ⟨by omega, by assumption⟩))))).symm | exact (zb_t (decide_eq_true (Or.inr (Or.inr (Or.inr (Or.inl ⟨by omega, by assumption⟩)))))).symm | exact (zb_t (decide_eq_true (Or.inr (Or.inr (Or.inr (Or.inr ⟨by omega, by assumption⟩)))))).symm | exact (zb_f (fun z => by rcases of_decide_eq_true z with k | ⟨k, k1⟩ | ⟨k, k1⟩ | ⟨k, k1⟩ | ⟨k, k1⟩ <;> first | omega | contradiction)).symm) ?_
            refine zw_istore dX10_jumps_71 (by decide) ?_
            exact l_jumps hz S p hp hk hs o ho ring w
          · refine zw_iload_n dX10_jumps_54 rfl rfl ?_
            refine zw_bipush (nI 14) dX10_jumps_55 (by decide) ?_
            refine zw_icmp_ne 70 dX10_jumps_57 (by decide) (fun h57 => ?_) (fun h57 => ?_)
            · have g57 : ¬ (o = 14) := fun z => h57 ((nI_eq (by omega) (by omega)).mpr z)
              refine zw_iconst (nI 0) dX10_jumps_70 (by decide) ?_
              refine zw_top (y := zb (gsb o (S 15 (30 * p + 8)) = true)) (by first | exact (zb_t (decide_eq_true (Or.inl (by omega)))).symm | exact (zb_t (decide_eq_true (Or.inr (Or.inl ⟨by omega, by assumption⟩)))).symm | exact (zb_t (decide_eq_true (Or.inr (Or.inr (Or.inl ⟨by omega, by assumption⟩))))).symm | exact (zb_t (decide_eq_true (Or.inr (Or.inr (Or.inr (Or.inl ⟨by omega, by assumption⟩)))))).symm | exact (zb_t (decide_eq_true (Or.inr (Or.inr (Or.inr (Or.inr ⟨by omega, by assumption⟩)))))).symm | exact (zb_f (fun z => by rcases of_decide_eq_true z with k | ⟨k, k1⟩ | ⟨k, k1⟩ | ⟨k, k1⟩ | ⟨k, k1⟩ <;> first | omega | contradiction)).symm) ?_
              refine zw_istore dX10_jumps_71 (by decide) ?_
              exact l_jumps hz S p hp hk hs o ho ring w
            · have g57 : o = 14 := (nI_eq (by omega) (by omega)).mp h57
              refine zw_iload dX10_jumps_60 rfl ?_
              refine zw_iconst (-1) dX10_jumps_62 (by decide) ?_
              refine zw_icmp_eq 70 dX10_jumps_63 (by decide) (fun h63 => ?_) (fun h63 => ?_)
              · refine zw_iconst (nI 0) dX10_jumps_70 (by decide) ?_
                refine zw_top (y := zb (gsb o (S 15 (30 * p + 8)) = true)) (by first | exact (zb_t (decide_eq_true (Or.inl (by omega)))).symm | exact (zb_t (decide_eq_true (Or.inr (Or.inl ⟨by omega, by assumption⟩)))).symm | exact (zb_t (decide_eq_true (Or.inr (Or.inr (Or.inl ⟨by omega, by assumption⟩))))).symm | exact (zb_t (decide_eq_true (Or.inr (Or.inr (Or.inr (Or.inl ⟨by omega, by assumption⟩)))))).symm | exact (zb_t (decide_eq_true (Or.inr (Or.inr (Or.inr (Or.inr ⟨by omega, by assumption⟩)))))).symm | exact (zb_f (fun z => by rcases of_decide_eq_true z with k | ⟨k, k1⟩ | ⟨k, k1⟩ | ⟨k, k1⟩ | ⟨k, k1⟩ <;> first | omega | contradiction)).symm) ?_
                refine zw_istore dX10_jumps_71 (by decide) ?_
                exact l_jumps hz S p hp hk hs o ho ring w
              · refine zw_iconst (nI 1) dX10_jumps_66 (by decide) ?_
                refine zw_goto 71 dX10_jumps_67 (by decide) ?_
                refine zw_top (y := zb (gsb o (S 15 (30 * p + 8)) = true)) (by first | exact (zb_t (decide_eq_true (Or.inl (by omega)))).symm | exact (zb_t (decide_eq_true (Or.inr (Or.inl ⟨by omega, by assumption⟩)))).symm | exact (zb_t (decide_eq_true (Or.inr (Or.inr (Or.inl ⟨by omega, by assumption⟩))))).symm | exact (zb_t (decide_eq_true (Or.inr (Or.inr (Or.inr (Or.inl ⟨by omega, by assumption⟩)))))).symm | exact (zb_t (decide_eq_true (Or.inr (Or.inr (Or.inr (Or.inr ⟨by omega, by assumption⟩)))))).symm | exact (zb_f (fun z => by rcases of_decide_eq_true z with k | ⟨k, k1⟩ | ⟨k, k1⟩ | ⟨k, k1⟩ | ⟨k, k1⟩ <;> first | omega | contradiction)).symm) ?_
                refine zw_istore dX10_jumps_71 (by decide) ?_
                exact l_jumps hz S p hp hk hs o ho ring w
      · have g34 : o = 12 := (nI_eq (by omega) (by omega)).mp h34
        refine zw_iload dX10_jumps_37 rfl ?_
        refine zw_if_ne 66 dX10_jumps_39 (by decide) (fun h39 => ?_) (fun h39 => ?_)
        · refine zw_iconst (nI 1) dX10_jumps_66 (by decide) ?_
          refine zw_goto 71 dX10_jumps_67 (by decide) ?_
          refine zw_top (y := zb (gsb o (S 15 (30 * p + 8)) = true)) (by first | exact (zb_t (decide_eq_true (Or.inl (by omega)))).symm | exact (zb_t (decide_eq_true (Or.inr (Or.inl ⟨by omega, by assumption⟩)))).symm | exact (zb_t (decide_eq_true (Or.inr (Or.inr (Or.inl ⟨by omega, by assumption⟩))))).symm | exact (zb_t (decide_eq_true (Or.inr (Or.inr (Or.inr (Or.inl ⟨by omega, by assumption⟩)))))).symm | exact (zb_t (decide_eq_true (Or.inr (Or.inr (Or.inr (Or.inr ⟨by omega, by assumption⟩)))))).symm | exact (zb_f (fun z => by rcases of_decide_eq_true z with k | ⟨k, k1⟩ | ⟨k, k1⟩ | ⟨k, k1⟩ | ⟨k, k1⟩ <;> first | omega | contradiction)).symm) ?_
          refine zw_istore dX10_jumps_71 (by decide) ?_
          exact l_jumps hz S p hp hk hs o ho ring w
        · refine zw_iload_n dX10_jumps_42 rfl rfl ?_
          refine zw_bipush (nI 13) dX10_jumps_43 (by decide) ?_
          refine zw_icmp_ne 54 dX10_jumps_45 (by decide) (fun h45 => ?_) (fun h45 => ?_)
          · have g45 : ¬ (o = 13) := fun z => h45 ((nI_eq (by omega) (by omega)).mpr z)
            refine zw_iload_n dX10_jumps_54 rfl rfl ?_
            refine zw_bipush (nI 14) dX10_jumps_55 (by decide) ?_
            refine zw_icmp_ne 70 dX10_jumps_57 (by decide) (fun h57 => ?_) (fun h57 => ?_)
            · have g57 : ¬ (o = 14) := fun z => h57 ((nI_eq (by omega) (by omega)).mpr z)
              refine zw_iconst (nI 0) dX10_jumps_70 (by decide) ?_
              refine zw_top (y := zb (gsb o (S 15 (30 * p + 8)) = true)) (by first | exact (zb_t (decide_eq_true (Or.inl (by omega)))).symm | exact (zb_t (decide_eq_true (Or.inr (Or.inl ⟨by omega, by assumption⟩)))).symm | exact (zb_t (decide_eq_true (Or.inr (Or.inr (Or.inl ⟨by omega, by assumption⟩))))).symm | exact (zb_t (decide_eq_true (Or.inr (Or.inr (Or.inr (Or.inl ⟨by omega, by assumption⟩)))))).symm | exact (zb_t (decide_eq_true (Or.inr (Or.inr (Or.inr (Or.inr ⟨by omega, by assumption⟩)))))).symm | exact (zb_f (fun z => by rcases of_decide_eq_true z with k | ⟨k, k1⟩ | ⟨k, k1⟩ | ⟨k, k1⟩ | ⟨k, k1⟩ <;> first | omega | contradiction)).symm) ?_
              refine zw_istore dX10_jumps_71 (by decide) ?_
              exact l_jumps hz S p hp hk hs o ho ring w
            · have g57 : o = 14 := (nI_eq (by omega) (by omega)).mp h57
              refine zw_iload dX10_jumps_60 rfl ?_
              refine zw_iconst (-1) dX10_jumps_62 (by decide) ?_
              refine zw_icmp_eq 70 dX10_jumps_63 (by decide) (fun h63 => ?_) (fun h63 => ?_)
              · refine zw_iconst (nI 0) dX10_jumps_70 (by decide) ?_
                refine zw_top (y := zb (gsb o (S 15 (30 * p + 8)) = true)) (by first | exact (zb_t (decide_eq_true (Or.inl (by omega)))).symm | exact (zb_t (decide_eq_true (Or.inr (Or.inl ⟨by omega, by assumption⟩)))).symm | exact (zb_t (decide_eq_true (Or.inr (Or.inr (Or.inl ⟨by omega, by assumption⟩))))).symm | exact (zb_t (decide_eq_true (Or.inr (Or.inr (Or.inr (Or.inl ⟨by omega, by assumption⟩)))))).symm | exact (zb_t (decide_eq_true (Or.inr (Or.inr (Or.inr (Or.inr ⟨by omega, by assumption⟩)))))).symm | exact (zb_f (fun z => by rcases of_decide_eq_true z with k | ⟨k, k1⟩ | ⟨k, k1⟩ | ⟨k, k1⟩ | ⟨k, k1⟩ <;> first | omega | contradiction)).symm) ?_
                refine zw_istore dX10_jumps_71 (by decide) ?_
                exact l_jumps hz S p hp hk hs o ho ring w
              · refine zw_iconst (nI 1) dX10_jumps_66 (by decide) ?_
                refine zw_goto 71 dX10_jumps_67 (by decide) ?_
                refine zw_top (y := zb (gsb o (S 15 (30 * p + 8)) = true)) (by first | exact (zb_t (decide_eq_true (Or.inl (by omega)))).symm | exact (zb_t (decide_eq_true (Or.inr (Or.inl ⟨by omega, by assumption⟩)))).symm | exact (zb_t (decide_eq_true (Or.inr (Or.inr (Or.inl ⟨by omega, by assumption⟩))))).symm | exact (zb_t (decide_eq_true (Or.inr (Or.inr (Or.inr (Or.inl ⟨by omega, by assumption⟩)))))).symm | exact (zb_t (decide_eq_true (Or.inr (Or.inr (Or.inr (Or.inr ⟨by omega, by assumption⟩)))))).symm | exact (zb_f (fun z => by rcases of_decide_eq_true z with k | ⟨k, k1⟩ | ⟨k, k1⟩ | ⟨k, k1⟩ | ⟨k, k1⟩ <;> first | omega | contradiction)).symm) ?_
                refine zw_istore dX10_jumps_71 (by decide) ?_
                exact l_jumps hz S p hp hk hs o ho ring w
          · have g45 : o = 13 := (nI_eq (by omega) (by omega)).mp h45
            refine zw_iload dX10_jumps_48 rfl ?_
            refine zw_iconst (-1) dX10_jumps_50 (by decide) ?_
            refine zw_icmp_eq 66 dX10_jumps_51 (by decide) (fun h51 => ?_) (fun h51 => ?_)
            · refine zw_iconst (nI 1) dX10_jumps_66 (by decide) ?_
              refine zw_goto 71 dX10_jumps_67 (by decide) ?_
              refine zw_top (y := zb (gsb o (S 15 (30 * p + 8)) = true)) (by first | exact (zb_t (decide_eq_true (Or.inl (by omega)))).symm | exact (zb_t (decide_eq_true (Or.inr (Or.inl ⟨by omega, by assumption⟩)))).symm | exact (zb_t (decide_eq_true (Or.inr (Or.inr (Or.inl ⟨by omega, by assumption⟩))))).symm | exact (zb_t (decide_eq_true (Or.inr (Or.inr (Or.inr (Or.inl ⟨by omega, by assumption⟩)))))).symm | exact (zb_t (decide_eq_true (Or.inr (Or.inr (Or.inr (Or.inr ⟨by omega, by assumption⟩)))))).symm | exact (zb_f (fun z => by rcases of_decide_eq_true z with k | ⟨k, k1⟩ | ⟨k, k1⟩ | ⟨k, k1⟩ | ⟨k, k1⟩ <;> first | omega | contradiction)).symm) ?_
              refine zw_istore dX10_jumps_71 (by decide) ?_
              exact l_jumps hz S p hp hk hs o ho ring w
            · refine zw_iload_n dX10_jumps_54 rfl rfl ?_
              refine zw_bipush (nI 14) dX10_jumps_55 (by decide) ?_
              refine zw_icmp_ne 70 dX10_jumps_57 (by decide) (fun h57 => ?_) (fun h57 => ?_)
              · have g57 : ¬ (o = 14) := fun z => h57 ((nI_eq (by omega) (by omega)).mpr z)
                refine zw_iconst (nI 0) dX10_jumps_70 (by decide) ?_
                refine zw_top (y := zb (gsb o (S 15 (30 * p + 8)) = true)) (by first | exact (zb_t (decide_eq_true (Or.inl (by omega)))).symm | exact (zb_t (decide_eq_true (Or.inr (Or.inl ⟨by omega, by assumption⟩)))).symm | exact (zb_t (decide_eq_true (Or.inr (Or.inr (Or.inl ⟨by omega, by assumption⟩))))).symm | exact (zb_t (decide_eq_true (Or.inr (Or.inr (Or.inr (Or.inl ⟨by omega, by assumption⟩)))))).symm | exact (zb_t (decide_eq_true (Or.inr (Or.inr (Or.inr (Or.inr ⟨by omega, by assumption⟩)))))).symm | exact (zb_f (fun z => by rcases of_decide_eq_true z with k | ⟨k, k1⟩ | ⟨k, k1⟩ | ⟨k, k1⟩ | ⟨k, k1⟩ <;> first | omega | contradiction)).symm) ?_
                refine zw_istore dX10_jumps_71 (by decide) ?_
                exact l_jumps hz S p hp hk hs o ho ring w
              · have g57 : o = 14 := (nI_eq (by omega) (by omega)).mp h57
                refine zw_iload dX10_jumps_60 rfl ?_
                refine zw_iconst (-1) dX10_jumps_62 (by decide) ?_
                refine zw_icmp_eq 70 dX10_jumps_63 (by decide) (fun h63 => ?_) (fun h63 => ?_)
                · refine zw_iconst (nI 0) dX10_jumps_70 (by decide) ?_
                  refine zw_top (y := zb (gsb o (S 15 (30 * p + 8)) = true)) (by first | exact (zb_t (decide_eq_true (Or.inl (by omega)))).symm | exact (zb_t (decide_eq_true (Or.inr (Or.inl ⟨by omega, by assumption⟩)))).symm | exact (zb_t (decide_eq_true (Or.inr (Or.inr (Or.inl ⟨by omega, by assumption⟩))))).symm | exact (zb_t (decide_eq_true (Or.inr (Or.inr (Or.inr (Or.inl ⟨by omega, by assumption⟩)))))).symm | exact (zb_t (decide_eq_true (Or.inr (Or.inr (Or.inr (Or.inr ⟨by omega, by assumption⟩)))))).symm | exact (zb_f (fun z => by rcases of_decide_eq_true z with k | ⟨k, k1⟩ | ⟨k, k1⟩ | ⟨k, k1⟩ | ⟨k, k1⟩ <;> first | omega | contradiction)).symm) ?_
                  refine zw_istore dX10_jumps_71 (by decide) ?_
                  exact l_jumps hz S p hp hk hs o ho ring w
                · refine zw_iconst (nI 1) dX10_jumps_66 (by decide) ?_
                  refine zw_goto 71 dX10_jumps_67 (by decide) ?_
                  refine zw_top (y := zb (gsb o (S 15 (30 * p + 8)) = true)) (by first | exact (zb_t (decide_eq_true (Or.inl (by omega)))).symm | exact (zb_t (decide_eq_true (Or.inr (Or.inl ⟨by omega, by assumption⟩)))).symm | exact (zb_t (decide_eq_true (Or.inr (Or.inr (Or.inl ⟨by omega, by assumption⟩))))).symm | exact (zb_t (decide_eq_true (Or.inr (Or.inr (Or.inr (Or.inl ⟨by omega, by assumption⟩)))))).symm | exact (zb_t (decide_eq_true (Or.inr (Or.inr (Or.inr (Or.inr ⟨by omega, by assumption⟩)))))).symm | exact (zb_f (fun z => by rcases of_decide_eq_true z with k | ⟨k, k1⟩ | ⟨k, k1⟩ | ⟨k, k1⟩ | ⟨k, k1⟩ <;> first | omega | contradiction)).symm) ?_
                  refine zw_istore dX10_jumps_71 (by decide) ?_
                  exact l_jumps hz S p hp hk hs o ho ring w
    · have g23 : o = 11 := (nI_eq (by omega) (by omega)).mp h23
      refine zw_iload dX10_jumps_26 rfl ?_
      refine zw_if_eq 66 dX10_jumps_28 (by decide) (fun h28 => ?_) (fun h28 => ?_)
      · refine zw_iconst (nI 1) dX10_jumps_66 (by decide) ?_
        refine zw_goto 71 dX10_jumps_67 (by decide) ?_
        refine zw_top (y := zb (gsb o (S 15 (30 * p + 8)) = true)) (by first | exact (zb_t (decide_eq_true (Or.inl (by omega)))).symm | exact (zb_t (decide_eq_true (Or.inr (Or.inl ⟨by omega, by assumption⟩)))).symm | exact (zb_t (decide_eq_true (Or.inr (Or.inr (Or.inl ⟨by omega, by assumption⟩))))).symm | exact (zb_t (decide_eq_true (Or.inr (Or.inr (Or.inr (Or.inl ⟨by omega, by assumption⟩)))))).symm | exact (zb_t (decide_eq_true (Or.inr (Or.inr (Or.inr (Or.inr ⟨by omega, by assumption⟩)))))).symm | exact (zb_f (fun z => by rcases of_decide_eq_true z with k | ⟨k, k1⟩ | ⟨k, k1⟩ | ⟨k, k1⟩ | ⟨k, k1⟩ <;> first | omega | contradiction)).symm) ?_
        refine zw_istore dX10_jumps_71 (by decide) ?_
        exact l_jumps hz S p hp hk hs o ho ring w
      · refine zw_iload_n dX10_jumps_31 rfl rfl ?_
        refine zw_bipush (nI 12) dX10_jumps_32 (by decide) ?_
        refine zw_icmp_ne 42 dX10_jumps_34 (by decide) (fun h34 => ?_) (fun h34 => ?_)
        · have g34 : ¬ (o = 12) := fun z => h34 ((nI_eq (by omega) (by omega)).mpr z)
          refine zw_iload_n dX10_jumps_42 rfl rfl ?_
          refine zw_bipush (nI 13) dX10_jumps_43 (by decide) ?_
          refine zw_icmp_ne 54 dX10_jumps_45 (by decide) (fun h45 => ?_) (fun h45 => ?_)
          · have g45 : ¬ (o = 13) := fun z => h45 ((nI_eq (by omega) (by omega)).mpr z)
            refine zw_iload_n dX10_jumps_54 rfl rfl ?_
            refine zw_bipush (nI 14) dX10_jumps_55 (by decide) ?_
            refine zw_icmp_ne 70 dX10_jumps_57 (by decide) (fun h57 => ?_) (fun h57 => ?_)
            · have g57 : ¬ (o = 14) := fun z => h57 ((nI_eq (by omega) (by omega)).mpr z)
              refine zw_iconst (nI 0) dX10_jumps_70 (by decide) ?_
              refine zw_top (y := zb (gsb o (S 15 (30 * p + 8)) = true)) (by first | exact (zb_t (decide_eq_true (Or.inl (by omega)))).symm | exact (zb_t (decide_eq_true (Or.inr (Or.inl ⟨by omega, by assumption⟩)))).symm | exact (zb_t (decide_eq_true (Or.inr (Or.inr (Or.inl ⟨by omega, by assumption⟩))))).symm | exact (zb_t (decide_eq_true (Or.inr (Or.inr (Or.inr (Or.inl ⟨by omega, by assumption⟩)))))).symm | exact (zb_t (decide_eq_true (Or.inr (Or.inr (Or.inr (Or.inr ⟨by omega, by assumption⟩)))))).symm | exact (zb_f (fun z => by rcases of_decide_eq_true z with k | ⟨k, k1⟩ | ⟨k, k1⟩ | ⟨k, k1⟩ | ⟨k, k1⟩ <;> first | omega | contradiction)).symm) ?_
              refine zw_istore dX10_jumps_71 (by decide) ?_
              exact l_jumps hz S p hp hk hs o ho ring w
            · have g57 : o = 14 := (nI_eq (by omega) (by omega)).mp h57
              refine zw_iload dX10_jumps_60 rfl ?_
              refine zw_iconst (-1) dX10_jumps_62 (by decide) ?_
              refine zw_icmp_eq 70 dX10_jumps_63 (by decide) (fun h63 => ?_) (fun h63 => ?_)
              · refine zw_iconst (nI 0) dX10_jumps_70 (by decide) ?_
                refine zw_top (y := zb (gsb o (S 15 (30 * p + 8)) = true)) (by first | exact (zb_t (decide_eq_true (Or.inl (by omega)))).symm | exact (zb_t (decide_eq_true (Or.inr (Or.inl ⟨by omega, by assumption⟩)))).symm | exact (zb_t (decide_eq_true (Or.inr (Or.inr (Or.inl ⟨by omega, by assumption⟩))))).symm | exact (zb_t (decide_eq_true (Or.inr (Or.inr (Or.inr (Or.inl ⟨by omega, by assumption⟩)))))).symm | exact (zb_t (decide_eq_true (Or.inr (Or.inr (Or.inr (Or.inr ⟨by omega, by assumption⟩)))))).symm | exact (zb_f (fun z => by rcases of_decide_eq_true z with k | ⟨k, k1⟩ | ⟨k, k1⟩ | ⟨k, k1⟩ | ⟨k, k1⟩ <;> first | omega | contradiction)).symm) ?_
                refine zw_istore dX10_jumps_71 (by decide) ?_
                exact l_jumps hz S p hp hk hs o ho ring w
              · refine zw_iconst (nI 1) dX10_jumps_66 (by decide) ?_
                refine zw_goto 71 dX10_jumps_67 (by decide) ?_
                refine zw_top (y := zb (gsb o (S 15 (30 * p + 8)) = true)) (by first | exact (zb_t (decide_eq_true (Or.inl (by omega)))).symm | exact (zb_t (decide_eq_true (Or.inr (Or.inl ⟨by omega, by assumption⟩)))).symm | exact (zb_t (decide_eq_true (Or.inr (Or.inr (Or.inl ⟨by omega, by assumption⟩))))).symm | exact (zb_t (decide_eq_true (Or.inr (Or.inr (Or.inr (Or.inl ⟨by omega, by assumption⟩)))))).symm | exact (zb_t (decide_eq_true (Or.inr (Or.inr (Or.inr (Or.inr ⟨by omega, by assumption⟩)))))).symm | exact (zb_f (fun z => by rcases of_decide_eq_true z with k | ⟨k, k1⟩ | ⟨k, k1⟩ | ⟨k, k1⟩ | ⟨k, k1⟩ <;> first | omega | contradiction)).symm) ?_
                refine zw_istore dX10_jumps_71 (by decide) ?_
                exact l_jumps hz S p hp hk hs o ho ring w
          · have g45 : o = 13 := (nI_eq (by omega) (by omega)).mp h45
            refine zw_iload dX10_jumps_48 rfl ?_
            refine zw_iconst (-1) dX10_jumps_50 (by decide) ?_
            refine zw_icmp_eq 66 dX10_jumps_51 (by decide) (fun h51 => ?_) (fun h51 => ?_)
            · refine zw_iconst (nI 1) dX10_jumps_66 (by decide) ?_
              refine zw_goto 71 dX10_jumps_67 (by decide) ?_
              refine zw_top (y := zb (gsb o (S 15 (30 * p + 8)) = true)) (by first | exact (zb_t (decide_eq_true (Or.inl (by omega)))).symm | exact (zb_t (decide_eq_true (Or.inr (Or.inl ⟨by omega, by assumption⟩)))).symm | exact (zb_t (decide_eq_true (Or.inr (Or.inr (Or.inl ⟨by omega, by assumption⟩))))).symm | exact (zb_t (decide_eq_true (Or.inr (Or.inr (Or.inr (Or.inl ⟨by omega, by assumption⟩)))))).symm | exact (zb_t (decide_eq_true (Or.inr (Or.inr (Or.inr (Or.inr ⟨by omega, by assumption⟩)))))).symm | exact (zb_f (fun z => by rcases of_decide_eq_true z with k | ⟨k, k1⟩ | ⟨k, k1⟩ | ⟨k, k1⟩ | ⟨k, k1⟩ <;> first | omega | contradiction)).symm) ?_
              refine zw_istore dX10_jumps_71 (by decide) ?_
              exact l_jumps hz S p hp hk hs o ho ring w
            · refine zw_iload_n dX10_jumps_54 rfl rfl ?_
              refine zw_bipush (nI 14) dX10_jumps_55 (by decide) ?_
              refine zw_icmp_ne 70 dX10_jumps_57 (by decide) (fun h57 => ?_) (fun h57 => ?_)
              · have g57 : ¬ (o = 14) := fun z => h57 ((nI_eq (by omega) (by omega)).mpr z)
                refine zw_iconst (nI 0) dX10_jumps_70 (by decide) ?_
                refine zw_top (y := zb (gsb o (S 15 (30 * p + 8)) = true)) (by first | exact (zb_t (decide_eq_true (Or.inl (by omega)))).symm | exact (zb_t (decide_eq_true (Or.inr (Or.inl ⟨by omega, by assumption⟩)))).symm | exact (zb_t (decide_eq_true (Or.inr (Or.inr (Or.inl ⟨by omega, by assumption⟩))))).symm | exact (zb_t (decide_eq_true (Or.inr (Or.inr (Or.inr (Or.inl ⟨by omega, by assumption⟩)))))).symm | exact (zb_t (decide_eq_true (Or.inr (Or.inr (Or.inr (Or.inr ⟨by omega, by assumption⟩)))))).symm | exact (zb_f (fun z => by rcases of_decide_eq_true z with k | ⟨k, k1⟩ | ⟨k, k1⟩ | ⟨k, k1⟩ | ⟨k, k1⟩ <;> first | omega | contradiction)).symm) ?_
                refine zw_istore dX10_jumps_71 (by decide) ?_
                exact l_jumps hz S p hp hk hs o ho ring w
              · have g57 : o = 14 := (nI_eq (by omega) (by omega)).mp h57
                refine zw_iload dX10_jumps_60 rfl ?_
                refine zw_iconst (-1) dX10_jumps_62 (by decide) ?_
                refine zw_icmp_eq 70 dX10_jumps_63 (by decide) (fun h63 => ?_) (fun h63 => ?_)
                · refine zw_iconst (nI 0) dX10_jumps_70 (by decide) ?_
                  refine zw_top (y := zb (gsb o (S 15 (30 * p + 8)) = true)) (by first | exact (zb_t (decide_eq_true (Or.inl (by omega)))).symm | exact (zb_t (decide_eq_true (Or.inr (Or.inl ⟨by omega, by assumption⟩)))).symm | exact (zb_t (decide_eq_true (Or.inr (Or.inr (Or.inl ⟨by omega, by assumption⟩))))).symm | exact (zb_t (decide_eq_true (Or.inr (Or.inr (Or.inr (Or.inl ⟨by omega, by assumption⟩)))))).symm | exact (zb_t (decide_eq_true (Or.inr (Or.inr (Or.inr (Or.inr ⟨by omega, by assumption⟩)))))).symm | exact (zb_f (fun z => by rcases of_decide_eq_true z with k | ⟨k, k1⟩ | ⟨k, k1⟩ | ⟨k, k1⟩ | ⟨k, k1⟩ <;> first | omega | contradiction)).symm) ?_
                  refine zw_istore dX10_jumps_71 (by decide) ?_
                  exact l_jumps hz S p hp hk hs o ho ring w
                · refine zw_iconst (nI 1) dX10_jumps_66 (by decide) ?_
                  refine zw_goto 71 dX10_jumps_67 (by decide) ?_
                  refine zw_top (y := zb (gsb o (S 15 (30 * p + 8)) = true)) (by first | exact (zb_t (decide_eq_true (Or.inl (by omega)))).symm | exact (zb_t (decide_eq_true (Or.inr (Or.inl ⟨by omega, by assumption⟩)))).symm | exact (zb_t (decide_eq_true (Or.inr (Or.inr (Or.inl ⟨by omega, by assumption⟩))))).symm | exact (zb_t (decide_eq_true (Or.inr (Or.inr (Or.inr (Or.inl ⟨by omega, by assumption⟩)))))).symm | exact (zb_t (decide_eq_true (Or.inr (Or.inr (Or.inr (Or.inr ⟨by omega, by assumption⟩)))))).symm | exact (zb_f (fun z => by rcases of_decide_eq_true z with k | ⟨k, k1⟩ | ⟨k, k1⟩ | ⟨k, k1⟩ | ⟨k, k1⟩ <;> first | omega | contradiction)).symm) ?_
                  refine zw_istore dX10_jumps_71 (by decide) ?_
                  exact l_jumps hz S p hp hk hs o ho ring w
        · have g34 : o = 12 := (nI_eq (by omega) (by omega)).mp h34
          refine zw_iload dX10_jumps_37 rfl ?_
          refine zw_if_ne 66 dX10_jumps_39 (by decide) (fun h39 => ?_) (fun h39 => ?_)
          · refine zw_iconst (nI 1) dX10_jumps_66 (by decide) ?_
            refine zw_goto 71 dX10_jumps_67 (by decide) ?_
            refine zw_top (y := zb (gsb o (S 15 (30 * p + 8)) = true)) (by first | exact (zb_t (decide_eq_true (Or.inl (by omega)))).symm | exact (zb_t (decide_eq_true (Or.inr (Or.inl ⟨by omega, by assumption⟩)))).symm | exact (zb_t (decide_eq_true (Or.inr (Or.inr (Or.inl ⟨by omega, by assumption⟩))))).symm | exact (zb_t (decide_eq_true (Or.inr (Or.inr (Or.inr (Or.inl ⟨by omega, by assumption⟩)))))).symm | exact (zb_t (decide_eq_true (Or.inr (Or.inr (Or.inr (Or.inr ⟨by omega, by assumption⟩)))))).symm | exact (zb_f (fun z => by rcases of_decide_eq_true z with k | ⟨k, k1⟩ | ⟨k, k1⟩ | ⟨k, k1⟩ | ⟨k, k1⟩ <;> first | omega | contradiction)).symm) ?_
            refine zw_istore dX10_jumps_71 (by decide) ?_
            exact l_jumps hz S p hp hk hs o ho ring w
          · refine zw_iload_n dX10_jumps_42 rfl rfl ?_
            refine zw_bipush (nI 13) dX10_jumps_43 (by decide) ?_
            refine zw_icmp_ne 54 dX10_jumps_45 (by decide) (fun h45 => ?_) (fun h45 => ?_)
            · have g45 : ¬ (o = 13) := fun z => h45 ((nI_eq (by omega) (by omega)).mpr z)
              refine zw_iload_n dX10_jumps_54 rfl rfl ?_
              refine zw_bipush (nI 14) dX10_jumps_55 (by decide) ?_
              refine zw_icmp_ne 70 dX10_jumps_57 (by decide) (fun h57 => ?_) (fun h57 => ?_)
              · have g57 : ¬ (o = 14) := fun z => h57 ((nI_eq (by omega) (by omega)).mpr z)
                refine zw_iconst (nI 0) dX10_jumps_70 (by decide) ?_
                refine zw_top (y := zb (gsb o (S 15 (30 * p + 8)) = true)) (by first | exact (zb_t (decide_eq_true (Or.inl (by omega)))).symm | exact (zb_t (decide_eq_true (Or.inr (Or.inl ⟨by omega, by assumption⟩)))).symm | exact (zb_t (decide_eq_true (Or.inr (Or.inr (Or.inl ⟨by omega, by assumption⟩))))).symm | exact (zb_t (decide_eq_true (Or.inr (Or.inr (Or.inr (Or.inl ⟨by omega, by assumption⟩)))))).symm | exact (zb_t (decide_eq_true (Or.inr (Or.inr (Or.inr (Or.inr ⟨by omega, by assumption⟩)))))).symm | exact (zb_f (fun z => by rcases of_decide_eq_true z with k | ⟨k, k1⟩ | ⟨k, k1⟩ | ⟨k, k1⟩ | ⟨k, k1⟩ <;> first | omega | contradiction)).symm) ?_
                refine zw_istore dX10_jumps_71 (by decide) ?_
                exact l_jumps hz S p hp hk hs o ho ring w
              · have g57 : o = 14 := (nI_eq (by omega) (by omega)).mp h57
                refine zw_iload dX10_jumps_60 rfl ?_
                refine zw_iconst (-1) dX10_jumps_62 (by decide) ?_
                refine zw_icmp_eq 70 dX10_jumps_63 (by decide) (fun h63 => ?_) (fun h63 => ?_)
                · refine zw_iconst (nI 0) dX10_jumps_70 (by decide) ?_
                  refine zw_top (y := zb (gsb o (S 15 (30 * p + 8)) = true)) (by first | exact (zb_t (decide_eq_true (Or.inl (by omega)))).symm | exact (zb_t (decide_eq_true (Or.inr (Or.inl ⟨by omega, by assumption⟩)))).symm | exact (zb_t (decide_eq_true (Or.inr (Or.inr (Or.inl ⟨by omega, by assumption⟩))))).symm | exact (zb_t (decide_eq_true (Or.inr (Or.inr (Or.inr (Or.inl ⟨by omega, by assumption⟩)))))).symm | exact (zb_t (decide_eq_true (Or.inr (Or.inr (Or.inr (Or.inr ⟨by omega, by assumption⟩)))))).symm | exact (zb_f (fun z => by rcases of_decide_eq_true z with k | ⟨k, k1⟩ | ⟨k, k1⟩ | ⟨k, k1⟩ | ⟨k, k1⟩ <;> first | omega | contradiction)).symm) ?_
                  refine zw_istore dX10_jumps_71 (by decide) ?_
                  exact l_jumps hz S p hp hk hs o ho ring w
                · refine zw_iconst (nI 1) dX10_jumps_66 (by decide) ?_
                  refine zw_goto 71 dX10_jumps_67 (by decide) ?_
                  refine zw_top (y := zb (gsb o (S 15 (30 * p + 8)) = true)) (by first | exact (zb_t (decide_eq_true (Or.inl (by omega)))).symm | exact (zb_t (decide_eq_true (Or.inr (Or.inl ⟨by omega, by assumption⟩)))).symm | exact (zb_t (decide_eq_true (Or.inr (Or.inr (Or.inl ⟨by omega, by assumption⟩))))).symm | exact (zb_t (decide_eq_true (Or.inr (Or.inr (Or.inr (Or.inl ⟨by omega, by assumption⟩)))))).symm | exact (zb_t (decide_eq_true (Or.inr (Or.inr (Or.inr (Or.inr ⟨by omega, by assumption⟩)))))).symm | exact (zb_f (fun z => by rcases of_decide_eq_true z with k | ⟨k, k1⟩ | ⟨k, k1⟩ | ⟨k, k1⟩ | ⟨k, k1⟩ <;> first | omega | contradiction)).symm) ?_
                  refine zw_istore dX10_jumps_71 (by decide) ?_
                  exact l_jumps hz S p hp hk hs o ho ring w
            · have g45 : o = 13 := (nI_eq (by omega) (by omega)).mp h45
              refine zw_iload dX10_jumps_48 rfl ?_
              refine zw_iconst (-1) dX10_jumps_50 (by decide) ?_
              refine zw_icmp_eq 66 dX10_jumps_51 (by decide) (fun h51 => ?_) (fun h51 => ?_)
              · refine zw_iconst (nI 1) dX10_jumps_66 (by decide) ?_
                refine zw_goto 71 dX10_jumps_67 (by decide) ?_
                refine zw_top (y := zb (gsb o (S 15 (30 * p + 8)) = true)) (by first | exact (zb_t (decide_eq_true (Or.inl (by omega)))).symm | exact (zb_t (decide_eq_true (Or.inr (Or.inl ⟨by omega, by assumption⟩)))).symm | exact (zb_t (decide_eq_true (Or.inr (Or.inr (Or.inl ⟨by omega, by assumption⟩))))).symm | exact (zb_t (decide_eq_true (Or.inr (Or.inr (Or.inr (Or.inl ⟨by omega, by assumption⟩)))))).symm | exact (zb_t (decide_eq_true (Or.inr (Or.inr (Or.inr (Or.inr ⟨by omega, by assumption⟩)))))).symm | exact (zb_f (fun z => by rcases of_decide_eq_true z with k | ⟨k, k1⟩ | ⟨k, k1⟩ | ⟨k, k1⟩ | ⟨k, k1⟩ <;> first | omega | contradiction)).symm) ?_
                refine zw_istore dX10_jumps_71 (by decide) ?_
                exact l_jumps hz S p hp hk hs o ho ring w
              · refine zw_iload_n dX10_jumps_54 rfl rfl ?_
                refine zw_bipush (nI 14) dX10_jumps_55 (by decide) ?_
                refine zw_icmp_ne 70 dX10_jumps_57 (by decide) (fun h57 => ?_) (fun h57 => ?_)
                · have g57 : ¬ (o = 14) := fun z => h57 ((nI_eq (by omega) (by omega)).mpr z)
                  refine zw_iconst (nI 0) dX10_jumps_70 (by decide) ?_
                  refine zw_top (y := zb (gsb o (S 15 (30 * p + 8)) = true)) (by first | exact (zb_t (decide_eq_true (Or.inl (by omega)))).symm | exact (zb_t (decide_eq_true (Or.inr (Or.inl ⟨by omega, by assumption⟩)))).symm | exact (zb_t (decide_eq_true (Or.inr (Or.inr (Or.inl ⟨by omega, by assumption⟩))))).symm | exact (zb_t (decide_eq_true (Or.inr (Or.inr (Or.inr (Or.inl ⟨by omega, by assumption⟩)))))).symm | exact (zb_t (decide_eq_true (Or.inr (Or.inr (Or.inr (Or.inr ⟨by omega, by assumption⟩)))))).symm | exact (zb_f (fun z => by rcases of_decide_eq_true z with k | ⟨k, k1⟩ | ⟨k, k1⟩ | ⟨k, k1⟩ | ⟨k, k1⟩ <;> first | omega | contradiction)).symm) ?_
                  refine zw_istore dX10_jumps_71 (by decide) ?_
                  exact l_jumps hz S p hp hk hs o ho ring w
                · have g57 : o = 14 := (nI_eq (by omega) (by omega)).mp h57
                  refine zw_iload dX10_jumps_60 rfl ?_
                  refine zw_iconst (-1) dX10_jumps_62 (by decide) ?_
                  refine zw_icmp_eq 70 dX10_jumps_63 (by decide) (fun h63 => ?_) (fun h63 => ?_)
                  · refine zw_iconst (nI 0) dX10_jumps_70 (by decide) ?_
                    refine zw_top (y := zb (gsb o (S 15 (30 * p + 8)) = true)) (by first | exact (zb_t (decide_eq_true (Or.inl (by omega)))).symm | exact (zb_t (decide_eq_true (Or.inr (Or.inl ⟨by omega, by assumption⟩)))).symm | exact (zb_t (decide_eq_true (Or.inr (Or.inr (Or.inl ⟨by omega, by assumption⟩))))).symm | exact (zb_t (decide_eq_true (Or.inr (Or.inr (Or.inr (Or.inl ⟨by omega, by assumption⟩)))))).symm | exact (zb_t (decide_eq_true (Or.inr (Or.inr (Or.inr (Or.inr ⟨by omega, by assumption⟩)))))).symm | exact (zb_f (fun z => by rcases of_decide_eq_true z with k | ⟨k, k1⟩ | ⟨k, k1⟩ | ⟨k, k1⟩ | ⟨k, k1⟩ <;> first | omega | contradiction)).symm) ?_
                    refine zw_istore dX10_jumps_71 (by decide) ?_
                    exact l_jumps hz S p hp hk hs o ho ring w
                  · refine zw_iconst (nI 1) dX10_jumps_66 (by decide) ?_
                    refine zw_goto 71 dX10_jumps_67 (by decide) ?_
                    refine zw_top (y := zb (gsb o (S 15 (30 * p + 8)) = true)) (by first | exact (zb_t (decide_eq_true (Or.inl (by omega)))).symm | exact (zb_t (decide_eq_true (Or.inr (Or.inl ⟨by omega, by assumption⟩)))).symm | exact (zb_t (decide_eq_true (Or.inr (Or.inr (Or.inl ⟨by omega, by assumption⟩))))).symm | exact (zb_t (decide_eq_true (Or.inr (Or.inr (Or.inr (Or.inl ⟨by omega, by assumption⟩)))))).symm | exact (zb_t (decide_eq_true (Or.inr (Or.inr (Or.inr (Or.inr ⟨by omega, by assumption⟩)))))).symm | exact (zb_f (fun z => by rcases of_decide_eq_true z with k | ⟨k, k1⟩ | ⟨k, k1⟩ | ⟨k, k1⟩ | ⟨k, k1⟩ <;> first | omega | contradiction)).symm) ?_
                    refine zw_istore dX10_jumps_71 (by decide) ?_
                    exact l_jumps hz S p hp hk hs o ho ring w
set_option maxHeartbeats 4000000 in
set_option maxRecDepth 100000 in
theorem l_calls255 {G : ZG} {Sh : ZS} {P : ZP} {C : ZI} {X : ZX} (hz : zr_sh Sh P) (S : ZT) (p : Nat) (hp : p < 4) (hk : kOK S p) (hs : sOK S) (ring n w : Int32) (hin : zin (X 29) (kc S p)) (hwi : zin (X 30) (sz S p (zn (X 29)))) (hfg : ¬ fg S p (zn (X 29)) &&& nI 4 = 0) (hks : kn S p (zn (X 29)) < 32) (hgt : ¬ (¬ X 29 = n ∧ S 5 (kn S p (zn (X 29))) ≤ X 30)) (h170 : S 2 (kn S p (zn (X 29))) ≤ X 28) (h203 : X 28 ≤ S 4 (kn S p (zn (X 29)))) : zw G cX10_calls kX10_calls 0 0 253 [some (.inr (some (60, 99, 0))), some (.inl (nI p)), some (.inl ring), some (.inl n), some (.inl w), some (.inl (nI (kn S p (zn (X 29))))), none] [.inl (calI S (kn S p (zn (X 29))) (X 28))] Sh P (zl C S X) (rq C Sh P (oc (cal S p ring n w (X 28) (X 29) (X 30)))) := by
  refine zw_istore dX10_calls_253 (by decide) ?_
  dsimp only [List.set]
  refine zw_iload dX10_calls_255 rfl ?_
  refine zw_iload_n dX10_calls_257 rfl rfl ?_
  refine zw_icmp_le 280 dX10_calls_258 (by decide) (fun h258 => ?_) (fun h258 => ?_)
  · refine zw_aload_n dX10_calls_280 rfl rfl ?_
    refine zw_iload_n dX10_calls_281 rfl rfl ?_
    refine zw_bipush (nI 7) dX10_calls_282 (by decide) ?_
    refine zw_iload_n dX10_calls_284 rfl rfl ?_
    refine zw_iload_n dX10_calls_285 rfl rfl ?_
    refine zw_iload dX10_calls_286 rfl ?_
    refine zw_iconst (nI 1) dX10_calls_288 (by decide) ?_
    refine zw_iadd dX10_calls_289 ?_
    refine rz_callT hz dX10_calls_290 eX10_calls_290 (c_points hz _ p hp 7 (by omega) _ _ _) rfl rfl (Nat.le_of_ble_eq_true rfl) ?_
    refine zw_aload_n dX10_calls_293 rfl rfl ?_
    refine zw_iload_n dX10_calls_294 rfl rfl ?_
    refine zw_iconst (nI 0) dX10_calls_295 (by decide) ?_
    refine zw_iload dX10_calls_296 rfl ?_
    refine zw_iload dX10_calls_298 rfl ?_
    refine zw_iconst (nI 0) dX10_calls_300 (by decide) ?_
    refine rz_callT hz dX10_calls_301 eX10_calls_301 (c_points hz _ p hp 0 (by omega) _ _ _) rfl rfl (Nat.le_of_ble_eq_true rfl) ?_
    refine zw_aload_n dX10_calls_304 rfl rfl ?_
    refine zw_iload_n dX10_calls_305 rfl rfl ?_
    refine zw_iload dX10_calls_306 rfl ?_
    refine zw_aload_n dX10_calls_308 rfl rfl ?_
    refine rz_intX hz dX10_calls_309 fX10_133 rfl (by decide) ?_
    refine zw_aload_n dX10_calls_312 rfl rfl ?_
    refine rz_intX hz dX10_calls_313 fX10_136 rfl (by decide) ?_
    refine rz_callT hz dX10_calls_316 eX10_calls_316 (c_goes hz _ p hp _ _ _) rfl rfl (Nat.le_of_ble_eq_true rfl) ?_
    refine zw_aload_n dX10_calls_319 rfl rfl ?_
    refine rz_arr hz dX10_calls_320 fX10_53 rfl ?_
    refine zw_bipush (nI 30) dX10_calls_323 (by decide) ?_
    refine zw_iload_n dX10_calls_325 rfl rfl ?_
    refine zw_imulN dX10_calls_326 ?_
    refine zw_bipush (nI 17) dX10_calls_327 (by decide) ?_
    refine zw_iaddN dX10_calls_329 ?_
    refine zw_dup2 dX10_calls_330 ?_
    refine rz_ald (((30 * p) + 17)) hz dX10_calls_331 rfl (by decide) (by show ((30 * p) + 17) < 120; omega) rfl ?_
    refine zw_iconst (nI 1) dX10_calls_332 (by decide) ?_
    refine zw_iadd dX10_calls_333 ?_
    refine rz_ast (((30 * p) + 17)) hz dX10_calls_334 rfl (by decide) (by show ((30 * p) + 17) < 120; omega) rfl ?_
    refine zw_iconst (nI 1) dX10_calls_335 (by decide) ?_
    have hcal : calK S p ring n (X 28) (X 29) (X 30) = 0 := by unfold calK; rw [if_pos hin, if_pos hwi, if_neg hfg, if_neg hgt, if_pos h170, if_pos h203, if_pos h258]
    exact rz_zret dX10_calls_336 rfl rfl (by unfold cal; rw [if_pos hcal]; exact oc_ok)
  · refine zw_aload_n dX10_calls_261 rfl rfl ?_
    refine zw_bipush (nI 9) dX10_calls_262 (by decide) ?_
    refine zw_aload_n dX10_calls_264 rfl rfl ?_
    refine rz_intX hz dX10_calls_265 fX10_139 rfl (by decide) ?_
    refine zw_aload_n dX10_calls_268 rfl rfl ?_
    refine rz_intX hz dX10_calls_269 fX10_133 rfl (by decide) ?_
    refine zw_aload_n dX10_calls_272 rfl rfl ?_
    refine rz_intX hz dX10_calls_273 fX10_136 rfl (by decide) ?_
    refine rz_callX hz dX10_calls_276 eX10_calls_276 (c_fails hz _ _ _ _ _) rfl rfl (Nat.le_of_ble_eq_true rfl) (fun x276 X276 q276 => ?_)
    have hcal : calK S p ring n (X 28) (X 29) (X 30) = 9 := by unfold calK; rw [if_pos hin, if_pos hwi, if_neg hfg, if_neg hgt, if_pos h170, if_pos h203, if_neg h258]
    exact rz_zret dX10_calls_279 rfl (by rw [q276.1]; rfl) (by unfold cal; rw [if_neg (by rw [hcal]; decide), hcal]; exact oc_no' (by decide) q276.1 rfl q276.2)
set_option maxHeartbeats 4000000 in
set_option maxRecDepth 100000 in
theorem l_calls159 {G : ZG} {Sh : ZS} {P : ZP} {C : ZI} {X : ZX} (hz : zr_sh Sh P) (S : ZT) (p : Nat) (hp : p < 4) (hk : kOK S p) (hs : sOK S) (ring n w : Int32) (hin : zin (X 29) (kc S p)) (hwi : zin (X 30) (sz S p (zn (X 29)))) (hfg : ¬ fg S p (zn (X 29)) &&& nI 4 = 0) (hks : kn S p (zn (X 29)) < 32) (hgt : ¬ (¬ X 29 = n ∧ S 5 (kn S p (zn (X 29))) ≤ X 30)) : zw G cX10_calls kX10_calls 0 0 159 [some (.inr (some (60, 99, 0))), some (.inl (nI p)), some (.inl ring), some (.inl n), some (.inl w), some (.inl (nI (kn S p (zn (X 29))))), none] [] Sh P (zl C S X) (rq C Sh P (oc (cal S p ring n w (X 28) (X 29) (X 30)))) := by
  refine zw_aload_n dX10_calls_159 rfl rfl ?_
  refine rz_intX hz dX10_calls_160 fX10_139 rfl (by decide) ?_
  refine zw_aload_n dX10_calls_163 rfl rfl ?_
  refine rz_arr hz dX10_calls_164 fX10_16 rfl ?_
  refine zw_iload dX10_calls_167 rfl ?_
  refine rz_ald ((kn S p (zn (X 29)))) hz dX10_calls_169 rfl (by decide) (by show (kn S p (zn (X 29))) < 32; omega) rfl ?_
  refine zw_icmp_ge 192 dX10_calls_170 (by decide) (fun h170 => ?_) (fun h170 => ?_)
  · refine zw_aload_n dX10_calls_192 rfl rfl ?_
    refine rz_intX hz dX10_calls_193 fX10_139 rfl (by decide) ?_
    refine zw_aload_n dX10_calls_196 rfl rfl ?_
    refine rz_arr hz dX10_calls_197 fX10_22 rfl ?_
    refine zw_iload dX10_calls_200 rfl ?_
    refine rz_ald ((kn S p (zn (X 29)))) hz dX10_calls_202 rfl (by decide) (by show (kn S p (zn (X 29))) < 32; omega) rfl ?_
    refine zw_icmp_le 225 dX10_calls_203 (by decide) (fun h203 => ?_) (fun h203 => ?_)
    · refine zw_aload_n dX10_calls_225 rfl rfl ?_
      refine rz_intX hz dX10_calls_226 fX10_139 rfl (by decide) ?_
      refine zw_aload_n dX10_calls_229 rfl rfl ?_
      refine rz_arr hz dX10_calls_230 fX10_19 rfl ?_
      refine zw_iload dX10_calls_233 rfl ?_
      refine rz_ald ((kn S p (zn (X 29)))) hz dX10_calls_235 rfl (by decide) (by show (kn S p (zn (X 29))) < 32; omega) rfl ?_
      refine zw_icmp_gt 246 dX10_calls_236 (by decide) (fun h236 => ?_) (fun h236 => ?_)
      · refine zw_aload_n dX10_calls_246 rfl rfl ?_
        refine rz_arr hz dX10_calls_247 fX10_19 rfl ?_
        refine zw_iload dX10_calls_250 rfl ?_
        refine rz_ald ((kn S p (zn (X 29)))) hz dX10_calls_252 rfl (by decide) (by show (kn S p (zn (X 29))) < 32; omega) rfl ?_
        refine zw_top (y := calI S (kn S p (zn (X 29))) (X 28)) (by unfold calI; first | exact (if_pos h236).symm | exact (if_neg h236).symm) ?_
        exact l_calls255 hz S p hp hk hs ring n w hin hwi hfg hks hgt h170 h203
      · refine zw_aload_n dX10_calls_239 rfl rfl ?_
        refine rz_intX hz dX10_calls_240 fX10_139 rfl (by decide) ?_
        refine zw_goto 253 dX10_calls_243 (by decide) ?_
        refine zw_top (y := calI S (kn S p (zn (X 29))) (X 28)) (by unfold calI; first | exact (if_pos h236).symm | exact (if_neg h236).symm) ?_
        exact l_calls255 hz S p hp hk hs ring n w hin hwi hfg hks hgt h170 h203
    · refine zw_aload_n dX10_calls_206 rfl rfl ?_
      refine zw_bipush (nI 8) dX10_calls_207 (by decide) ?_
      refine zw_aload_n dX10_calls_209 rfl rfl ?_
      refine rz_intX hz dX10_calls_210 fX10_139 rfl (by decide) ?_
      refine zw_aload_n dX10_calls_213 rfl rfl ?_
      refine rz_intX hz dX10_calls_214 fX10_133 rfl (by decide) ?_
      refine zw_aload_n dX10_calls_217 rfl rfl ?_
      refine rz_intX hz dX10_calls_218 fX10_136 rfl (by decide) ?_
      refine rz_callX hz dX10_calls_221 eX10_calls_221 (c_fails hz _ _ _ _ _) rfl rfl (Nat.le_of_ble_eq_true rfl) (fun x221 X221 q221 => ?_)
      have hcal : calK S p ring n (X 28) (X 29) (X 30) = 8 := by unfold calK; rw [if_pos hin, if_pos hwi, if_neg hfg, if_neg hgt, if_pos h170, if_neg h203]
      exact rz_zret dX10_calls_224 rfl (by rw [q221.1]; rfl) (by unfold cal; rw [if_neg (by rw [hcal]; decide), hcal]; exact oc_no' (by decide) q221.1 rfl q221.2)
  · refine zw_aload_n dX10_calls_173 rfl rfl ?_
    refine zw_bipush (nI 7) dX10_calls_174 (by decide) ?_
    refine zw_aload_n dX10_calls_176 rfl rfl ?_
    refine rz_intX hz dX10_calls_177 fX10_139 rfl (by decide) ?_
    refine zw_aload_n dX10_calls_180 rfl rfl ?_
    refine rz_intX hz dX10_calls_181 fX10_133 rfl (by decide) ?_
    refine zw_aload_n dX10_calls_184 rfl rfl ?_
    refine rz_intX hz dX10_calls_185 fX10_136 rfl (by decide) ?_
    refine rz_callX hz dX10_calls_188 eX10_calls_188 (c_fails hz _ _ _ _ _) rfl rfl (Nat.le_of_ble_eq_true rfl) (fun x188 X188 q188 => ?_)
    have hcal : calK S p ring n (X 28) (X 29) (X 30) = 7 := by unfold calK; rw [if_pos hin, if_pos hwi, if_neg hfg, if_neg hgt, if_neg h170]
    exact rz_zret dX10_calls_191 rfl (by rw [q188.1]; rfl) (by unfold cal; rw [if_neg (by rw [hcal]; decide), hcal]; exact oc_no' (by decide) q188.1 rfl q188.2)
set_option maxHeartbeats 4000000 in
set_option maxRecDepth 100000 in
theorem c_calls {G : ZG} {Sh : ZS} {P : ZP} {C : ZI} {X : ZX} (hz : zr_sh Sh P) (S : ZT) (p : Nat) (hp : p < 4) (hk : kOK S p) (hs : sOK S) (ring n w : Int32) : rc G cX10_calls kX10_calls Sh P C S X [.inl (nI p), .inl ring, .inl n, .inl w] (oc (cal S p ring n w (X 28) (X 29) (X 30))) := by
  refine zw_C.of (by decide) rfl (Nat.le_of_ble_eq_true rfl) ?_
  show zw G cX10_calls kX10_calls 0 0 0 [some (.inr (some (60, 99, 0))), some (.inl (nI p)), some (.inl ring), some (.inl n), some (.inl w), none, none] [] Sh P (zl C S X) _
  have hkc := hk.2.2.1
  refine zw_aload_n dX10_calls_0 rfl rfl ?_
  refine zw_iload_n dX10_calls_1 rfl rfl ?_
  refine zw_aload_n dX10_calls_2 rfl rfl ?_
  refine rz_intX hz dX10_calls_3 fX10_133 rfl (by decide) ?_
  refine rz_callP hz dX10_calls_6 eX10_calls_6 (c_isKnown hz S p hp hk _) rfl rfl (Nat.le_of_ble_eq_true rfl) (fun x6 q6 => ?_)
  subst q6
  refine zw_if_ne 30 dX10_calls_9 (by decide) (fun h9 => ?_) (fun h9 => ?_)
  · have g9 := zb_ne h9
    have hn1 := zin_zn g9 (by omega)
    have hsz := sz_le hk hs hn1.1
    refine zw_aload_n dX10_calls_30 rfl rfl ?_
    refine rz_intX hz dX10_calls_31 fX10_136 rfl (by decide) ?_
    refine zw_iconst (nI 0) dX10_calls_34 (by decide) ?_
    refine zw_aload_n dX10_calls_35 rfl rfl ?_
    refine zw_iload_n dX10_calls_36 rfl rfl ?_
    refine zw_aload_n dX10_calls_37 rfl rfl ?_
    refine rz_intX hz dX10_calls_38 fX10_133 rfl (by decide) ?_
    refine zw_top hn1.2 ?_
    refine rz_callP hz dX10_calls_41 eX10_calls_41 (c_sizeOf hz S p hp hk hs _ hn1.1) rfl rfl (Nat.le_of_ble_eq_true rfl) (fun x41 q41 => ?_)
    subst q41
    refine zw_iconst (nI 1) dX10_calls_44 (by decide) ?_
    refine zw_isub dX10_calls_45 ?_
    refine rz_callS dX10_calls_46 eX10_calls_46 (c_in _ _ _) rfl rfl (Nat.le_of_ble_eq_true rfl) (fun x46 q46 => ?_)
    rw [zb_congr (in_zin (by omega))] at q46
    subst q46
    refine zw_if_ne 70 dX10_calls_49 (by decide) (fun h49 => ?_) (fun h49 => ?_)
    · have g49 := zb_ne h49
      refine zw_aload_n dX10_calls_70 rfl rfl ?_
      refine zw_iload_n dX10_calls_71 rfl rfl ?_
      refine zw_aload_n dX10_calls_72 rfl rfl ?_
      refine rz_intX hz dX10_calls_73 fX10_133 rfl (by decide) ?_
      refine zw_top hn1.2 ?_
      refine rz_callP hz dX10_calls_76 eX10_calls_76 (c_flagsOf hz S p hp hk hs _ hn1.1) rfl rfl (Nat.le_of_ble_eq_true rfl) (fun x76 q76 => ?_)
      subst q76
      refine zw_iconst (nI 4) dX10_calls_79 (by decide) ?_
      refine zw_iand dX10_calls_80 ?_
      refine zw_if_ne 102 dX10_calls_81 (by decide) (fun h81 => ?_) (fun h81 => ?_)
      · have h8 : 8 ≤ zn (X 29) := by rcases Nat.lt_or_ge (zn (X 29)) 8 with h | h; exact absurd (by unfold fg; rw [if_pos h]; decide) h81; exact h
        have hkn := hk.2.2.2 _ h8 hn1.1
        have hsg := hs.2.1
        have hks : kn S p (zn (X 29)) < 32 := by omega
        refine zw_aload_n dX10_calls_102 rfl rfl ?_
        refine rz_arr hz dX10_calls_103 fX10_62 rfl ?_
        refine zw_bipush (nI 40) dX10_calls_106 (by decide) ?_
        refine zw_iload_n dX10_calls_108 rfl rfl ?_
        refine zw_imulN dX10_calls_109 ?_
        refine zw_aload_n dX10_calls_110 rfl rfl ?_
        refine rz_intX hz dX10_calls_111 fX10_133 rfl (by decide) ?_
        refine zw_top hn1.2 ?_
        refine zw_iaddN dX10_calls_114 ?_
        refine rz_ald (((40 * p) + (zn (X 29)))) hz dX10_calls_115 rfl (by decide) (by show ((40 * p) + (zn (X 29))) < 160; omega) rfl ?_
        refine zw_top hkn.1 ?_
        refine zw_istore dX10_calls_116 (by decide) ?_
        dsimp only [List.set]
        refine zw_aload_n dX10_calls_118 rfl rfl ?_
        refine rz_intX hz dX10_calls_119 fX10_133 rfl (by decide) ?_
        refine zw_iload_n dX10_calls_122 rfl rfl ?_
        refine zw_icmp_eq 159 dX10_calls_123 (by decide) (fun h123 => ?_) (fun h123 => ?_)
        · exact l_calls159 hz S p hp hk hs ring n w g9 g49 h81 hks (by first | exact fun z => z.1 h123 | exact fun z => absurd z.2 (Int32.not_le.mpr h137))
        · refine zw_aload_n dX10_calls_126 rfl rfl ?_
          refine rz_intX hz dX10_calls_127 fX10_136 rfl (by decide) ?_
          refine zw_aload_n dX10_calls_130 rfl rfl ?_
          refine rz_arr hz dX10_calls_131 fX10_25 rfl ?_
          refine zw_iload dX10_calls_134 rfl ?_
          refine rz_ald ((kn S p (zn (X 29)))) hz dX10_calls_136 rfl (by decide) (by show (kn S p (zn (X 29))) < 32; omega) rfl ?_
          refine zw_icmp_lt 159 dX10_calls_137 (by decide) (fun h137 => ?_) (fun h137 => ?_)
          · exact l_calls159 hz S p hp hk hs ring n w g9 g49 h81 hks (by first | exact fun z => z.1 h123 | exact fun z => absurd z.2 (Int32.not_le.mpr h137))
          · refine zw_aload_n dX10_calls_140 rfl rfl ?_
            refine zw_bipush (nI 6) dX10_calls_141 (by decide) ?_
            refine zw_aload_n dX10_calls_143 rfl rfl ?_
            refine rz_intX hz dX10_calls_144 fX10_139 rfl (by decide) ?_
            refine zw_aload_n dX10_calls_147 rfl rfl ?_
            refine rz_intX hz dX10_calls_148 fX10_133 rfl (by decide) ?_
            refine zw_aload_n dX10_calls_151 rfl rfl ?_
            refine rz_intX hz dX10_calls_152 fX10_136 rfl (by decide) ?_
            refine rz_callX hz dX10_calls_155 eX10_calls_155 (c_fails hz _ _ _ _ _) rfl rfl (Nat.le_of_ble_eq_true rfl) (fun x155 X155 q155 => ?_)
            have hcal : calK S p ring n (X 28) (X 29) (X 30) = 6 := by unfold calK; rw [if_pos g9, if_pos g49, if_neg h81, if_pos ⟨h123, Int32.not_lt.mp h137⟩]
            exact rz_zret dX10_calls_158 rfl (by rw [q155.1]; rfl) (by unfold cal; rw [if_neg (by rw [hcal]; decide), hcal]; exact oc_no' (by decide) q155.1 rfl q155.2)
      · refine zw_aload_n dX10_calls_84 rfl rfl ?_
        refine zw_iconst (nI 5) dX10_calls_85 (by decide) ?_
        refine zw_aload_n dX10_calls_86 rfl rfl ?_
        refine rz_intX hz dX10_calls_87 fX10_139 rfl (by decide) ?_
        refine zw_aload_n dX10_calls_90 rfl rfl ?_
        refine rz_intX hz dX10_calls_91 fX10_133 rfl (by decide) ?_
        refine zw_aload_n dX10_calls_94 rfl rfl ?_
        refine rz_intX hz dX10_calls_95 fX10_136 rfl (by decide) ?_
        refine rz_callX hz dX10_calls_98 eX10_calls_98 (c_fails hz _ _ _ _ _) rfl rfl (Nat.le_of_ble_eq_true rfl) (fun x98 X98 q98 => ?_)
        have hcal : calK S p ring n (X 28) (X 29) (X 30) = 5 := by unfold calK; rw [if_pos g9, if_pos g49, if_pos h81]
        exact rz_zret dX10_calls_101 rfl (by rw [q98.1]; rfl) (by unfold cal; rw [if_neg (by rw [hcal]; decide), hcal]; exact oc_no' (by decide) q98.1 rfl q98.2)
    · have g49 := zb_eq h49
      refine zw_aload_n dX10_calls_52 rfl rfl ?_
      refine zw_iconst (nI 2) dX10_calls_53 (by decide) ?_
      refine zw_aload_n dX10_calls_54 rfl rfl ?_
      refine rz_intX hz dX10_calls_55 fX10_139 rfl (by decide) ?_
      refine zw_aload_n dX10_calls_58 rfl rfl ?_
      refine rz_intX hz dX10_calls_59 fX10_133 rfl (by decide) ?_
      refine zw_aload_n dX10_calls_62 rfl rfl ?_
      refine rz_intX hz dX10_calls_63 fX10_136 rfl (by decide) ?_
      refine rz_callX hz dX10_calls_66 eX10_calls_66 (c_fails hz _ _ _ _ _) rfl rfl (Nat.le_of_ble_eq_true rfl) (fun x66 X66 q66 => ?_)
      have hcal : calK S p ring n (X 28) (X 29) (X 30) = 2 := by unfold calK; rw [if_pos g9, if_neg g49]
      exact rz_zret dX10_calls_69 rfl (by rw [q66.1]; rfl) (by unfold cal; rw [if_neg (by rw [hcal]; decide), hcal]; exact oc_no' (by decide) q66.1 rfl q66.2)
  · have g9 := zb_eq h9
    refine zw_aload_n dX10_calls_12 rfl rfl ?_
    refine zw_iconst (nI 1) dX10_calls_13 (by decide) ?_
    refine zw_aload_n dX10_calls_14 rfl rfl ?_
    refine rz_intX hz dX10_calls_15 fX10_139 rfl (by decide) ?_
    refine zw_aload_n dX10_calls_18 rfl rfl ?_
    refine rz_intX hz dX10_calls_19 fX10_133 rfl (by decide) ?_
    refine zw_aload_n dX10_calls_22 rfl rfl ?_
    refine rz_intX hz dX10_calls_23 fX10_136 rfl (by decide) ?_
    refine rz_callX hz dX10_calls_26 eX10_calls_26 (c_fails hz _ _ _ _ _) rfl rfl (Nat.le_of_ble_eq_true rfl) (fun x26 X26 q26 => ?_)
    have hcal : calK S p ring n (X 28) (X 29) (X 30) = 1 := by unfold calK; rw [if_neg g9]
    exact rz_zret dX10_calls_29 rfl (by rw [q26.1]; rfl) (by unfold cal; rw [if_neg (by rw [hcal]; decide), hcal]; exact oc_no' (by decide) q26.1 rfl q26.2)
