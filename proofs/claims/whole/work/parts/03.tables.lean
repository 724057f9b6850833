/-! the tables as functions: class c's name, fields, number of fields, types; the good words and the nest words of the tables -/
def zt_R : Nat → String := fun c => match c with
  | 0 => RX0 | 1 => RX1 | 2 => RX2 | 3 => RX3 | 4 => RX4 | 5 => RX5 | 6 => RX6 | 7 => RX7 | 8 => RX8 | 9 => RX9 | _ => RX10
def zt_T : Nat → u_T := fun c => match c with
  | 0 => TX0 | 1 => TX1 | 2 => TX2 | 3 => TX3 | 4 => TX4 | 5 => TX5 | 6 => TX6 | 7 => TX7 | 8 => TX8 | 9 => TX9 | _ => TX10
def zt_N : Nat → Nat := fun c => match c with
  | 0 => 2 | 1 => 6 | 2 => 7 | 3 => 3 | 4 => 17 | 5 => 5 | 6 => 5 | 7 => 2 | 8 => 9 | 9 => 4 | _ => 31
def zt_F : Nat → Nat → FieldType := fun c => match c with
  | 0 => tyX0 | 1 => tyX1 | 2 => tyX2 | 3 => tyX3 | 4 => tyX4 | 5 => tyX5 | 6 => tyX6 | 7 => tyX7 | 8 => tyX8 | 9 => tyX9 | _ => tyX10
def zt_cl : List vw_C := [(RX0, TX0, 2), (RX1, TX1, 6), (RX2, TX2, 7), (RX3, TX3, 3), (RX4, TX4, 17), (RX5, TX5, 5), (RX6, TX6, 5), (RX7, TX7, 2), (RX8, TX8, 9), (RX9, TX9, 4), (RX10, TX10, 31)]
theorem zt_lt {c : Nat} (h : c < 11) : c = 0 ∨ c = 1 ∨ c = 2 ∨ c = 3 ∨ c = 4 ∨ c = 5 ∨ c = 6 ∨ c = 7 ∨ c = 8 ∨ c = 9 ∨ c = 10 := by omega
theorem zt_cl_at {c : Nat} (h : c < 11) : zt_cl[c]? = some (zt_R c, zt_T c, zt_N c) := by
  rcases zt_lt h with rfl | rfl | rfl | rfl | rfl | rfl | rfl | rfl | rfl | rfl | rfl <;> rfl
theorem zt_tyok {c : Nat} (h : c < 11) : ∀ k, k < zt_N c → parseFieldDescriptor (zt_T c k).2.2.1 = some (zt_F c k) := by
  rcases zt_lt h with rfl | rfl | rfl | rfl | rfl | rfl | rfl | rfl | rfl | rfl | rfl
  · exact tyX0_ok
  · exact tyX1_ok
  · exact tyX2_ok
  · exact tyX3_ok
  · exact tyX4_ok
  · exact tyX5_ok
  · exact tyX6_ok
  · exact tyX7_ok
  · exact tyX8_ok
  · exact tyX9_ok
  · exact tyX10_ok
theorem zt_nm {c : Nat} (h : c < 11) : ∀ a, a < zt_N c → ∀ b, b < zt_N c → a ≠ b → (zt_T c a).2.1 ≠ (zt_T c b).2.1 := by
  rcases zt_lt h with rfl | rfl | rfl | rfl | rfl | rfl | rfl | rfl | rfl | rfl | rfl
  · exact nmX0
  · exact nmX1
  · exact nmX2
  · exact nmX3
  · exact nmX4
  · exact nmX5
  · exact nmX6
  · exact nmX7
  · exact nmX8
  · exact nmX9
  · exact nmX10
def zt_isNest : Cond → Bool
  | .fieldLinkNest _ _ _ _ _ _ => true
  | .methodLinkNest _ _ _ _ => true
  | _ => false
def zt_good : List Cond := lw_tbl.filter goodWord
def zt_nest : List Cond := lw_tbl.filter zt_isNest
theorem zt_in {w : Cond} (i : Nat) (h : lw_tbl[i]? = some w) (hg : goodWord w = true) : w ∈ zt_good := List.mem_filter.mpr ⟨List.mem_of_getElem? h, hg⟩
theorem zt_inN {w : Cond} (i : Nat) (h : lw_tbl[i]? = some w) (hg : zt_isNest w = true) : w ∈ zt_nest := List.mem_filter.mpr ⟨List.mem_of_getElem? h, hg⟩
theorem zt_goodIn {a : Cond} {l : List Cond} (h : ∀ w ∈ a :: l, w ∈ zt_good) : GoodIn zt_good (a :: l) := fun w hw => ⟨h w hw, good_of_word (List.mem_filter.mp (h w hw)).2⟩
theorem zt_l0 : ∀ w ∈ u_ws RX0 TX0 2, w ∈ lw_tbl ∧ goodWord w = true := by decide +kernel
theorem zt_l1 : ∀ w ∈ u_ws RX1 TX1 6, w ∈ lw_tbl ∧ goodWord w = true := by decide +kernel
theorem zt_l2 : ∀ w ∈ u_ws RX2 TX2 7, w ∈ lw_tbl ∧ goodWord w = true := by decide +kernel
theorem zt_l3 : ∀ w ∈ u_ws RX3 TX3 3, w ∈ lw_tbl ∧ goodWord w = true := by decide +kernel
theorem zt_l4 : ∀ w ∈ u_ws RX4 TX4 17, w ∈ lw_tbl ∧ goodWord w = true := by decide +kernel
theorem zt_l5 : ∀ w ∈ u_ws RX5 TX5 5, w ∈ lw_tbl ∧ goodWord w = true := by decide +kernel
theorem zt_l6 : ∀ w ∈ u_ws RX6 TX6 5, w ∈ lw_tbl ∧ goodWord w = true := by decide +kernel
theorem zt_l7 : ∀ w ∈ u_ws RX7 TX7 2, w ∈ lw_tbl ∧ goodWord w = true := by decide +kernel
theorem zt_l8 : ∀ w ∈ u_ws RX8 TX8 9, w ∈ lw_tbl ∧ goodWord w = true := by decide +kernel
theorem zt_l9 : ∀ w ∈ u_ws RX9 TX9 4, w ∈ lw_tbl ∧ goodWord w = true := by decide +kernel
theorem zt_l10 : ∀ w ∈ u_ws RX10 TX10 31, w ∈ lw_tbl ∧ goodWord w = true := by decide +kernel
theorem zt_lays {c : Nat} (h : c < 11) : ∀ w ∈ u_ws (zt_R c) (zt_T c) (zt_N c), w ∈ zt_good := by
  intro w hw
  refine List.mem_filter.mpr ?_
  revert w
  rcases zt_lt h with rfl | rfl | rfl | rfl | rfl | rfl | rfl | rfl | rfl | rfl | rfl
  · exact zt_l0
  · exact zt_l1
  · exact zt_l2
  · exact zt_l3
  · exact zt_l4
  · exact zt_l5
  · exact zt_l6
  · exact zt_l7
  · exact zt_l8
  · exact zt_l9
  · exact zt_l10
