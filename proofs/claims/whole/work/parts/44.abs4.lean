/-! the fields of an order -/
def f_op (v : Int32) : Int32 := (v.toUInt32 >>> ((nI 27).toUInt32 &&& Int32.toUInt32 31)).toInt32
def f_md (v : Int32) : Int32 := (v >>> (nI 24 &&& 31)) &&& nI 3
def f_x (v : Int32) : Int32 := (v >>> (nI 19 &&& 31)) &&& nI 3
def f_n (v : Int32) : Int32 := (v >>> (nI 21 &&& 31)) &&& nI 7
def f_r (v : Int32) : Int32 := (v >>> (nI 16 &&& 31)) &&& nI 7
def f_i (v : Int32) : Int32 := (v >>> (nI 26 &&& 31)) &&& nI 1
def f_of (v : Int32) : Int32 := v.toInt16.toInt32
def oN (v : Int32) : Nat := zn (f_op v)
def mN (v : Int32) : Nat := zn (f_md v)
def xN (v : Int32) : Nat := zn (f_x v)
def nN (v : Int32) : Nat := zn (f_n v)
def rN (v : Int32) : Nat := zn (f_r v)
def iN (v : Int32) : Nat := zn (f_i v)
theorem f_and (x m : Int32) (k : Nat) (hm : m.toBitVec.toNat = 2 ^ k - 1) (hk : k ≤ 30) : x &&& m = nI (zn (x &&& m)) ∧ zn (x &&& m) < 2 ^ k := by
  obtain ⟨j, hj, e⟩ := pk_andE x k hm
  have h30 : 2 ^ k ≤ 2 ^ 30 := Nat.pow_le_pow_right (by omega) hk
  rw [e, zn_nI (by omega)]
  exact ⟨rfl, hj⟩
theorem f_md_n (v : Int32) : f_md v = nI (mN v) ∧ mN v < 4 := f_and _ (nI 3) 2 (by decide) (by omega)
theorem f_x_n (v : Int32) : f_x v = nI (xN v) ∧ xN v < 4 := f_and _ (nI 3) 2 (by decide) (by omega)
theorem f_n_n (v : Int32) : f_n v = nI (nN v) ∧ nN v < 8 := f_and _ (nI 7) 3 (by decide) (by omega)
theorem f_r_n (v : Int32) : f_r v = nI (rN v) ∧ rN v < 8 := f_and _ (nI 7) 3 (by decide) (by omega)
theorem f_i_n (v : Int32) : f_i v = nI (iN v) ∧ iN v < 2 := f_and _ (nI 1) 1 (by decide) (by omega)
theorem f_tn (x : Int32) (h : x.toBitVec.toNat < 2 ^ 31) : x = nI x.toBitVec.toNat := by
  apply Int32.toBitVec_inj.mp
  apply BitVec.eq_of_toNat_eq
  rw [pk_tn (by omega)]
theorem f_op_n (v : Int32) : f_op v = nI (oN v) ∧ oN v < 32 := by
  have h := pk_ushr v (nI 27) 27 (by decide)
  have hl : v.toBitVec.toNat < 2 ^ 32 := v.toBitVec.isLt
  have h2 : (f_op v).toBitVec.toNat < 32 := by
    show ((v.toUInt32 >>> ((nI 27).toUInt32 &&& Int32.toUInt32 31)).toInt32).toBitVec.toNat < 32
    rw [h]
    omega
  have e := f_tn (f_op v) (by omega)
  have e2 : oN v = (f_op v).toBitVec.toNat := by
    unfold oN
    rw [e, zn_nI (by omega), pk_tn (by omega)]
  rw [e2]
  exact ⟨e, h2⟩
/-- no order, or an order that its fields don't allow -/
abbrev bad (v : Int32) : Prop := 25 < oN v ∨ (mN v = 3 ∧ (oN v = 2 ∨ (10 ≤ oN v ∧ oN v ≤ 14) ∨ oN v = 16 ∨ (18 ≤ oN v ∧ oN v ≤ 23))) ∨ ((15 ≤ oN v ∧ oN v ≤ 17) ∧ ¬ (1 ≤ rN v ∧ rN v ≤ 3))
