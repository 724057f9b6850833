/-! ===== Int32 by its bits: bt x i ===== -/
def bt (x : Int32) (i : Nat) : Bool := x.toBitVec.getLsbD i
theorem b_ext {x y : Int32} (h : ∀ i, i < 32 → bt x i = bt y i) : x = y := Int32.toBitVec_inj.mp (BitVec.eq_of_getLsbD_eq (fun i hi => h i hi))
theorem b_or (x y : Int32) (i : Nat) : bt (x ||| y) i = (bt x i || bt y i) := by unfold bt; rw [Int32.toBitVec_or, BitVec.getLsbD_or]
theorem b_and (x y : Int32) (i : Nat) : bt (x &&& y) i = (bt x i && bt y i) := by unfold bt; rw [Int32.toBitVec_and, BitVec.getLsbD_and]
theorem b_xor (x y : Int32) (i : Nat) : bt (x ^^^ y) i = (bt x i ^^ bt y i) := by unfold bt; rw [Int32.toBitVec_xor, BitVec.getLsbD_xor]
theorem b_big {x : Int32} {i : Nat} (h : 32 ≤ i) : bt x i = false := BitVec.getLsbD_of_ge _ _ h
theorem b_255 (i : Nat) : bt 255 i = decide (i < 8) := by
  rcases Nat.lt_or_ge i 32 with h | h
  · exact (by decide +kernel : ∀ i, i < 32 → bt 255 i = decide (i < 8)) i h
  · rw [b_big h, decide_eq_false (by omega)]
theorem b_65535 (i : Nat) : bt 65535 i = decide (i < 16) := by
  rcases Nat.lt_or_ge i 32 with h | h
  · exact (by decide +kernel : ∀ i, i < 32 → bt 65535 i = decide (i < 16)) i h
  · rw [b_big h, decide_eq_false (by omega)]
theorem b_m1 : ∀ i, i < 32 → bt (-1) i = true := by decide +kernel
theorem b_0 (i : Nat) : bt 0 i = false := BitVec.getLsbD_zero
theorem s_l : ∀ n, n < 32 → ((nI n &&& 31).toBitVec.smod 32).toNat = n := by decide +kernel
theorem s_u : ∀ n, n < 32 → (((nI n).toUInt32 &&& Int32.toUInt32 31).toBitVec % 32).toNat = n := by decide +kernel
theorem b_shl (n : Nat) (hn : n < 32) (x : Int32) {i : Nat} (hi : i < 32) : bt (x <<< (nI n &&& 31)) i = (decide (n ≤ i) && bt x (i - n)) := by
  unfold bt
  rw [Int32.toBitVec_shiftLeft]
  show (x.toBitVec <<< ((nI n &&& 31).toBitVec.smod 32).toNat).getLsbD i = _
  rw [s_l n hn, BitVec.getLsbD_shiftLeft]
  rcases Nat.lt_or_ge i n with h | h
  · simp [h, Nat.not_le.mpr h]
  · simp [hi, h, Nat.not_lt.mpr h]
theorem b_ushr (n : Nat) (hn : n < 32) (x : Int32) (i : Nat) : bt ((x.toUInt32 >>> ((nI n).toUInt32 &&& Int32.toUInt32 31)).toInt32) i = bt x (n + i) := by
  show (x.toUInt32 >>> ((nI n).toUInt32 &&& Int32.toUInt32 31)).toBitVec.getLsbD i = x.toUInt32.toBitVec.getLsbD (n + i)
  rw [UInt32.toBitVec_shiftRight]
  show (x.toUInt32.toBitVec >>> (((nI n).toUInt32 &&& Int32.toUInt32 31).toBitVec % 32).toNat).getLsbD i = _
  rw [s_u n hn, BitVec.getLsbD_ushiftRight]
theorem b_sshr (n : Nat) (hn : n < 32) (x : Int32) {i : Nat} (hi : i < 32) : bt (x >>> (nI n &&& 31)) i = if n + i < 32 then bt x (n + i) else bt x 31 := by
  unfold bt
  rw [Int32.toBitVec_shiftRight]
  show (x.toBitVec.sshiftRight ((nI n &&& 31).toBitVec.smod 32).toNat).getLsbD i = _
  rw [s_l n hn, BitVec.getLsbD_sshiftRight, BitVec.msb_eq_getLsbD_last]
  simp [hi]
/-- an unsigned shift under a small mask is the signed one -/
theorem u_sh (n : Nat) (hn : n < 32) (m : Int32) (hm : ∀ i, i < 32 → 32 - n ≤ i → bt m i = false) (v : Int32) : (v.toUInt32 >>> ((nI n).toUInt32 &&& Int32.toUInt32 31)).toInt32 &&& m = (v >>> (nI n &&& 31)) &&& m := by
  apply b_ext
  intro i hi
  rw [b_and, b_and, b_ushr n hn, b_sshr n hn v hi]
  by_cases h : n + i < 32
  · rw [if_pos h]
  · rw [hm i hi (by omega), Bool.and_false, Bool.and_false]
theorem u_pn (v : Int32) : (v.toUInt32 >>> ((nI 16).toUInt32 &&& Int32.toUInt32 31)).toInt32 &&& nI 4095 = pw_n v := u_sh 16 (by omega) (nI 4095) (by decide +kernel) v
theorem u_pr (v : Int32) : (v.toUInt32 >>> ((nI 28).toUInt32 &&& Int32.toUInt32 31)).toInt32 &&& nI 7 = pw_r v := u_sh 28 (by omega) (nI 7) (by decide +kernel) v
theorem u_i (v : Int32) : (v.toUInt32 >>> ((nI 26).toUInt32 &&& Int32.toUInt32 31)).toInt32 &&& nI 1 = f_i v := u_sh 26 (by omega) (nI 1) (by decide +kernel) v
theorem u_md (v : Int32) : (v.toUInt32 >>> ((nI 24).toUInt32 &&& Int32.toUInt32 31)).toInt32 &&& nI 3 = f_md v := u_sh 24 (by omega) (nI 3) (by decide +kernel) v
theorem u_n (v : Int32) : (v.toUInt32 >>> ((nI 21).toUInt32 &&& Int32.toUInt32 31)).toInt32 &&& nI 7 = f_n v := u_sh 21 (by omega) (nI 7) (by decide +kernel) v
theorem u_x (v : Int32) : (v.toUInt32 >>> ((nI 19).toUInt32 &&& Int32.toUInt32 31)).toInt32 &&& nI 3 = f_x v := u_sh 19 (by omega) (nI 3) (by decide +kernel) v
theorem u_r (v : Int32) : (v.toUInt32 >>> ((nI 16).toUInt32 &&& Int32.toUInt32 31)).toInt32 &&& nI 7 = f_r v := u_sh 16 (by omega) (nI 7) (by decide +kernel) v
theorem u_of (v : Int32) : (v <<< (nI 16 &&& 31)) >>> (nI 16 &&& 31) = f_of v := by
  apply b_ext
  intro i hi
  have e : bt (f_of v) i = if i < 16 then bt v i else bt v 15 := by
    unfold bt f_of
    rw [Int16.toBitVec_toInt32, Int32.toBitVec_toInt16, BitVec.getLsbD_signExtend]
    by_cases h : i < 16
    · simp [hi, h]
    · simp [hi, h, BitVec.msb_eq_getLsbD_last]
  rw [e, b_sshr 16 (by omega) _ hi]
  by_cases h : i < 16
  · rw [if_pos (by omega), if_pos h, b_shl 16 (by omega) _ (by omega)]
    simp
  · rw [if_neg (by omega), if_neg h, b_shl 16 (by omega) _ (by omega)]
    simp
