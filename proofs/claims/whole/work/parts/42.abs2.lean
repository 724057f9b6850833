section CK
variable {S : ZT} {p how : Nat} {e n w : Int32}
theorem canK_1 (h : ¬ zin n (kc S p)) : canK S p e n w how = 1 := by unfold canK; rw [if_neg h]
theorem canK_2 (h1 : zin n (kc S p)) (h2 : ¬ zin w (sz S p (zn n))) : canK S p e n w how = 2 := by unfold canK; rw [if_pos h1, if_neg h2]
theorem canK_3 (h1 : zin n (kc S p)) (h2 : zin w (sz S p (zn n))) (h3 : ¬ mayb S p e (zn n) how = true) : canK S p e n w how = 3 + how := by unfold canK; rw [if_pos h1, if_pos h2, if_neg h3]
theorem canK_0 (h1 : zin n (kc S p)) (h2 : zin w (sz S p (zn n))) (h3 : mayb S p e (zn n) how = true) : canK S p e n w how = 0 := by unfold canK; rw [if_pos h1, if_pos h2, if_pos h3]
theorem canK_0' (h : canK S p e n w how = 0) : zin n (kc S p) ∧ zin w (sz S p (zn n)) ∧ mayb S p e (zn n) how = true := by
  unfold canK at h
  split at h
  next h1 =>
    split at h
    next h2 =>
      split at h
      next h3 => exact ⟨h1, h2, h3⟩
      next => omega
    next => omega
  next => omega
theorem canK_le : canK S p e n w how ≤ 3 + how := by
  unfold canK
  split
  · split
    · split <;> omega
    · omega
  · omega
theorem sz_le (hk : kOK S p) (hs : sOK S) {m : Nat} (hm : m < kc S p) : 1 ≤ sz S p m ∧ sz S p m ≤ 256 := by
  unfold sz
  by_cases h : m < 8
  · rw [if_pos h]; omega
  · rw [if_neg h]
    have h1 := (hk.2.2.2 m (by omega) hm).2
    have h2 := hs.2.2 _ h1
    omega
end CK
