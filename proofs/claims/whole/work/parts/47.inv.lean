/-! what writing to a place leaves alone -/
section US
variable {S : ZT} {j k p s n : Nat} {v : Int32}
theorem us_at : us S j k v j k = v := by simp [us]
theorem us_ne {j' k' : Nat} (h : ¬ (j' = j ∧ k' = k)) : us S j k v j' k' = S j' k' := by unfold us; exact if_neg h
theorem sg_us (h : ¬ (j = 99 ∧ k = 14)) : sg (us S j k v) = sg S := by unfold sg; rw [us_ne (fun z => h ⟨z.1.symm, z.2.symm⟩)]
theorem wd_us (h : j ≠ 1) : wd (us S j k v) s = wd S s := by unfold wd; rw [us_ne (fun z => h z.1.symm)]
theorem df_us (h : j ≠ 10) : df (us S j k v) s = df S s := by unfold df; rw [us_ne (fun z => h z.1.symm)]
theorem kn_us (h : ¬ (j = 18 ∧ k = 40 * p + n)) : kn (us S j k v) p n = kn S p n := by unfold kn; rw [us_ne (fun z => h ⟨z.1.symm, z.2.symm⟩)]
theorem kc_us (h : ¬ (j = 15 ∧ k = 30 * p + 16)) : kc (us S j k v) p = kc S p := by unfold kc; rw [us_ne (fun z => h ⟨z.1.symm, z.2.symm⟩)]
theorem sOK_us (h : ¬ (j = 99 ∧ k = 14)) (h1 : j ≠ 1) (hs : sOK S) : sOK (us S j k v) := by
  obtain ⟨a, b, c⟩ := hs
  refine ⟨by rw [sg_us h, us_ne (fun z => h ⟨z.1.symm, z.2.symm⟩)]; exact a, by rw [sg_us h]; exact b, fun s hs => ?_⟩
  rw [sg_us h] at hs
  rw [wd_us h1, us_ne (fun z => h1 z.1.symm)]
  exact c s hs
theorem kOK_us (h : ¬ (j = 99 ∧ k = 14)) (h1 : j ≠ 18) (h2 : ¬ (j = 15 ∧ k = 30 * p + 16)) (hk : kOK S p) : kOK (us S j k v) p := by
  obtain ⟨a, b, c, d⟩ := hk
  refine ⟨by rw [kc_us h2, us_ne (fun z => h2 ⟨z.1.symm, z.2.symm⟩)]; exact a, by rw [kc_us h2]; exact b, by rw [kc_us h2]; exact c, fun n h8 hn => ?_⟩
  rw [kc_us h2] at hn
  rw [kn_us (fun z => h1 z.1), us_ne (fun z => h1 z.1.symm), sg_us h]
  exact d n h8 hn
theorem dOK_us (h : j ≠ 10) (hd : dOK S s) : dOK (us S j k v) s := by
  obtain ⟨a, b⟩ := hd
  exact ⟨by rw [df_us h, us_ne (fun z => h z.1.symm)]; exact a, by rw [df_us h]; exact b⟩
/-- coming to know a segment -/
theorem kOK_lr {q : Nat} (hk : kOK S p) (hr : lrN S p s = kc S p → kc S p < 40) (hs : s < sg S) (hsg : sg S ≤ 32) (hq : kOK S q) : kOK (lrS S p s) q := by
  unfold lrS
  split
  next h =>
    have h40 := hr h
    obtain ⟨a, b, c, d⟩ := hk
    by_cases e : q = p
    · subst e
      have e1 : kc (us (us S 18 (40 * q + kc S q) (nI s)) 15 (30 * q + 16) (nI (kc S q + 1))) q = kc S q + 1 := by
        show zn (us _ _ _ _ _ _) = _
        rw [us_at, zn_nI (by omega)]
      refine ⟨by rw [e1, us_at], by rw [e1]; omega, by rw [e1]; omega, fun n h8 hn => ?_⟩
      rw [e1] at hn
      rw [kn_us (by omega), us_ne (by omega), sg_us (by omega), sg_us (by omega)]
      by_cases en : n = kc S q
      · subst en
        have e2 : kn (us S 18 (40 * q + kc S q) (nI s)) q (kc S q) = s := by
          show zn (us _ _ _ _ _ _) = _
          rw [us_at, zn_nI (by omega)]
        rw [e2, us_at]
        exact ⟨rfl, hs⟩
      · rw [kn_us (by omega), us_ne (by omega)]
        exact d n h8 (by omega)
    · obtain ⟨a', b', c', d'⟩ := hq
      have e1 : kc (us (us S 18 (40 * p + kc S p) (nI s)) 15 (30 * p + 16) (nI (kc S p + 1))) q = kc S q := by rw [kc_us (by omega), kc_us (by omega)]
      refine ⟨by rw [e1, us_ne (by omega), us_ne (by omega)]; exact a', by rw [e1]; exact b', by rw [e1]; exact c', fun n h8 hn => ?_⟩
      rw [e1] at hn
      rw [kn_us (by omega), kn_us (by omega), us_ne (by omega), us_ne (by omega), sg_us (by omega), sg_us (by omega)]
      exact d' n h8 hn
  next => exact hq
theorem sOK_lr (hs : sOK S) : sOK (lrS S p s) := by
  unfold lrS
  split
  · exact sOK_us (by omega) (by omega) (sOK_us (by omega) (by omega) hs)
  · exact hs
theorem kOK_lnk {q : Nat} (hk : kOK S p) (hs : sOK S) (hr : rOK S p) (hq : kOK S q) : kOK (lnk S p s k) q := by
  have hsg := hs.2.1
  unfold lnk
  split
  · split
    · exact hq
    · split
      next h0 =>
        split
        · exact hq
        · rcases fnd_is S p (S 11 (16 * s + k)) with hu | ⟨u, hu1, hu2, -⟩
          · rw [hu] at h0; exact absurd h0 (by decide)
          · rw [hu2, zn_nI (by omega)]
            exact kOK_us (by omega) (by omega) (by omega) (kOK_us (by omega) (by omega) (by omega) (kOK_lr hk (hr u hu1) hu1 hs.2.1 hq))
      · exact hq
  · exact hq
theorem sOK_lnk (hs : sOK S) : sOK (lnk S p s k) := by
  unfold lnk
  split
  · split
    · exact hs
    · split
      · split
        · exact hs
        · exact sOK_us (by omega) (by omega) (sOK_us (by omega) (by omega) (sOK_lr hs))
      · exact hs
  · exact hs
end US
theorem bas_ok {S : ZT} {p q : Nat} {v : Int32} (hk : kOK S p) (hs : sOK S) (hr : rOK S p) (hq : kOK S q) : kOK (bas S p v).1 q ∧ sOK (bas S p v).1 := by
  unfold bas
  split
  · exact ⟨hq, hs⟩
  · split
    · exact ⟨hq, hs⟩
    · split
      · show kOK (if _ then _ else _ : ZO).1 q ∧ sOK (if _ then _ else _ : ZO).1
        split
        · exact ⟨kOK_lnk hk hs hr hq, sOK_lnk hs⟩
        · exact ⟨kOK_lnk hk hs hr hq, sOK_lnk hs⟩
      · exact ⟨hq, hs⟩
theorem adr_ok {S : ZT} {p q : Nat} {v : Int32} (hk : kOK S p) (hs : sOK S) (hr : rOK S p) (hq : kOK S q) : kOK (adr S p v).1 q ∧ sOK (adr S p v).1 := by
  unfold adr
  split
  · split
    · exact ⟨hq, hs⟩
    · exact ⟨hq, hs⟩
  · split
    · exact bas_ok hk hs hr hq
    · exact bas_ok hk hs hr hq
