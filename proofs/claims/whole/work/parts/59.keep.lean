/-! what a STEP leaves alone -/
def core (b : Bool) (p j k : Nat) : Prop := (b = true ∧ j = 99 ∧ k = 23) ∨ (j ≠ 7 ∧ j ≠ 15 ∧ j ≠ 16 ∧ j ≠ 17 ∧ j ≠ 19 ∧ j ≠ 20 ∧ j ≠ 21 ∧ j ≠ 22 ∧ j ≠ 99) ∨ (j = 15 ∧ (k % 30 = 16 ∨ ¬ k / 30 = p)) ∨ (j = 99 ∧ k = 14)
def keep (b : Bool) (p : Nat) (S S' : ZT) : Prop := ∀ j k, core b p j k → S' j k = S j k
section KP
variable {b : Bool} {S S1 S2 : ZT} {p : Nat}
theorem keep.rf : keep b p S S := fun _ _ _ => rfl
theorem keep.tr (h : keep b p S S1) (h2 : keep b p S1 S2) : keep b p S S2 := fun j k c => (h2 j k c).trans (h j k c)
theorem keep.us {j k : Nat} {v : Int32} (h : keep b p S S1) (hc : ¬ core b p j k) : keep b p S (us S1 j k v) := fun j' k' c => by rw [us_ne (fun z => hc (by rw [← z.1, ← z.2]; exact c))]; exact h j' k' c
theorem nc15 {i : Nat} (h : i < 30) (h16 : i ≠ 16) : ¬ core b p 15 (30 * p + i) := by unfold core; omega
theorem nc15' : ¬ core b p 15 (30 * p) := by unfold core; omega
theorem nc16 {k : Nat} : ¬ core b p 16 k := by unfold core; omega
theorem nc17 {k : Nat} : ¬ core b p 17 k := by unfold core; omega
theorem nc7 {k : Nat} : ¬ core b p 7 k := by unfold core; omega
theorem nc19 {k : Nat} : ¬ core b p 19 k := by unfold core; omega
theorem nc20 {k : Nat} : ¬ core b p 20 k := by unfold core; omega
theorem nc21 {k : Nat} : ¬ core b p 21 k := by unfold core; omega
theorem nc22 {k : Nat} : ¬ core b p 22 k := by unfold core; omega
theorem nc99 : ¬ core false p 99 23 := by unfold core; simp
theorem k_go {r n w : Int32} (h : keep b p S S1) : keep b p S (goS S1 p r n w) := ((h.us (nc15 (by omega) (by omega))).us (nc15 (by omega) (by omega))).us (nc15 (by omega) (by omega))
theorem k_pt {i : Nat} {r n w : Int32} (h : keep b p S S1) : keep b p S (ptS S1 p i r n w) := ((h.us nc16).us nc16).us nc16
theorem k_put {n k : Nat} {v : Int32} (h : keep b p S S1) : keep b p S (putW S1 p n k v) := by
  unfold putW
  split
  · exact h.us nc17
  · exact h.us nc7
theorem k_wk {o : Nat} {x : Int32} (h : keep b p S S1) : keep b p S (wk S1 p o x) := by
  unfold wk
  split
  · exact h.us (nc15 (by omega) (by omega))
  · exact h.us (nc15 (by omega) (by omega))
theorem k_op {v w x : Int32} (h : keep b p S S1) : keep b p S (opS S1 p v w x) := by
  unfold opS
  have hr := (f_r_n v).2
  refine keep.us ?_ (nc15 (by omega) (by omega))
  split
  · rw [show 30 * p + 4 + rN v = 30 * p + (4 + rN v) by omega]
    exact h.us (nc15 (by omega) (by omega))
  · exact k_wk h
theorem k_say (h : keep false p S S1) : keep false p S (sayS S1 p) := by
  unfold sayS
  refine keep.us ?_ nc99
  split
  · exact h
  · exact h.us nc22
theorem k_rs {to : Int32} (h : keep b p S S1) : ∀ n, keep b p S (rsF S1 p to n)
  | 0 => h
  | n + 1 => by
    unfold rsF
    split
    · exact k_rs h n
    · exact (k_rs h n).us nc16
theorem k_cp {j a i b' : Nat} (hc : ∀ k, ¬ core b p j (a + k) ∨ 24 ≤ k) (h : keep b p S S1) : ∀ n, n ≤ 24 → keep b p S (cpF S1 j a i b' n)
  | 0, _ => h
  | n + 1, hn => by
    unfold cpF
    exact (k_cp hc h n (by omega)).us ((hc n).resolve_right (by omega))
theorem k_cp8 {a i b' : Nat} (h : keep b p S S1) : ∀ n, n ≤ 8 → keep b p S (cpF S1 15 (30 * p + 1) i b' n)
  | 0, _ => h
  | n + 1, hn => by
    unfold cpF
    rw [show 30 * p + 1 + n = 30 * p + (1 + n) by omega]
    exact (k_cp8 (a := a) h n (by omega)).us (nc15 (by omega) (by omega))
theorem k_rsm (h : keep b p S S1) : keep b p S (rsm S1 p) := by
  unfold rsm
  refine keep.us (keep.us ?_ (nc15 (by omega) (by omega))) (nc15 (by omega) (by omega))
  exact k_cp (fun k => Or.inl nc16) (k_cp8 (a := 0) h 8 (by omega)) 24 (by omega)
theorem k_jmp {o : Nat} {ring w e n wh : Int32} : keep b p S (jmp S p o ring w e n wh).1 := by
  unfold jmp
  split
  · split
    · split
      · exact k_go keep.rf
      · exact keep.rf
    · exact keep.rf
  · exact keep.rf.us (nc15 (by omega) (by omega))
theorem k_cal {ring n w e num wh : Int32} : keep b p S (cal S p ring n w e num wh).1 := by
  unfold cal
  split
  · exact keep.us (k_go (k_pt (k_pt keep.rf))) (nc15 (by omega) (by omega))
  · exact keep.rf
theorem k_ret {ring e num wh : Int32} : keep b p S (ret' S p ring e num wh).1 := by
  unfold ret'
  split
  · show keep b p S (if _ then _ else _ : ZO).1
    split
    · split
      · exact keep.us (k_rs (k_go keep.rf) 8) (nc15 (by omega) (by omega))
      · exact keep.rf
    · exact keep.rf
  · exact keep.rf
theorem k_rsmO {ring : Int32} : keep b p S (rsmO S p ring).1 := by
  unfold rsmO
  split
  · split
    · exact keep.rf
    · exact k_rsm keep.rf
  · exact keep.rf
theorem e_ite {c : Prop} [Decidable c] {α : Type} {Pr : α → Prop} {a b : α} (h1 : Pr a) (h2 : Pr b) : Pr (if c then a else b) := by
  split
  · exact h1
  · exact h2
theorem k_ite {c : Prop} [Decidable c] {x y : ZO} (h1 : keep b p S x.1) (h2 : keep b p S y.1) : keep b p S (if c then x else y).1 := e_ite (Pr := fun o : ZO => keep b p S o.1) h1 h2
theorem k_dop {v ring n w e num wh : Int32} : keep false p S (dop S p v ring n w e num wh).1 := by
  have hr := (f_r_n v).2
  have e4 : 30 * p + 4 + rN v = 30 * p + (4 + rN v) := by omega
  unfold dop
  refine k_ite (k_ite (k_op keep.rf) (k_ite (k_op keep.rf) keep.rf)) (k_ite (k_ite ((k_put keep.rf).us (nc15 (by omega) (by omega))) keep.rf) (k_ite k_jmp (k_ite (keep.rf.us nc15') (k_ite ?_ (k_ite (k_ite ((k_pt keep.rf).us (nc15 (by omega) (by omega))) keep.rf) (k_ite k_cal (k_ite k_ret (k_ite ((keep.rf.us (nc15 (by omega) (by omega))).us (nc15 (by omega) (by omega))) (k_ite (k_ite ((k_say keep.rf).us (nc15 (by omega) (by omega))) keep.rf) k_rsmO)))))))))
  rw [e4]
  exact (keep.rf.us (nc15 (by omega) (by omega))).us (nc15 (by omega) (by omega))
theorem k_dop' {v ring n w e num wh : Int32} (h24 : ¬ oN v = 24) : keep true p S (dop S p v ring n w e num wh).1 := by
  have hr := (f_r_n v).2
  have e4 : 30 * p + 4 + rN v = 30 * p + (4 + rN v) := by omega
  have key : ∀ x : ZO, keep true p S (if oN v = 24 then x else rsmO S p ring).1 := fun x => by rw [if_neg h24]; exact k_rsmO
  unfold dop
  refine k_ite (k_ite (k_op keep.rf) (k_ite (k_op keep.rf) keep.rf)) (k_ite (k_ite ((k_put keep.rf).us (nc15 (by omega) (by omega))) keep.rf) (k_ite k_jmp (k_ite (keep.rf.us nc15') (k_ite ?_ (k_ite (k_ite ((k_pt keep.rf).us (nc15 (by omega) (by omega))) keep.rf) (k_ite k_cal (k_ite k_ret (k_ite ((keep.rf.us (nc15 (by omega) (by omega))).us (nc15 (by omega) (by omega))) (key _)))))))))
  rw [e4]
  exact (keep.rf.us (nc15 (by omega) (by omega))).us (nc15 (by omega) (by omega))
/-- S1 is S, or S with a segment more that the process knows -/
def lrn (S : ZT) (p : Nat) (S1 : ZT) : Prop := S1 = S ∨ ∃ s, s < sg S ∧ S1 = lrS S p s
theorem k_lnk {s k : Nat} (hs : sOK S) : ∃ S1, lrn S p S1 ∧ keep b p S1 (lnk S p s k) := by
  have hsg := hs.2.1
  unfold lnk
  split
  · split
    · exact ⟨S, Or.inl rfl, keep.rf⟩
    · split
      next h0 =>
        split
        · exact ⟨S, Or.inl rfl, keep.rf⟩
        · rcases fnd_is S p (S 11 (16 * s + k)) with hu | ⟨u, hu1, hu2, -⟩
          · rw [hu] at h0; exact absurd h0 (by decide)
          · rw [hu2, zn_nI (by omega)]
            exact ⟨lrS S p u, Or.inr ⟨u, hu1, rfl⟩, (keep.rf.us nc19).us nc20⟩
      · exact ⟨S, Or.inl rfl, keep.rf⟩
  · exact ⟨S, Or.inl rfl, keep.rf⟩
theorem k_bas {v : Int32} (hs : sOK S) : ∃ S1, lrn S p S1 ∧ keep b p S1 (bas S p v).1 := by
  unfold bas
  split
  · exact ⟨S, Or.inl rfl, keep.rf⟩
  · split
    · exact ⟨S, Or.inl rfl, keep.rf⟩
    · split
      · obtain ⟨S1, h1, h2⟩ := k_lnk (p := p) (s := kn S p (zn (S 15 (30 * p + 2)))) (k := zn (f_of v)) hs
        refine ⟨S1, h1, ?_⟩
        show keep b p S1 (if _ then _ else _ : ZO).1
        split
        · exact h2
        · exact h2
      · exact ⟨S, Or.inl rfl, keep.rf⟩
theorem k_adr {v : Int32} (hs : sOK S) : ∃ S1, lrn S p S1 ∧ keep b p S1 (adr S p v).1 := by
  unfold adr
  split
  · split
    · exact ⟨S, Or.inl rfl, keep.rf⟩
    · exact ⟨S, Or.inl rfl, keep.rf⟩
  · split
    · exact k_bas hs
    · exact k_bas hs
theorem k_do (hs : sOK S) : ∃ S1, lrn S p S1 ∧ keep false p S1 (doS S p).1 := by
  unfold doS
  refine e_ite (Pr := fun o : ZO => ∃ S1, lrn S p S1 ∧ keep false p S1 o.1) ?_ ⟨S, Or.inl rfl, keep.rf⟩
  refine e_ite (Pr := fun o : ZO => ∃ S1, lrn S p S1 ∧ keep false p S1 o.1) ⟨S, Or.inl rfl, keep.rf⟩ ?_
  refine e_ite (Pr := fun o : ZO => ∃ S1, lrn S p S1 ∧ keep false p S1 o.1) ?_ ⟨S, Or.inl rfl, k_dop⟩
  obtain ⟨S1, h1, h2⟩ := k_adr (p := p) (v := getW S p (zn (S 15 (30 * p + 2))) (zn (S 15 (30 * p + 3)))) hs
  exact e_ite (Pr := fun o : ZO => ∃ S1, lrn S p S1 ∧ keep false p S1 o.1) ⟨S1, h1, h2.tr k_dop⟩ ⟨S1, h1, h2⟩
theorem k_flt {k e n w : Int32} : keep b p S (flt S p k e n w) := by
  have h1 : keep b p S (flt1 S p k e n w) := ((((keep.rf.us (nc15 (by omega) (by omega))).us (nc15 (by omega) (by omega))).us (nc15 (by omega) (by omega))).us (nc15 (by omega) (by omega))).us (nc15 (by omega) (by omega))
  unfold flt
  show keep b p S (if _ then _ else _)
  split
  · exact h1.us nc15'
  · split
    · exact h1.us nc15'
    · unfold flt2
      exact k_pt (keep.us (k_go (keep.us (k_cp (fun k => Or.inl nc21) (k_cp (fun k => Or.inl nc21) h1 8 (by omega)) 24 (by omega)) (nc15 (by omega) (by omega)))) (nc15 (by omega) (by omega)))
end KP
/-! one STEP, and many -/
def stp (S : ZT) (p : Nat) : ZT :=
  let o := doS S p
  let S1 := if o.2.1 = 0 then o.1 else flt o.1 p (nI o.2.1) o.2.2.1 o.2.2.2.1 o.2.2.2.2
  us S1 15 (30 * p + 13) (S1 15 (30 * p + 13) + nI 1)
def rnF (p : Nat) : Nat → ZT → ZT × Nat
  | 0, S => (S, 0)
  | f + 1, S => if S 15 (30 * p) = nI 1 then ((rnF p f (stp S p)).1, (rnF p f (stp S p)).2 + 1) else (S, 0)
theorem k_stp {S : ZT} {p : Nat} (hs : sOK S) : ∃ S1, lrn S p S1 ∧ keep false p S1 (stp S p) := by
  obtain ⟨S1, h1, h2⟩ := k_do (p := p) hs
  refine ⟨S1, h1, ?_⟩
  unfold stp
  refine keep.us ?_ (nc15 (by omega) (by omega))
  split
  · exact h2
  · exact h2.tr k_flt
theorem us99 {S : ZT} {j k : Nat} {v : Int32} (h : j ≠ 99) : us S j k v 99 23 = S 99 23 := us_ne (fun z => h z.1.symm)
theorem say99 {S : ZT} {p : Nat} : sayS S p 99 23 = S 99 23 + nI 1 := by
  unfold sayS
  show us (if _ then _ else _) _ _ _ _ _ = _
  rw [us_at]
  split
  · rfl
  · rw [us99 (by omega)]
theorem keep.y {p : Nat} {S S' : ZT} (h : keep true p S S') : S' 99 23 = S 99 23 := h 99 23 (Or.inl ⟨rfl, rfl, rfl⟩)
theorem dop99 {S : ZT} {p : Nat} {v ring n w e num wh : Int32} : (dop S p v ring n w e num wh).1 99 23 = S 99 23 ∨ (dop S p v ring n w e num wh).1 99 23 = S 99 23 + nI 1 := by
  by_cases h : oN v = 24
  · rw [dop_24 (by omega), if_pos h]
    refine e_ite (Pr := fun o : ZO => o.1 99 23 = S 99 23 ∨ o.1 99 23 = S 99 23 + nI 1) (Or.inr ?_) (Or.inl rfl)
    show us (sayS S p) 15 (30 * p + 3) (w + nI 1) 99 23 = S 99 23 + nI 1
    rw [us99 (by omega), say99]
  · exact Or.inl (k_dop' h).y
theorem adr99 {S : ZT} {p : Nat} {v : Int32} : (adr S p v).1 99 23 = S 99 23 := by
  unfold adr
  split
  · split
    · rfl
    · rfl
  · split
    · exact bas_99
    · exact bas_99
theorem do99 {S : ZT} {p : Nat} : (doS S p).1 99 23 = S 99 23 ∨ (doS S p).1 99 23 = S 99 23 + nI 1 := by
  unfold doS
  refine e_ite (Pr := fun o : ZO => o.1 99 23 = S 99 23 ∨ o.1 99 23 = S 99 23 + nI 1) ?_ (Or.inl rfl)
  refine e_ite (Pr := fun o : ZO => o.1 99 23 = S 99 23 ∨ o.1 99 23 = S 99 23 + nI 1) (Or.inl rfl) ?_
  refine e_ite (Pr := fun o : ZO => o.1 99 23 = S 99 23 ∨ o.1 99 23 = S 99 23 + nI 1) (e_ite (Pr := fun o : ZO => o.1 99 23 = S 99 23 ∨ o.1 99 23 = S 99 23 + nI 1) ?_ (Or.inl adr99)) dop99
  rcases dop99 (S := (adr S p (getW S p (zn (S 15 (30 * p + 2))) (zn (S 15 (30 * p + 3))))).1) (p := p) (v := getW S p (zn (S 15 (30 * p + 2))) (zn (S 15 (30 * p + 3)))) (ring := S 15 (30 * p + 1)) (n := S 15 (30 * p + 2)) (w := S 15 (30 * p + 3)) (e := (adr S p (getW S p (zn (S 15 (30 * p + 2))) (zn (S 15 (30 * p + 3))))).2.2.1) (num := (adr S p (getW S p (zn (S 15 (30 * p + 2))) (zn (S 15 (30 * p + 3))))).2.2.2.1) (wh := (adr S p (getW S p (zn (S 15 (30 * p + 2))) (zn (S 15 (30 * p + 3))))).2.2.2.2) with h | h
  · exact Or.inl (h.trans adr99)
  · exact Or.inr (h.trans (by rw [adr99]))
theorem stp99 {S : ZT} {p : Nat} : stp S p 99 23 = S 99 23 ∨ stp S p 99 23 = S 99 23 + nI 1 := by
  have e : stp S p 99 23 = (doS S p).1 99 23 := by
    unfold stp
    show us (if _ then _ else _) _ _ _ _ _ = _
    rw [us99 (by omega)]
    split
    · rfl
    · exact (k_flt (b := true)).y
  rw [e]
  exact do99
/-! the invariant of the reference's state -/
def kD (S : ZT) (q : Nat) : Prop := ∀ m n, 8 ≤ m → m < kc S q → 8 ≤ n → n < kc S q → S 18 (40 * q + m) = S 18 (40 * q + n) → m = n
def RI (S : ZT) (B : Nat) : Prop := sOK S ∧ (∀ s, s < 32 → dOK S s) ∧ (∀ q, q < 4 → 0 < S 15 (30 * q) → kOK S q ∧ kD S q) ∧ (S 99 23 = nI (zn (S 99 23)) ∧ zn (S 99 23) ≤ B)
theorem php : ∀ (n : Nat) (f : Nat → Nat), (∀ i, i < n + 1 → f i < n) → ∃ i j, i < j ∧ j < n + 1 ∧ f i = f j
  | 0, f, h => absurd (h 0 (by omega)) (by omega)
  | n + 1, f, h => by
    by_cases hx : ∃ i, i < n + 1 ∧ f i = f (n + 1)
    · obtain ⟨i, h1, h2⟩ := hx
      exact ⟨i, n + 1, h1, by omega, h2⟩
    · have hne : ∀ i, i < n + 1 → f i ≠ f (n + 1) := fun i hi e => hx ⟨i, hi, e⟩
      obtain ⟨i, j, h1, h2, h3⟩ := php n (fun i => if f i = n then f (n + 1) else f i) (fun i hi => by
        have a := h i (by omega)
        have b := h (n + 1) (by omega)
        have c := hne i hi
        show (if f i = n then f (n + 1) else f i) < n
        split <;> omega)
      refine ⟨i, j, h1, by omega, ?_⟩
      have a := hne i (by omega)
      have b := hne j h2
      split at h3 <;> split at h3 <;> omega
theorem rOK_of {S : ZT} {p : Nat} (hs : sOK S) (hk : kOK S p) (hd : kD S p) : rOK S p := by
  intro s hs1 hl
  have hsg := hs.2.1
  obtain ⟨a, b, c, d⟩ := hk
  rcases Nat.lt_or_ge (kc S p) 40 with h | h
  · exact h
  · exfalso
    have e40 : kc S p = 40 := by omega
    have hne : ∀ n, 8 ≤ n → n < 40 → kn S p n ≠ s := fun n h1 h2 e => by
      have h3 := knF_ne S p s (kc S p - 8) 8 n h1 (by unfold lrN at hl; omega)
      rw [(d n h1 (by omega)).1, e] at h3
      exact h3 rfl
    obtain ⟨i, j, h1, h2, h3⟩ := php 31 (fun i => if kn S p (i + 8) < s then kn S p (i + 8) else kn S p (i + 8) - 1) (fun i hi => by
      have h1 := (d (i + 8) (by omega) (by omega)).2
      have h2 := hne (i + 8) (by omega) (by omega)
      show (if kn S p (i + 8) < s then kn S p (i + 8) else kn S p (i + 8) - 1) < 31
      split <;> omega)
    have g1 := hne (i + 8) (by omega) (by omega)
    have g2 := hne (j + 8) (by omega) (by omega)
    have g3 : kn S p (i + 8) = kn S p (j + 8) := by
      split at h3 <;> split at h3 <;> omega
    have g4 := hd (i + 8) (j + 8) (by omega) (by omega) (by omega) (by omega) (by rw [(d (i + 8) (by omega) (by omega)).1, (d (j + 8) (by omega) (by omega)).1, g3])
    omega
theorem kD_lr {S : ZT} {p q s : Nat} (hs : sOK S) (hk : kOK S p) (hs1 : s < sg S) (hr : lrN S p s = kc S p → kc S p < 40) (hq : kOK S q) (hd : kD S q) : kD (lrS S p s) q := by
  have hsg := hs.2.1
  unfold lrS
  split
  next h =>
    have h40 := hr h
    by_cases e : q = p
    · subst e
      have e1 : kc (us (us S 18 (40 * q + kc S q) (nI s)) 15 (30 * q + 16) (nI (kc S q + 1))) q = kc S q + 1 := by
        show zn (us _ _ _ _ _ _) = _
        rw [us_at, zn_nI (by omega)]
      have hn : ∀ n, 8 ≤ n → n < kc S q → S 18 (40 * q + n) ≠ nI s := fun n h1 h2 => knF_ne S q s (kc S q - 8) 8 n h1 (by unfold lrN at h; omega)
      intro m n h1 h2 h3 h4 h5
      rw [e1] at h2 h4
      rw [us_ne (S := us S 18 (40 * q + kc S q) (nI s)) (by omega), us_ne (S := us S 18 (40 * q + kc S q) (nI s)) (by omega)] at h5
      by_cases em : m = kc S q
      · by_cases en : n = kc S q
        · omega
        · rw [em, us_at, us_ne (by omega)] at h5
          exact absurd h5.symm (hn n h3 (by omega))
      · by_cases en : n = kc S q
        · rw [en, us_at, us_ne (by omega)] at h5
          exact absurd h5 (hn m h1 (by omega))
        · rw [us_ne (by omega), us_ne (by omega)] at h5
          exact hd m n h1 (by omega) h3 (by omega) h5
    · have e1 : kc (us (us S 18 (40 * p + kc S p) (nI s)) 15 (30 * p + 16) (nI (kc S p + 1))) q = kc S q := by rw [kc_us (by omega), kc_us (by omega)]
      have h40' := hq.2.2.1
      intro m n h1 h2 h3 h4 h5
      rw [e1] at h2 h4
      rw [us_ne (by omega), us_ne (by omega), us_ne (by omega), us_ne (by omega)] at h5
      exact hd m n h1 h2 h3 h4 h5
  next => exact hd
/-- what keeps the core keeps the invariant -/
theorem RI_keep {S S' : ZT} {B B' p : Nat} (h : keep false p S S') (hR : RI S B) (hp : kOK S p ∧ kD S p) (hy : S' 99 23 = nI (zn (S' 99 23)) ∧ zn (S' 99 23) ≤ B') : RI S' B' := by
  obtain ⟨hs, hd, hq, -⟩ := hR
  have c1 : ∀ {j k : Nat}, (j ≠ 7 ∧ j ≠ 15 ∧ j ≠ 16 ∧ j ≠ 17 ∧ j ≠ 19 ∧ j ≠ 20 ∧ j ≠ 21 ∧ j ≠ 22 ∧ j ≠ 99) → S' j k = S j k := fun h1 => h _ _ (Or.inr (Or.inl h1))
  have esg : S' 99 14 = S 99 14 := h _ _ (Or.inr (Or.inr (Or.inr ⟨rfl, rfl⟩)))
  have e16 : ∀ q, S' 15 (30 * q + 16) = S 15 (30 * q + 16) := fun q => h _ _ (Or.inr (Or.inr (Or.inl ⟨rfl, Or.inl (by omega)⟩)))
  have fsg : sg S' = sg S := by unfold sg; rw [esg]
  have fkc : ∀ q, kc S' q = kc S q := fun q => by unfold kc; rw [e16]
  have fkn : ∀ q n, kn S' q n = kn S q n := fun q n => by unfold kn; rw [c1 (by omega)]
  have fwd : ∀ s, wd S' s = wd S s := fun s => by unfold wd; rw [c1 (by omega)]
  have fdf : ∀ s, df S' s = df S s := fun s => by unfold df; rw [c1 (by omega)]
  have hk : ∀ q, kOK S q → kOK S' q := fun q ⟨a, b, c, d⟩ => ⟨by rw [e16, fkc]; exact a, by rw [fkc]; exact b, by rw [fkc]; exact c, fun n h8 hn => by
    rw [fkc] at hn
    rw [c1 (by omega), fkn, fsg]
    exact d n h8 hn⟩
  have hdd : ∀ q, kD S q → kD S' q := fun q hd m n h1 h2 h3 h4 h5 => by
    rw [fkc] at h2 h4
    rw [c1 (by omega), c1 (by omega)] at h5
    exact hd m n h1 h2 h3 h4 h5
  refine ⟨⟨by rw [esg, fsg]; exact hs.1, by rw [fsg]; exact hs.2.1, fun s h1 => ?_⟩, fun s h1 => ⟨?_, ?_⟩, fun q h4 h0 => ?_, hy⟩
  · rw [fsg] at h1
    rw [c1 (by omega), fwd]
    exact hs.2.2 s h1
  · rw [c1 (by omega), fdf]
    exact (hd s h1).1
  · rw [fdf]
    exact (hd s h1).2
  · by_cases e : q = p
    · subst e
      exact ⟨hk q hp.1, hdd q hp.2⟩
    · rw [h 15 (30 * q) (Or.inr (Or.inr (Or.inl ⟨rfl, Or.inr (by omega)⟩)))] at h0
      exact ⟨hk q (hq q h4 h0).1, hdd q (hq q h4 h0).2⟩
theorem RI_lr {S : ZT} {B p s : Nat} (hR : RI S B) (hp : kOK S p ∧ kD S p) (hs1 : s < sg S) : RI (lrS S p s) B ∧ kOK (lrS S p s) p ∧ kD (lrS S p s) p := by
  have hr := rOK_of hR.1 hp.1 hp.2 s hs1
  have ek : kOK (lrS S p s) p ∧ kD (lrS S p s) p := ⟨kOK_lr hp.1 hr hs1 hR.1.2.1 hp.1, kD_lr hR.1 hp.1 hs1 hr hp.1 hp.2⟩
  refine ⟨⟨sOK_lr hR.1, fun t ht => ?_, fun q h4 h0 => ?_, ?_⟩, ek⟩
  · unfold lrS
    split
    · exact dOK_us (by omega) (dOK_us (by omega) (hR.2.1 t ht))
    · exact hR.2.1 t ht
  · have e0 : lrS S p s 15 (30 * q) = S 15 (30 * q) := by
      unfold lrS
      split
      · rw [us_ne (by omega), us_ne (by omega)]
      · rfl
    rw [e0] at h0
    have hq := hR.2.2.1 q h4 h0
    exact ⟨kOK_lr hp.1 hr hs1 hR.1.2.1 hq.1, kD_lr hR.1 hp.1 hs1 hr hq.1 hq.2⟩
  · rw [lr_99]
    exact hR.2.2.2
theorem yOK_next {x : Int32} {B : Nat} {y : Int32} (h : x = nI (zn x) ∧ zn x ≤ B) (hB : B < 2 ^ 30) (hy : y = x ∨ y = x + nI 1) : y = nI (zn y) ∧ zn y ≤ B + 1 := by
  rcases hy with e | e
  · rw [e]; exact ⟨h.1, by omega⟩
  · have e2 : y = nI (zn x + 1) := by
      rw [e]
      conv => lhs; rw [h.1]
      rw [nI_add]
    rw [e2, zn_nI (by omega)]
    exact ⟨rfl, by omega⟩
theorem RI_stp {S : ZT} {B p : Nat} (hR : RI S B) (hB : B < 2 ^ 30) (hp : kOK S p ∧ kD S p) : RI (stp S p) (B + 1) ∧ kOK (stp S p) p ∧ kD (stp S p) p := by
  obtain ⟨S1, h1, h2⟩ := k_stp (p := p) hR.1
  have hR1 : RI S1 B ∧ kOK S1 p ∧ kD S1 p := by
    rcases h1 with rfl | ⟨s, hs1, rfl⟩
    · exact ⟨hR, hp⟩
    · exact RI_lr hR hp hs1
  have hy := yOK_next hR.2.2.2 hB (stp99 (S := S) (p := p))
  have hRR := RI_keep h2 hR1.1 hR1.2 hy
  refine ⟨hRR, ?_⟩
  have e16 : stp S p 15 (30 * p + 16) = S1 15 (30 * p + 16) := h2 _ _ (Or.inr (Or.inr (Or.inl ⟨rfl, Or.inl (by omega)⟩)))
  have e18 : ∀ k, stp S p 18 k = S1 18 k := fun k => h2 _ _ (Or.inr (Or.inl (by omega)))
  have esg : stp S p 99 14 = S1 99 14 := h2 _ _ (Or.inr (Or.inr (Or.inr ⟨rfl, rfl⟩)))
  have fkc : kc (stp S p) p = kc S1 p := by unfold kc; rw [e16]
  have fsg : sg (stp S p) = sg S1 := by unfold sg; rw [esg]
  have fkn : ∀ n, kn (stp S p) p n = kn S1 p n := fun n => by unfold kn; rw [e18]
  obtain ⟨⟨a, b, c, d⟩, k⟩ := hR1.2
  refine ⟨⟨by rw [e16, fkc]; exact a, by rw [fkc]; exact b, by rw [fkc]; exact c, fun n h8 hn => ?_⟩, fun m n g1 g2 g3 g4 g5 => ?_⟩
  · rw [fkc] at hn
    rw [e18, fkn, fsg]
    exact d n h8 hn
  · rw [fkc] at g2 g4
    rw [e18, e18] at g5
    exact k m n g1 g2 g3 g4 g5
