/-! linking and the making of an ADDRESS, as functions -/
def fndF (S : ZT) (p : Nat) (nm : Int32) : Nat → Nat → Int32 → Int32
  | 0, _, a => a
  | f + 1, t, a => fndF S p nm f (t + 1) (if S 0 t = nm ∧ ¬ S 6 (4 * t + p) = 0 then nI t else a)
def fnd (S : ZT) (p : Nat) (nm : Int32) : Int32 := fndF S p nm (sg S) 0 (-1)
theorem fndF_is (S : ZT) (p : Nat) (nm : Int32) : ∀ f t a, fndF S p nm f t a = a ∨ ∃ u, t ≤ u ∧ u < t + f ∧ fndF S p nm f t a = nI u ∧ S 0 u = nm ∧ ¬ S 6 (4 * u + p) = 0
  | 0, t, a => Or.inl rfl
  | f + 1, t, a => by
    rw [fndF]
    rcases fndF_is S p nm f (t + 1) (if S 0 t = nm ∧ ¬ S 6 (4 * t + p) = 0 then nI t else a) with h | ⟨u, h1, h2, h3⟩
    · by_cases hc : S 0 t = nm ∧ ¬ S 6 (4 * t + p) = 0
      · rw [if_pos hc] at h ⊢
        exact Or.inr ⟨t, by omega, by omega, h, hc⟩
      · rw [if_neg hc] at h ⊢
        exact Or.inl h
    · exact Or.inr ⟨u, by omega, by omega, h3⟩
theorem fnd_is (S : ZT) (p : Nat) (nm : Int32) : fnd S p nm = -1 ∨ ∃ u, u < sg S ∧ fnd S p nm = nI u ∧ S 0 u = nm ∧ ¬ S 6 (4 * u + p) = 0 := by
  rcases fndF_is S p nm (sg S) 0 (-1) with h | ⟨u, h1, h2, h3⟩
  · exact Or.inl h
  · exact Or.inr ⟨u, by omega, h3⟩
def lnk (S : ZT) (p s k : Nat) : ZT :=
  if S 19 (512 * p + 16 * s + k) = 0 then (if S 13 (16 * s + k) = 0 then S else
    (if 0 ≤ fnd S p (S 11 (16 * s + k)) then
      (if wof S (zn (fnd S p (S 11 (16 * s + k)))) (S 12 (16 * s + k)) < 0 then S else
        us (us (lrS S p (zn (fnd S p (S 11 (16 * s + k))))) 19 (512 * p + 16 * s + k) (nI (lrN S p (zn (fnd S p (S 11 (16 * s + k))))))) 20 (512 * p + 16 * s + k) (wof S (zn (fnd S p (S 11 (16 * s + k)))) (S 12 (16 * s + k))))
    else S)) else S
def lnkP (S1 : ZT) (p i : Nat) (n k : Int32) (X : ZX) : Int32 → ZT → ZX → Prop := fun x S' X' => S' = S1 ∧ (0 < S1 19 i → x = 1 ∧ X' = ux (ux X 29 (S1 19 i)) 30 (S1 20 i)) ∧ (¬ 0 < S1 19 i → x = 0 ∧ X' = fX X (nI 12) (S1 15 (30 * p + 1)) n k)
/-- a process may always come to know one segment more -/
def rOK (S : ZT) (p : Nat) : Prop := ∀ s, s < sg S → lrN S p s = kc S p → kc S p < 40
def mx (a b : Int32) : Int32 := if a ≤ b then b else a
def xv (S : ZT) (p : Nat) (v : Int32) : Int32 := if xN v = 0 then nI 0 else S 15 (30 * p + 4 + xN v)
def chF (S : ZT) (p : Nat) : Nat → Int32 → Int32 → Int32 → Nat × Int32 × Int32 × Int32
  | 0, e, n, w => (11, e, n, w)
  | f + 1, e, n, w => if canK S p e n w 0 = 0 then
      (let v := getW S p (zn n) (zn w)
       let e2 := mx (pw_r v) (mx (rg S p (zn n) 1) e)
       if 0 ≤ v then (0, e2, pw_n v, pw_w v) else chF S p f e2 (pw_n v) (pw_w v))
    else (canK S p e n w 0, e, n, w)
def bas (S : ZT) (p : Nat) (v : Int32) : ZO :=
  if mN v = 0 then (S, 0, S 15 (30 * p + 1), S 15 (30 * p + 2), f_of v)
  else (if mN v = 1 then (S, 0, mx (S 16 (24 * p + 3 * nN v)) (S 15 (30 * p + 1)), S 16 (24 * p + 3 * nN v + 1), S 16 (24 * p + 3 * nN v + 2) + f_of v)
  else (if 8 ≤ zn (S 15 (30 * p + 2)) ∧ zin (f_of v) 16 then
    (let S1 := lnk S p (kn S p (zn (S 15 (30 * p + 2)))) (zn (f_of v))
     let i := 512 * p + 16 * kn S p (zn (S 15 (30 * p + 2))) + zn (f_of v)
     if 0 < S1 19 i then (S1, 0, S 15 (30 * p + 1), S1 19 i, S1 20 i) else (S1, 12, S1 15 (30 * p + 1), S 15 (30 * p + 2), f_of v))
    else (S, 12, S 15 (30 * p + 1), S 15 (30 * p + 2), f_of v)))
def fin (S : ZT) (p : Nat) (v e n w : Int32) : Nat × Int32 × Int32 × Int32 := if iN v = 1 then chF S p 8 e n (w + xv S p v) else (0, e, n, w + xv S p v)
def adr (S : ZT) (p : Nat) (v : Int32) : ZO :=
  if mN v = 3 then (if iN v = 1 then here S p 13 else (S, 0, S 15 (30 * p + 1), 0, f_of v + xv S p v))
  else (if (bas S p v).2.1 = 0 then ((bas S p v).1, fin (bas S p v).1 p v (bas S p v).2.2.1 (bas S p v).2.2.2.1 (bas S p v).2.2.2.2) else bas S p v)
def adP (S : ZT) (p : Nat) (v : Int32) : Int32 → ZT → ZX → Prop := fun x S' X' => S' = (adr S p v).1 ∧ ((adr S p v).2.1 = 0 → x = 1 ∧ X' 28 = (adr S p v).2.2.1 ∧ (mN v ≠ 3 → X' 29 = (adr S p v).2.2.2.1) ∧ X' 30 = (adr S p v).2.2.2.2) ∧ ((adr S p v).2.1 ≠ 0 → x = 0 ∧ X' 24 = nI (adr S p v).2.1 ∧ X' 25 = (adr S p v).2.2.1 ∧ X' 26 = (adr S p v).2.2.2.1 ∧ X' 27 = (adr S p v).2.2.2.2)
def chP (S : ZT) (c : Nat × Int32 × Int32 × Int32) : Int32 → ZT → ZX → Prop := fun x S' X' => S' = S ∧ (c.1 = 0 → x = 1 ∧ X' 28 = c.2.1 ∧ X' 29 = c.2.2.1 ∧ X' 30 = c.2.2.2) ∧ (c.1 ≠ 0 → x = 0 ∧ X' 24 = nI c.1 ∧ X' 25 = c.2.1 ∧ X' 26 = c.2.2.1 ∧ X' 27 = c.2.2.2)
theorem adP_of {S S1 : ZT} {p : Nat} {v e n w x : Int32} {S' : ZT} {X' : ZX} (hm : ¬ mN v = 3) (eb : bas S p v = (S1, 0, e, n, w)) (h : chP S1 (fin S1 p v e n w) x S' X') : adP S p v x S' X' := by
  have ea : adr S p v = (S1, fin S1 p v e n w) := by unfold adr; rw [if_neg hm, eb]; exact if_pos rfl
  unfold adP
  rw [ea]
  exact ⟨h.1, fun z => ⟨(h.2.1 z).1, (h.2.1 z).2.1, fun _ => (h.2.1 z).2.2.1, (h.2.1 z).2.2.2⟩, h.2.2⟩
theorem adP_no {S S1 : ZT} {p k : Nat} {v e n w : Int32} {X : ZX} (hm : ¬ mN v = 3) (eb : bas S p v = (S1, k, e, n, w)) (hk : k ≠ 0) : adP S p v 0 S1 (fX X (nI k) e n w) := by
  have ea : adr S p v = (S1, k, e, n, w) := by unfold adr; rw [if_neg hm, eb]; exact if_neg hk
  unfold adP
  rw [ea]
  exact ⟨rfl, fun z => absurd z hk, fun _ => ⟨rfl, rfl, rfl, rfl, rfl⟩⟩
