/-! searches: in the definitions of a segment, among a process's known segments -/
def wofF (S : ZT) (s : Nat) (y : Int32) : Nat → Nat → Int32
  | 0, _ => -1
  | f + 1, k => if S 8 (16 * s + k) = y then S 9 (16 * s + k) else wofF S s y f (k + 1)
def wof (S : ZT) (s : Nat) (y : Int32) : Int32 := wofF S s y (df S s) 0
def knF (S : ZT) (p s : Nat) : Nat → Nat → Nat
  | 0, n => n
  | f + 1, n => if S 18 (40 * p + n) = nI s then n else knF S p s f (n + 1)
def lrN (S : ZT) (p s : Nat) : Nat := knF S p s (kc S p - 8) 8
def lrS (S : ZT) (p s : Nat) : ZT := if lrN S p s = kc S p then us (us S 18 (40 * p + kc S p) (nI s)) 15 (30 * p + 16) (nI (kc S p + 1)) else S
def dOK (S : ZT) (s : Nat) : Prop := S 10 s = nI (df S s) ∧ df S s ≤ 16
theorem knF_le (S : ZT) (p s : Nat) : ∀ f n, n ≤ knF S p s f n ∧ knF S p s f n ≤ n + f
  | 0, n => by unfold knF; omega
  | f + 1, n => by
    unfold knF
    split
    · omega
    · have := knF_le S p s f (n + 1)
      omega
theorem knF_at (S : ZT) (p s : Nat) : ∀ f n, knF S p s f n < n + f → S 18 (40 * p + knF S p s f n) = nI s
  | 0, n => by unfold knF; omega
  | f + 1, n => by
    unfold knF
    split
    next h => intro _; exact h
    next h => intro h2; exact knF_at S p s f (n + 1) (by omega)
theorem knF_ne (S : ZT) (p s : Nat) : ∀ f n j, n ≤ j → j < knF S p s f n → S 18 (40 * p + j) ≠ nI s
  | 0, n, j => by unfold knF; omega
  | f + 1, n, j => by
    unfold knF
    split
    next h => intro h1 h2; omega
    next h =>
      intro h1 h2
      by_cases e : j = n
      · rw [e]; exact h
      · exact knF_ne S p s f (n + 1) j (by omega) h2
