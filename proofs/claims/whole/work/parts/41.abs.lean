/-! numbers and truth values -/
def zn (x : Int32) : Nat := x.toNatClampNeg
theorem zn_nI {n : Nat} (h : n < 2 ^ 31) : zn (nI n) = n := nI_clamp h
abbrev zin (x : Int32) (m : Nat) : Prop := 0 ≤ x.toInt ∧ x.toInt < (m : Int)
def zb (c : Prop) [Decidable c] : Int32 := if c then 1 else 0
theorem zb_t {c : Prop} [Decidable c] (h : c) : zb c = 1 := if_pos h
theorem zb_f {c : Prop} [Decidable c] (h : ¬ c) : zb c = 0 := if_neg h
theorem zb_ne {c : Prop} [Decidable c] (h : ¬ zb c = 0) : c := by
  by_cases k : c
  · exact k
  · exact absurd (zb_f k) h
theorem zb_eq {c : Prop} [Decidable c] (h : zb c = 0) : ¬ c := by
  intro k
  rw [zb_t k] at h
  exact absurd h (by decide)
theorem zb_nar (c : Prop) [Decidable c] : narrow .boolean (.int (zb c)) = .int (zb c) := by
  by_cases k : c
  · rw [zb_t k]; rfl
  · rw [zb_f k]; rfl
theorem zb_congr {c d : Prop} [Decidable c] [Decidable d] (h : c ↔ d) : zb c = zb d := by
  by_cases k : c
  · rw [zb_t k, zb_t (h.mp k)]
  · rw [zb_f k, zb_f (fun z => k (h.mpr z))]
theorem zin_of {x : Int32} {m : Nat} (h : zin x m) (hm : m ≤ 2 ^ 31) : ∃ k, k < m ∧ x = nI k := by
  refine ⟨x.toInt.toNat, by omega, ?_⟩
  apply Int32.toInt_inj.mp
  rw [nI_toInt (by omega)]
  omega
theorem zin_nI {k m : Nat} (hm : m ≤ 2 ^ 31) (hk : k < 2 ^ 31) : zin (nI k) m ↔ k < m := by
  unfold zin
  rw [nI_toInt hk]
  omega
theorem zin_zn {x : Int32} {m : Nat} (h : zin x m) (hm : m ≤ 2 ^ 31) : zn x < m ∧ x = nI (zn x) := by
  obtain ⟨k, hk, rfl⟩ := zin_of h hm
  rw [zn_nI (by omega)]
  exact ⟨hk, rfl⟩
theorem i0 : (0 : Int32).toInt = 0 := by decide
theorem sub1_toInt {m : Nat} (hm : m < 2 ^ 31) : (nI m - 1).toInt = (m : Int) - 1 := by
  cases m with
  | zero => decide
  | succ k =>
    rw [nI_pred, nI_toInt (by omega)]
    omega
theorem in_zin {x : Int32} {m : Nat} (hm : m < 2 ^ 31) : (nI 0 ≤ x ∧ x ≤ nI m - nI 1) ↔ zin x m := by
  rw [Int32.le_iff_toInt_le, Int32.le_iff_toInt_le, show nI m - nI 1 = nI m - 1 from rfl, sub1_toInt hm, nI_toInt (by omega)]
  unfold zin
  omega
theorem in_zin2 {x : Int32} {m : Nat} (hm : m < 2 ^ 31 - 1) : (nI 0 ≤ x ∧ x ≤ nI m) ↔ zin x (m + 1) := by
  rw [Int32.le_iff_toInt_le, Int32.le_iff_toInt_le, nI_toInt (by omega), nI_toInt (by omega)]
  unfold zin
  omega
/-! the reference's state in words -/
def sg (S : ZT) : Nat := zn (S 99 14)
def wd (S : ZT) (s : Nat) : Nat := zn (S 1 s)
def df (S : ZT) (s : Nat) : Nat := zn (S 10 s)
def kc (S : ZT) (p : Nat) : Nat := zn (S 15 (30 * p + 16))
def kn (S : ZT) (p n : Nat) : Nat := zn (S 18 (40 * p + n))
def sz (S : ZT) (p n : Nat) : Nat := if n < 8 then 64 else wd S (kn S p n)
def fg (S : ZT) (p n : Nat) : Int32 := if n < 8 then 3 else S 6 (4 * kn S p n + p)
def rg (S : ZT) (p n w : Nat) : Int32 := if n < 8 then nI n else S (w + 1) (kn S p n)
def may (S : ZT) (p : Nat) (e : Int32) (n how : Nat) : Prop := match how with
  | 0 => fg S p n &&& 1 = 1 ∧ e ≤ rg S p n 2
  | 1 => fg S p n &&& 2 = 2 ∧ e ≤ rg S p n 1
  | _ => fg S p n &&& 4 = 4 ∧ rg S p n 1 ≤ e ∧ e ≤ rg S p n 2
def mayb (S : ZT) (p : Nat) (e : Int32) (n how : Nat) : Bool := match how with
  | 0 => decide (fg S p n &&& 1 = 1 ∧ e ≤ rg S p n 2)
  | 1 => decide (fg S p n &&& 2 = 2 ∧ e ≤ rg S p n 1)
  | _ => decide (fg S p n &&& 4 = 4 ∧ rg S p n 1 ≤ e ∧ e ≤ rg S p n 2)
def canK (S : ZT) (p : Nat) (e n w : Int32) (how : Nat) : Nat := if zin n (kc S p) then (if zin w (sz S p (zn n)) then (if mayb S p e (zn n) how = true then 0 else 3 + how) else 2) else 1
def getW (S : ZT) (p n k : Nat) : Int32 := if n < 8 then S 17 (512 * p + 64 * n + k) else S 7 (256 * kn S p n + k)
def putW (S : ZT) (p n k : Nat) (v : Int32) : ZT := if n < 8 then us S 17 (512 * p + 64 * n + k) v else us S 7 (256 * kn S p n + k) v
def fX (X : ZX) (k r n w : Int32) : ZX := ux (ux (ux (ux X 24 k) 25 r) 26 n) 27 w
def goS (S : ZT) (p : Nat) (r n w : Int32) : ZT := us (us (us S 15 (30 * p + 1) r) 15 (30 * p + 2) n) 15 (30 * p + 3) w
def ptS (S : ZT) (p i : Nat) (r n w : Int32) : ZT := us (us (us S 16 (24 * p + 3 * i) r) 16 (24 * p + 3 * i + 1) n) 16 (24 * p + 3 * i + 2) w
/-- what is needed of a process's known segments -/
def kOK (S : ZT) (p : Nat) : Prop := S 15 (30 * p + 16) = nI (kc S p) ∧ 8 ≤ kc S p ∧ kc S p ≤ 40 ∧ ∀ n, 8 ≤ n → n < kc S p → S 18 (40 * p + n) = nI (kn S p n) ∧ kn S p n < sg S
def sOK (S : ZT) : Prop := S 99 14 = nI (sg S) ∧ sg S ≤ 32 ∧ ∀ s, s < sg S → S 1 s = nI (wd S s) ∧ 1 ≤ wd S s ∧ wd S s ≤ 256
