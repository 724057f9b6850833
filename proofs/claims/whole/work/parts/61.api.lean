/-! the calls, as functions: an answer and a state -/
abbrev ZA : Type := Int32 × ZT
def hasF (S : ZT) (nm : Int32) : Nat → Nat → Bool
  | 0, _ => false
  | f + 1, s => if S 0 s = nm then true else hasF S nm f (s + 1)
def A_seg (S : ZT) (nm w : Int32) : ZA := if ¬ sg S = 32 ∧ (nI 1 ≤ w ∧ w ≤ nI 256) ∧ hasF S nm (sg S) 0 = false then (nI (sg S), us (us (us S 0 (sg S) nm) 1 (sg S) w) 99 14 (nI (sg S + 1))) else (-1, S)
def A_br (S : ZT) (s a b c g : Int32) : ZA := if zin s (sg S) ∧ (nI 0 ≤ a ∧ a ≤ nI 7) ∧ (a ≤ b ∧ b ≤ nI 7) ∧ (b ≤ c ∧ c ≤ nI 7) ∧ (nI 0 ≤ g ∧ g ≤ nI (wd S (zn s))) then (nI 1, us (us (us (us S 2 (zn s) a) 3 (zn s) b) 4 (zn s) c) 5 (zn s) g) else (nI 0, S)
def A_fl (S : ZT) (s u f : Int32) : ZA := if zin s (sg S) ∧ zin u 4 ∧ zin f 8 then (nI 1, us S 6 (4 * zn s + zn u) f) else (nI 0, S)
def A_wo (S : ZT) (s k v : Int32) : ZA := if zin s (sg S) ∧ zin k (wd S (zn s)) then (nI 1, us S 7 (256 * zn s + zn k) v) else (nI 0, S)
def A_de (S : ZT) (s y k : Int32) : ZA := if zin s (sg S) ∧ zin k (wd S (zn s)) ∧ ¬ df S (zn s) = 16 ∧ wof S (zn s) y < 0 then
  (nI 1, us (us (us S 8 (16 * zn s + df S (zn s)) y) 9 (16 * zn s + df S (zn s)) k) 10 (zn s) (nI (df S (zn s) + 1))) else (nI 0, S)
def A_li (S : ZT) (s k nm y : Int32) : ZA := if zin s (sg S) ∧ zin k 16 then (nI 1, us (us (us S 11 (16 * zn s + zn k) nm) 12 (16 * zn s + zn k) y) 13 (16 * zn s + zn k) (nI 1)) else (nI 0, S)
def zF (S : ZT) (j a : Nat) : Nat → ZT
  | 0 => S
  | k + 1 => us (zF S j a k) j (a + k) (nI 0)
def ptF (S : ZT) (p : Nat) (ring : Int32) : Nat → ZT
  | 0 => S
  | k + 1 => us (ptF S p ring k) 16 (24 * p + k) (if k % 3 = 0 then ring else nI 0)
def skF (S : ZT) (p : Nat) : Nat → ZT
  | 0 => S
  | k + 1 => us (us (skF S p k) 17 (512 * p + k) (nI 0)) 19 (512 * p + k) (nI 0)
def stS (S : ZT) (p s : Nat) (k ring : Int32) : ZT :=
  let S2 := us (us (us (us (us (us (zF S 15 (30 * p) 30) 15 (30 * p) (nI 1)) 15 (30 * p + 1) ring) 15 (30 * p + 2) (nI 8)) 15 (30 * p + 3) k) 15 (30 * p + 16) (nI 9)) 15 (30 * p + 19) (-1)
  us (skF (ptF S2 p ring 24) p 512) 18 (40 * p + 8) (nI s)
def A_st (S : ZT) (p s k ring : Int32) : ZA := if zin p 4 ∧ zin s (sg S) ∧ zin ring 8 ∧ zin k 65536 then (nI 1, stS S (zn p) (zn s) k ring) else (nI 0, S)
abbrev thr (S : ZT) (p : Int32) : Prop := zin p 4 ∧ 0 < S 15 (30 * zn p)
def A_ha (S : ZT) (p s k : Int32) : ZA := if thr S p ∧ zin s (sg S) ∧ zin k 65536 then (nI (lrN S (zn p) (zn s)), us (us (lrS S (zn p) (zn s)) 15 (30 * zn p + 19) (nI (lrN S (zn p) (zn s)))) 15 (30 * zn p + 20) k) else (-1, S)
def A_ru (S : ZT) (p n : Int32) : ZA := if thr S p ∧ zin n 501 then (nI (rnF (zn p) (zn n) S).2, (rnF (zn p) (zn n) S).1) else (-1, S)
def A_sa (S : ZT) (p w : Int32) : Int32 := if thr S p ∧ zin w 19 then S 15 (30 * zn p + zn w) else nI 0
def A_po (S : ZT) (p n w : Int32) : Int32 := if thr S p ∧ zin n 8 ∧ zin w 3 then S 16 (24 * zn p + 3 * zn n + zn w) else -1
def A_pe (S : ZT) (p n k : Int32) : Int32 := if thr S p ∧ zin n (kc S (zn p)) ∧ zin k (sz S (zn p) (zn n)) then getW S (zn p) (zn n) (zn k) else nI 0
def A_so (S : ZT) (s k : Int32) : Int32 := if zin s (sg S) ∧ zin k (wd S (zn s)) then S 7 (256 * zn s + zn k) else nI 0
def A_kn (S : ZT) (p n : Int32) : Int32 := if thr S p ∧ zin n (kc S (zn p)) then (if 8 ≤ zn n then S 18 (40 * zn p + zn n) else -2) else -1
def A_ma (S : ZT) (p r n h : Int32) : Int32 := if thr S p ∧ zin n (kc S (zn p)) ∧ zin r 8 ∧ zin h 3 then zb (mayb S (zn p) r (zn n) (zn h) = true) else -1
def A_sd (S : ZT) (i : Int32) : Int32 := if zin i 200 ∧ i < S 99 23 then S 22 (zn i) else nI 0
