/-! the steps of a process, as functions. An outcome: the state behind it, a fault's kind (0: none), its ring, number, word -/
abbrev ZO : Type := ZT × Nat × Int32 × Int32 × Int32
def oc (o : ZO) (x : Int32) (S' : ZT) (X' : ZX) : Prop := S' = o.1 ∧ (o.2.1 = 0 → x = 1) ∧ (o.2.1 ≠ 0 → x = 0 ∧ X' 24 = nI o.2.1 ∧ X' 25 = o.2.2.1 ∧ X' 26 = o.2.2.2.1 ∧ X' 27 = o.2.2.2.2)
def okO (S : ZT) : ZO := (S, 0, 0, 0, 0)
theorem oc_ok {S : ZT} {X' : ZX} : oc (okO S) 1 S X' := ⟨rfl, fun _ => rfl, fun h => absurd rfl h⟩
theorem oc_no {S : ZT} {X : ZX} {k : Nat} {e n w : Int32} (hk : k ≠ 0) : oc (S, k, e, n, w) 0 S (fX X (nI k) e n w) := ⟨rfl, fun h => absurd h hk, fun _ => ⟨rfl, rfl, rfl, rfl, rfl⟩⟩
theorem oc_no' {S S' : ZT} {X X' : ZX} {x : Int32} {k : Nat} {e n w : Int32} (hk : k ≠ 0) (h1 : x = 0) (h2 : S' = S) (h3 : X' = fX X (nI k) e n w) : oc (S, k, e, n, w) x S' X' := by
  subst h1; subst h2; subst h3
  exact oc_no hk
def wkV (o : Nat) (a x : Int32) : Int32 := match o with
  | 1 => x | 3 => a + x | 4 => a - x | 5 => a * x | 6 => a &&& x | 7 => a ||| x | _ => a ^^^ x
def cmp (a x : Int32) : Int32 := if x ≤ a then (if a = x then nI 0 else nI 1) else -1
def wk (S : ZT) (p o : Nat) (x : Int32) : ZT := if o = 9 then us S 15 (30 * p + 8) (cmp (S 15 (30 * p + 4)) x) else us S 15 (30 * p + 4) (wkV o (S 15 (30 * p + 4)) x)
def gs (o : Nat) (c : Int32) : Prop := o = 10 ∨ (o = 11 ∧ c = 0) ∨ (o = 12 ∧ ¬ c = 0) ∨ (o = 13 ∧ c = -1) ∨ (o = 14 ∧ ¬ c = -1)
def gsb (o : Nat) (c : Int32) : Bool := decide (o = 10 ∨ (o = 11 ∧ c = 0) ∨ (o = 12 ∧ ¬ c = 0) ∨ (o = 13 ∧ c = -1) ∨ (o = 14 ∧ ¬ c = -1))
def jmp (S : ZT) (p o : Nat) (ring w e n wh : Int32) : ZO :=
  if gsb o (S 15 (30 * p + 8)) = true then (if canK S p e n wh 2 = 0 then (if e = ring then okO (goS S p ring n wh) else (S, 9, e, n, wh)) else (S, canK S p e n wh 2, e, n, wh)) else okO (us S 15 (30 * p + 3) (w + nI 1))
def calI (S : ZT) (s : Nat) (e : Int32) : Int32 := if S 3 s < e then S 3 s else e
def calS (S : ZT) (p : Nat) (ring n w e num wh : Int32) : ZT :=
  let s := kn S p (zn num)
  let S1 := goS (ptS (ptS S p 7 ring n (w + nI 1)) p 0 (calI S s e) (calI S s e) (nI 0)) p (calI S s e) num wh
  us S1 15 (30 * p + 17) (S1 15 (30 * p + 17) + nI 1)
def calK (S : ZT) (p : Nat) (ring n e num wh : Int32) : Nat :=
  if zin num (kc S p) then (if zin wh (sz S p (zn num)) then (if fg S p (zn num) &&& nI 4 = 0 then 5 else
    (if ¬ num = n ∧ S 5 (kn S p (zn num)) ≤ wh then 6 else (if S 2 (kn S p (zn num)) ≤ e then (if e ≤ S 4 (kn S p (zn num)) then (if calI S (kn S p (zn num)) e ≤ ring then 0 else 9) else 8) else 7))) else 2) else 1
def cal (S : ZT) (p : Nat) (ring n w e num wh : Int32) : ZO := if calK S p ring n e num wh = 0 then okO (calS S p ring n w e num wh) else (S, calK S p ring n e num wh, e, num, wh)
def pw_r (v : Int32) : Int32 := (v >>> (nI 28 &&& 31)) &&& nI 7
def pw_n (v : Int32) : Int32 := (v >>> (nI 16 &&& 31)) &&& nI 4095
def pw_w (v : Int32) : Int32 := v &&& 65535
def rsF (S : ZT) (p : Nat) (to : Int32) : Nat → ZT
  | 0 => S
  | k + 1 => if to ≤ rsF S p to k 16 (24 * p + 3 * k) then rsF S p to k else us (rsF S p to k) 16 (24 * p + 3 * k) to
def retS (S : ZT) (p : Nat) (v : Int32) : ZT :=
  let S1 := rsF (goS S p (pw_r v) (pw_n v) (pw_w v)) p (pw_r v) 8
  us S1 15 (30 * p + 18) (S1 15 (30 * p + 18) + nI 1)
def ret' (S : ZT) (p : Nat) (ring e num wh : Int32) : ZO :=
  if canK S p e num wh 0 = 0 then (let v := getW S p (zn num) (zn wh); if ring ≤ pw_r v then (if canK S p (pw_r v) (pw_n v) (pw_w v) 2 = 0 then okO (retS S p v) else (S, canK S p (pw_r v) (pw_n v) (pw_w v) 2, pw_r v, pw_n v, pw_w v)) else (S, 10, e, num, wh)) else (S, canK S p e num wh 0, e, num, wh)
/-- n places copied from row i (from b on) to row j (from a on) -/
def cpF (S : ZT) (j a i b : Nat) : Nat → ZT
  | 0 => S
  | k + 1 => us (cpF S j a i b k) j (a + k) (cpF S j a i b k i (b + k))
def rsm (S : ZT) (p : Nat) : ZT :=
  let f : Int32 := if S 15 (30 * p + 5) = 0 then nI 0 else nI 1
  let S2 := cpF (cpF S 15 (30 * p + 1) 21 (32 * p) 8) 16 (24 * p) 21 (32 * p + 8) 24
  let S3 := us S2 15 (30 * p + 3) (S2 15 (30 * p + 3) + f)
  us S3 15 (30 * p + 15) (nI 0)
def here (S : ZT) (p k : Nat) : ZO := (S, k, S 15 (30 * p + 1), S 15 (30 * p + 2), S 15 (30 * p + 3))
def rsmO (S : ZT) (p : Nat) (ring : Int32) : ZO := if ring = 0 then (if S 15 (30 * p + 15) = 0 then here S p 13 else okO (rsm S p)) else here S p 14
def flt1 (S : ZT) (p : Nat) (k e n w : Int32) : ZT :=
  let S1 := us (us (us (us S 15 (30 * p + 9) k) 15 (30 * p + 10) e) 15 (30 * p + 11) n) 15 (30 * p + 12) w
  us S1 15 (30 * p + 14) (S1 15 (30 * p + 14) + nI 1)
def flt2 (S : ZT) (p : Nat) (k e n w : Int32) : ZT :=
  let S2 := cpF (cpF S 21 (32 * p) 15 (30 * p + 1) 8) 21 (32 * p + 8) 16 (24 * p) 24
  let S3 := us S2 15 (30 * p + 15) (nI 1)
  let S4 := goS S3 p (nI 0) (S3 15 (30 * p + 19)) (S3 15 (30 * p + 20))
  ptS (us S4 15 (30 * p + 4) k) p 1 e n (w &&& 65535)
def flt (S : ZT) (p : Nat) (k e n w : Int32) : ZT :=
  let S1 := flt1 S p k e n w
  if S1 15 (30 * p + 19) < 0 then us S1 15 (30 * p) (nI 3) else (if S1 15 (30 * p + 15) = nI 1 then us S1 15 (30 * p) (nI 4) else flt2 S1 p k e n w)
