/-! one STEP without its fault -/
def stv (S : ZT) (p : Nat) (v : Int32) : Int32 := if oN v = 2 then S 15 (30 * p + 4) else (if oN v = 16 then S 15 (30 * p + 4 + rN v) else
  ((S 16 (24 * p + 3 * rN v) <<< (nI 28 &&& 31)) ||| (S 16 (24 * p + 3 * rN v + 1) <<< (nI 16 &&& 31))) ||| S 16 (24 * p + 3 * rN v + 2))
def opS (S : ZT) (p : Nat) (v w x : Int32) : ZT := us (if oN v = 15 then us S 15 (30 * p + 4 + rN v) x else wk S p (oN v) x) 15 (30 * p + 3) (w + nI 1)
def sayS (S : ZT) (p : Nat) : ZT :=
  let S1 := if nI 200 ≤ S 99 23 then S else us S 22 (zn (S 99 23)) (S 15 (30 * p + 4))
  us S1 99 23 (S1 99 23 + nI 1)
def dop (S : ZT) (p : Nat) (v ring n w e num wh : Int32) : ZO :=
  if oN v = 1 ∨ (3 ≤ oN v ∧ oN v ≤ 9) ∨ oN v = 15 then
    (if mN v = 3 then okO (opS S p v w wh) else (if canK S p e num wh 0 = 0 then okO (opS S p v w (getW S p (zn num) (zn wh))) else (S, canK S p e num wh 0, e, num, wh)))
  else if oN v = 2 ∨ oN v = 16 ∨ oN v = 19 then
    (if canK S p e num wh 1 = 0 then okO (us (putW S p (zn num) (zn wh) (stv S p v)) 15 (30 * p + 3) (w + nI 1)) else (S, canK S p e num wh 1, e, num, wh))
  else if 10 ≤ oN v ∧ oN v ≤ 14 then jmp S p (oN v) ring w e num wh
  else if oN v = 0 then okO (us S 15 (30 * p) (nI 2))
  else if oN v = 17 then okO (us (us S 15 (30 * p + 4 + rN v) wh) 15 (30 * p + 3) (w + nI 1))
  else if oN v = 18 then (if zin wh 65536 then okO (us (ptS S p (rN v) e num wh) 15 (30 * p + 3) (w + nI 1)) else (S, 2, e, num, wh))
  else if oN v = 20 then cal S p ring n w e num wh
  else if oN v = 21 then ret' S p ring e num wh
  else if oN v = 22 ∨ oN v = 23 then okO (us (us S 15 (30 * p + 8) (if canK S p e num wh (oN v - 22) = 0 then nI 0 else nI 1)) 15 (30 * p + 3) (w + nI 1))
  else if oN v = 24 then (if ring = 0 then okO (us (sayS S p) 15 (30 * p + 3) (w + nI 1)) else here S p 14)
  else rsmO S p ring
def doS (S : ZT) (p : Nat) : ZO :=
  if canK S p (S 15 (30 * p + 1)) (S 15 (30 * p + 2)) (S 15 (30 * p + 3)) 2 = 0 then
    (let v := getW S p (zn (S 15 (30 * p + 2))) (zn (S 15 (30 * p + 3)))
     if bad v then here S p 13 else (if oN v ≠ 0 ∧ oN v < 24 then
      (if (adr S p v).2.1 = 0 then dop (adr S p v).1 p v (S 15 (30 * p + 1)) (S 15 (30 * p + 2)) (S 15 (30 * p + 3)) (adr S p v).2.2.1 (adr S p v).2.2.2.1 (adr S p v).2.2.2.2 else adr S p v)
      else dop S p v (S 15 (30 * p + 1)) (S 15 (30 * p + 2)) (S 15 (30 * p + 3)) 0 0 0))
  else (S, canK S p (S 15 (30 * p + 1)) (S 15 (30 * p + 2)) (S 15 (30 * p + 3)) 2, S 15 (30 * p + 1), S 15 (30 * p + 2), S 15 (30 * p + 3))
theorem oc_nar {o : ZO} {x : Int32} {S' : ZT} {X' : ZX} (h : oc o x S' X') : narrow .boolean (.int x) = .int x := by
  by_cases hz : o.2.1 = 0
  · rw [h.2.1 hz]; rfl
  · rw [(h.2.2 hz).1]; rfl
def yOK (S : ZT) : Prop := S 99 23 = nI (zn (S 99 23)) ∧ zn (S 99 23) < 2 ^ 30
theorem dop_24 {S : ZT} {p : Nat} {v ring n w e num wh : Int32} (h : 24 ≤ oN v) : dop S p v ring n w e num wh = (if oN v = 24 then (if ring = 0 then okO (us (sayS S p) 15 (30 * p + 3) (w + nI 1)) else here S p 14) else rsmO S p ring) := by
  unfold dop
  rw [if_neg (by omega), if_neg (by omega), if_neg (by omega), if_neg (by omega), if_neg (by omega), if_neg (by omega), if_neg (by omega), if_neg (by omega), if_neg (by omega)]
theorem dop_0 {S : ZT} {p : Nat} {v ring n w e num wh : Int32} (h : oN v = 0) : dop S p v ring n w e num wh = okO (us S 15 (30 * p) (nI 2)) := by
  unfold dop
  rw [if_neg (by omega), if_neg (by omega), if_neg (by omega), if_pos h]
/-- where the ADDRESS isn't used it counts for nothing -/
theorem dop_none {S : ZT} {p : Nat} {v ring n w e num wh : Int32} (h : oN v = 0 ∨ 24 ≤ oN v) : dop S p v ring n w e num wh = dop S p v ring n w 0 0 0 := by
  rcases h with h | h
  · rw [dop_0 h, dop_0 h]
  · rw [dop_24 h, dop_24 h]
theorem dop_m3 {S : ZT} {p : Nat} {v ring n w e e' num num' wh : Int32} (hm : mN v = 3) (h0 : oN v ≠ 0) (h24 : oN v < 24) (hb : ¬ bad v) : dop S p v ring n w e num wh = dop S p v ring n w e' num' wh := by
  by_cases h1 : oN v = 1 ∨ (3 ≤ oN v ∧ oN v ≤ 9) ∨ oN v = 15
  · unfold dop; rw [if_pos h1, if_pos hm, if_pos h1, if_pos hm]
  · have h17 : oN v = 17 := by unfold bad at hb; omega
    unfold dop
    rw [if_neg h1, if_neg (by omega), if_neg (by omega), if_neg (by omega), if_pos h17, if_neg h1, if_neg (by omega), if_neg (by omega), if_neg (by omega), if_pos h17]
theorem lr_99 {S : ZT} {p s : Nat} : lrS S p s 99 23 = S 99 23 := by
  unfold lrS
  split
  · rw [us_ne (by omega), us_ne (by omega)]
  · rfl
theorem lnk_99 {S : ZT} {p s k : Nat} : lnk S p s k 99 23 = S 99 23 := by
  unfold lnk
  split
  · split
    · rfl
    · split
      · split
        · rfl
        · rw [us_ne (by omega), us_ne (by omega), lr_99]
      · rfl
  · rfl
theorem bas_99 {S : ZT} {p : Nat} {v : Int32} : (bas S p v).1 99 23 = S 99 23 := by
  unfold bas
  split
  · rfl
  · split
    · rfl
    · split
      · show (if _ then _ else _ : ZO).1 99 23 = _
        split
        · exact lnk_99
        · exact lnk_99
      · rfl
theorem adr_y {S : ZT} {p : Nat} {v : Int32} (h : yOK S) : yOK (adr S p v).1 := by
  have e : (adr S p v).1 99 23 = S 99 23 := by
    unfold adr
    split
    · split
      · rfl
      · rfl
    · split
      · exact bas_99
      · exact bas_99
  unfold yOK
  rw [e]
  exact h
