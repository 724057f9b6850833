/-! THE ABSTRACT MEMORY. A role names a cell; Sh: which roles are there (tag, length); I: whole numbers of a cell; P: references of a cell.
tags: 0..10 objects of class zt_R; 20 int[], 21 boolean[], 22 Segment[], 23 Place[], 24 ProcessState[], 25 the script (never written) -/
abbrev Zr : Type := Nat × Nat × Nat
abbrev Zv : Type := Int32 ⊕ Option Zr
abbrev ZI : Type := Zr → Nat → Int32
abbrev ZP : Type := Zr → Nat → Option Zr
abbrev ZS : Type := Zr → Option (Nat × Nat)
abbrev ZG : Type := va_G × (Nat → ClassId) × Nat × Cell
abbrev ZQ : Type := Option Zv → ZS → ZP → ZI → Prop
def zi (x : Int32) : Zv := .inl x
def zr (r : Zr) : Zv := .inr (some r)
def zt_rf : FieldType → Bool
  | .object _ => true
  | .array _ => true
  | _ => false
def zt_ref (t k : Nat) : Bool := if t < 20 then zt_rf (zt_F t k) else decide (22 ≤ t ∧ t ≤ 24)
def zt_et : Nat → FieldType := fun t => match t with
  | 21 => .boolean | 22 => .object RX8 | 23 => .object RX3 | 24 => .object RX4 | _ => .int
def zm_c (ad : Zr → Nat) : Zv → Value
  | .inl x => .int x
  | .inr none => .null
  | .inr (some r) => .ref (ad r)
def zm_f (I : ZI) (P : ZP) (t : Nat) (r : Zr) (k : Nat) : Zv := if zt_ref t k = true then .inr (P r k) else .inl (I r k)
def zm_lv (Sh : ZS) (v : Zv) : Prop := ∀ q, v = .inr (some q) → Sh q ≠ none
def ui (I : ZI) (r : Zr) (k : Nat) (v : Int32) : ZI := fun r' k' => if r' = r ∧ k' = k then v else I r' k'
def up (P : ZP) (r : Zr) (k : Nat) (v : Option Zr) : ZP := fun r' k' => if r' = r ∧ k' = k then v else P r' k'
/-- a cell at its place -/
def zm_at (G : ZG) (ad : Zr → Nat) (P : ZP) (I : ZI) (r : Zr) (t n : Nat) (H : Heap) : Prop :=
  ∃ cell : Cell, H[ad r]? = some cell ∧ (t = 25 → cell = G.2.2.2) ∧ (t ≠ 25 → cell.vm = .none ∧ G.2.2.1 ≤ ad r ∧ cell.monitor = {} ∧ cell.hash = none) ∧
    (t < 20 → t < 11 ∧ n = zt_N t ∧ cell.cls = G.1.1 t ∧ ∀ k, k < n → cell.slots[G.1.2 t k]? = some (zm_c ad (zm_f I P t r k))) ∧
    (20 ≤ t → t ≤ 25 ∧ (t ≠ 25 → cell.cls = G.2.1 t) ∧ cell.slots.size = n ∧ n < 2 ^ 31 ∧ ∀ k, k < n → cell.slots[k]? = some (zm_c ad (zm_f I P t r k)))
def zm_ok (G : ZG) (ad : Zr → Nat) (Sh : ZS) (P : ZP) (I : ZI) (H : Heap) : Prop :=
  (∀ (r : Zr) (t n : Nat), Sh r = some (t, n) → zm_at G ad P I r t n H) ∧
  (∀ r r' : Zr, Sh r ≠ none → Sh r' ≠ none → ad r = ad r' → r = r') ∧
  (∀ (r : Zr) (t n k : Nat) (q : Zr), Sh r = some (t, n) → k < n → zt_ref t k = true → P r k = some q → Sh q ≠ none)
def zm_ext (ad0 : Zr → Nat) (Sh0 : ZS) (ad : Zr → Nat) (Sh : ZS) : Prop := ∀ r : Zr, Sh0 r ≠ none → ad r = ad0 r ∧ Sh r ≠ none
theorem zm_ext.rf {ad : Zr → Nat} {Sh : ZS} : zm_ext ad Sh ad Sh := fun _ h => ⟨rfl, h⟩
theorem zm_ext.tr {a b c : Zr → Nat} {A B C : ZS} (h : zm_ext a A b B) (h2 : zm_ext b B c C) : zm_ext a A c C := fun r hr => ⟨((h2 r (h r hr).2).1).trans (h r hr).1, (h2 r (h r hr).2).2⟩
theorem zm_at.lt {G : ZG} {ad : Zr → Nat} {P : ZP} {I : ZI} {r : Zr} {t n : Nat} {H : Heap} (h : zm_at G ad P I r t n H) : ad r < H.size := by
  obtain ⟨cell, h1, -⟩ := h
  exact (Array.getElem?_eq_some_iff.mp h1).1
theorem zm_ok.lt {G : ZG} {ad : Zr → Nat} {Sh : ZS} {P : ZP} {I : ZI} {H : Heap} (h : zm_ok G ad Sh P I H) {r : Zr} (hr : Sh r ≠ none) : ad r < H.size := by
  cases hs : Sh r with
  | none => exact absurd hs hr
  | some q => exact (h.1 r q.1 q.2 hs).lt
theorem zm_lvi {Sh : ZS} {x : Int32} : zm_lv Sh (.inl x) := fun q h => by cases h
theorem zm_lvn {Sh : ZS} : zm_lv Sh (.inr none) := fun q h => by cases h
theorem zm_lvr {Sh : ZS} {r : Zr} (h : Sh r ≠ none) : zm_lv Sh (.inr (some r)) := fun q e => by cases e; exact h
theorem zm_lv.up {ad0 ad : Zr → Nat} {Sh0 Sh : ZS} (hx : zm_ext ad0 Sh0 ad Sh) {v : Zv} (h : zm_lv Sh0 v) : zm_lv Sh v := fun q e => (hx q (h q e)).2
theorem zm_c.up {ad0 ad : Zr → Nat} {Sh0 Sh : ZS} (hx : zm_ext ad0 Sh0 ad Sh) {v : Zv} (h : zm_lv Sh0 v) : zm_c ad v = zm_c ad0 v := by
  cases v with
  | inl x => rfl
  | inr o => cases o with
    | none => rfl
    | some r => show Value.ref (ad r) = Value.ref (ad0 r); rw [(hx r (h r rfl)).1]
theorem zm_map.up {ad0 ad : Zr → Nat} {Sh0 Sh : ZS} (hx : zm_ext ad0 Sh0 ad Sh) {st : List Zv} (h : ∀ v ∈ st, zm_lv Sh0 v) : st.map (zm_c ad) = st.map (zm_c ad0) :=
  List.map_congr_left (fun v hv => zm_c.up hx (h v hv))
theorem zm_f.lv {G : ZG} {ad : Zr → Nat} {Sh : ZS} {P : ZP} {I : ZI} {H : Heap} (h : zm_ok G ad Sh P I H) {r : Zr} {t n k : Nat} (hr : Sh r = some (t, n)) (hk : k < n) : zm_lv Sh (zm_f I P t r k) := by
  intro q hq
  unfold zm_f at hq
  split at hq
  next hc => exact h.2.2 r t n k q hr hk hc (Sum.inr.inj hq)
  next => cases hq
/-- one cell is written, at a role that is there, to a cell of the same kind; all other roles are as they were -/
theorem zm_ok.put {G : ZG} {ad : Zr → Nat} {Sh : ZS} {P P' : ZP} {I I' : ZI} {H H' : Heap} (h : zm_ok G ad Sh P I H) {r : Zr} {t n : Nat} (hr : Sh r = some (t, n)) (hat : zm_at G ad P' I' r t n H')
    (oq : ∀ q : Nat, q ≠ ad r → H'[q]? = H[q]?) (hP : ∀ r' k', r' ≠ r → P' r' k' = P r' k') (hI : ∀ r' k', r' ≠ r → I' r' k' = I r' k') (hcl : ∀ k q, k < n → zt_ref t k = true → P' r k = some q → Sh q ≠ none) : zm_ok G ad Sh P' I' H' := by
  refine ⟨fun r' t' n' h' => ?_, h.2.1, fun r' t' n' k q h' hk hc hq => ?_⟩
  · by_cases e : r' = r
    · subst e
      rw [hr] at h'
      cases h'
      exact hat
    · obtain ⟨cell, h1, h2, h3, h4, h5⟩ := h.1 r' t' n' h'
      have hne : ad r' ≠ ad r := fun z => e (h.2.1 r' r (by rw [h']; exact fun y => by cases y) (by rw [hr]; exact fun y => by cases y) z)
      have hf : ∀ k, zm_f I' P' t' r' k = zm_f I P t' r' k := fun k => by unfold zm_f; rw [hP r' k e, hI r' k e]
      refine ⟨cell, by rw [oq _ hne]; exact h1, h2, h3, fun ht => ?_, fun ht => ?_⟩
      · obtain ⟨a1, a2, a3, a4⟩ := h4 ht
        exact ⟨a1, a2, a3, fun k hk => by rw [hf]; exact a4 k hk⟩
      · obtain ⟨a1, a2, a3, a4, a5⟩ := h5 ht
        exact ⟨a1, a2, a3, a4, fun k hk => by rw [hf]; exact a5 k hk⟩
  · by_cases e : r' = r
    · subst e
      rw [hr] at h'
      cases h'
      exact hcl k q hk hc hq
    · rw [hP r' k e] at hq
      exact h.2.2 r' t' n' k q h' hk hc hq
def us' (Sh : ZS) (r : Zr) (t n : Nat) : ZS := fun q => if q = r then some (t, n) else Sh q
def ua (ad : Zr → Nat) (r : Zr) (a : Nat) : Zr → Nat := fun q => if q = r then a else ad q
/-- fresh contents of a new cell -/
def un (I : ZI) (r : Zr) : ZI := fun r' k' => if r' = r then 0 else I r' k'
def unp (P : ZP) (r : Zr) : ZP := fun r' k' => if r' = r then none else P r' k'
theorem zm_ext.new {ad : Zr → Nat} {Sh : ZS} {r : Zr} {t n a : Nat} (hr : Sh r = none) : zm_ext ad Sh (ua ad r a) (us' Sh r t n) := by
  intro q hq
  have hne : q ≠ r := fun e => hq (by rw [e]; exact hr)
  exact ⟨by simp [ua, hne], by simp [us', hne]; exact hq⟩
theorem zm_ok.new {G : ZG} {ad : Zr → Nat} {Sh : ZS} {P : ZP} {I : ZI} {H H' : Heap} (h : zm_ok G ad Sh P I H) {r : Zr} (hr : Sh r = none) {t n : Nat} (hat : zm_at G (ua ad r H.size) (unp P r) (un I r) r t n H')
    (oq : ∀ q : Nat, q < H.size → H'[q]? = H[q]?) : zm_ok G (ua ad r H.size) (us' Sh r t n) (unp P r) (un I r) H' := by
  have hext : zm_ext ad Sh (ua ad r H.size) (us' Sh r t n) := zm_ext.new hr
  have live : ∀ q, us' Sh r t n q ≠ none → q ≠ r → Sh q ≠ none := fun q hq hne => by simpa [us', hne] using hq
  refine ⟨fun r' t' n' h' => ?_, fun r1 r2 h1 h2 he => ?_, fun r' t' n' k q h' hk hc hq => ?_⟩
  · by_cases e : r' = r
    · subst e
      simp only [us', if_true] at h'
      cases h'
      exact hat
    · have h'' : Sh r' = some (t', n') := by simpa [us', e] using h'
      obtain ⟨cell, h1, h2, h3, h4, h5⟩ := h.1 r' t' n' h''
      have hl : ad r' < H.size := h.lt (by rw [h'']; exact fun y => by cases y)
      have ea : ua ad r H.size r' = ad r' := by simp [ua, e]
      have hf : ∀ k, k < n' → zm_c (ua ad r H.size) (zm_f (un I r) (unp P r) t' r' k) = zm_c ad (zm_f I P t' r' k) := fun k hk => by
        have e1 : zm_f (un I r) (unp P r) t' r' k = zm_f I P t' r' k := by unfold zm_f; simp [un, unp, e]
        rw [e1]
        exact zm_c.up hext (zm_f.lv h h'' hk)
      refine ⟨cell, by rw [ea, oq _ hl]; exact h1, h2, fun ht => by rw [ea]; exact h3 ht, fun ht => ?_, fun ht => ?_⟩
      · obtain ⟨a1, a2, a3, a4⟩ := h4 ht
        exact ⟨a1, a2, a3, fun k hk => by rw [hf k hk]; exact a4 k hk⟩
      · obtain ⟨a1, a2, a3, a4, a5⟩ := h5 ht
        exact ⟨a1, a2, a3, a4, fun k hk => by rw [hf k hk]; exact a5 k hk⟩
  · by_cases e1 : r1 = r <;> by_cases e2 : r2 = r
    · rw [e1, e2]
    · have hl : ad r2 < H.size := h.lt (live r2 h2 e2)
      simp only [ua, e1, e2, if_true, if_false] at he
      omega
    · have hl : ad r1 < H.size := h.lt (live r1 h1 e1)
      simp only [ua, e1, e2, if_true, if_false] at he
      omega
    · simp only [ua, e1, e2, if_false] at he
      exact h.2.1 r1 r2 (live r1 h1 e1) (live r2 h2 e2) he
  · by_cases e : r' = r
    · subst e
      simp [unp] at hq
    · have h'' : Sh r' = some (t', n') := by simpa [us', e] using h'
      have hq' : P r' k = some q := by simpa [unp, e] using hq
      exact (hext q (h.2.2 r' t' n' k q h'' hk hc hq')).2
/-! locals -/
def zm_ll (ad : Zr → Nat) : Nat → List (Option Zv) → List (Nat × Value)
  | _, [] => []
  | i, none :: l => zm_ll ad (i + 1) l
  | i, some v :: l => (i, zm_c ad v) :: zm_ll ad (i + 1) l
theorem zm_ll_mem {ad : Zr → Nat} : ∀ {L : List (Option Zv)} {o : Nat} {q : Nat × Value}, q ∈ zm_ll ad o L ↔ ∃ i v, L[i]? = some (some v) ∧ q = (o + i, zm_c ad v)
  | [], o, q => by simp [zm_ll]
  | none :: l, o, q => by
    rw [zm_ll, zm_ll_mem]
    constructor
    · rintro ⟨i, v, h1, h2⟩
      exact ⟨i + 1, v, by simpa using h1, by rw [h2]; congr 1; omega⟩
    · rintro ⟨i, v, h1, h2⟩
      cases i with
      | zero => simp at h1
      | succ i => exact ⟨i, v, by simpa using h1, by rw [h2]; congr 1; omega⟩
  | some w :: l, o, q => by
    rw [zm_ll, List.mem_cons, zm_ll_mem]
    constructor
    · rintro (h | ⟨i, v, h1, h2⟩)
      · exact ⟨0, w, by simp, by rw [h]; simp⟩
      · exact ⟨i + 1, v, by simpa using h1, by rw [h2]; congr 1; omega⟩
    · rintro ⟨i, v, h1, h2⟩
      cases i with
      | zero => simp at h1; subst h1; exact Or.inl (by rw [h2]; simp)
      | succ i => exact Or.inr ⟨i, v, by simpa using h1, by rw [h2]; congr 1; omega⟩
def zm_L (ad : Zr → Nat) (Sh : ZS) (nL : Nat) (L : List (Option Zv)) (ls : Array Slot) : Prop := lv_has ls nL (zm_ll ad 0 L) ∧ ∀ (i : Nat) (v : Zv), L[i]? = some (some v) → zm_lv Sh v
theorem zm_L.at {ad : Zr → Nat} {Sh : ZS} {nL : Nat} {L : List (Option Zv)} {ls : Array Slot} (h : zm_L ad Sh nL L ls) {i : Nat} {v : Zv} (hl : L[i]? = some (some v)) : ls[i]? = some (.val (zm_c ad v)) :=
  h.1.2.2 (i, zm_c ad v) (zm_ll_mem.mpr ⟨i, v, hl, by simp⟩)
theorem zm_cat (ad : Zr → Nat) (v : Zv) : (zm_c ad v).category = 1 := by
  cases v with
  | inl x => rfl
  | inr o => cases o <;> rfl
theorem zm_L.set {ad : Zr → Nat} {Sh : ZS} {nL : Nat} {L : List (Option Zv)} {ls ls' : Array Slot} (h : zm_L ad Sh nL L ls) {i : Nat} {v : Zv} (hv : zm_lv Sh v)
    (h' : lv_has ls' nL ((i, zm_c ad v) :: (zm_ll ad 0 L).filter (fun q => !(q.1 == i) && !(q.1 + 1 == i && q.2.category == 2)))) : zm_L ad Sh nL (L.set i (some v)) ls' := by
  refine ⟨⟨h'.1, h'.2.1, fun q hq => h'.2.2 q ?_⟩, fun j w hj => ?_⟩
  · obtain ⟨j, w, h1, h2⟩ := zm_ll_mem.mp hq
    rw [Nat.zero_add] at h2
    subst h2
    by_cases e : j = i
    · subst e
      have hlt : j < L.length := by
        have := (List.getElem?_eq_some_iff.mp h1).1
        simpa using this
      rw [List.getElem?_set_self hlt] at h1
      cases h1
      exact List.mem_cons_self
    · rw [List.getElem?_set_ne (Ne.symm e)] at h1
      refine List.mem_cons_of_mem _ (List.mem_filter.mpr ⟨zm_ll_mem.mpr ⟨j, w, h1, by simp⟩, ?_⟩)
      have hc := zm_cat ad w
      simp [e, hc]
  · by_cases e : j = i
    · subst e
      have hlt : j < L.length := by
        have := (List.getElem?_eq_some_iff.mp hj).1
        simpa using this
      rw [List.getElem?_set_self hlt] at hj
      cases hj
      exact hv
    · rw [List.getElem?_set_ne (Ne.symm e)] at hj
      exact h.2 j w hj
theorem zm_L.up {ad0 ad : Zr → Nat} {Sh0 Sh : ZS} (hx : zm_ext ad0 Sh0 ad Sh) {nL : Nat} {L : List (Option Zv)} {ls : Array Slot} (h : zm_L ad0 Sh0 nL L ls) : zm_L ad Sh nL L ls := by
  refine ⟨⟨h.1.1, h.1.2.1, fun q hq => ?_⟩, fun i v hv => (h.2 i v hv).up hx⟩
  obtain ⟨i, v, h1, h2⟩ := zm_ll_mem.mp hq
  rw [zm_c.up hx (h.2 i v h1)] at h2
  exact h.1.2.2 q (zm_ll_mem.mpr ⟨i, v, h1, h2⟩)
theorem zm_args (ad : Zr → Nat) : ∀ (As : List Zv) (o n : Nat), lv_args o (As.map (zm_c ad)) = zm_ll ad o (As.map some ++ List.replicate n none)
  | [], o, n => by
    show [] = zm_ll ad o (List.replicate n none)
    induction n generalizing o with
    | zero => rfl
    | succ n ih => rw [List.replicate_succ, zm_ll]; exact ih (o + 1)
  | v :: As, o, n => by
    have hc := zm_cat ad v
    have hc2 : ¬ (zm_c ad v).category = 2 := by omega
    show (o, zm_c ad v) :: lv_args (if (zm_c ad v).category = 2 then o + 2 else o + 1) (As.map (zm_c ad)) = (o, zm_c ad v) :: zm_ll ad (o + 1) (As.map some ++ List.replicate n none)
    rw [if_neg hc2, zm_args ad As (o + 1) n]
theorem zm_sl (ad : Zr → Nat) (As : List Zv) : (lg_sl (As.map (zm_c ad))).length = As.length := by
  induction As with
  | nil => rfl
  | cons v As ih =>
    have hc := zm_cat ad v
    have hc2 : ¬ (zm_c ad v).category = 2 := by omega
    simp only [lg_sl, List.map_cons, List.flatMap_cons, if_neg hc2, List.length_append, List.length_cons, List.length_nil]
    simp only [lg_sl] at ih
    omega
