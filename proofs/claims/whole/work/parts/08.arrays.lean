/-! ROWS of zw: arrays -/
section ZA
variable {G : ZG} {cc : ByteArray} {K : ZK} {bc bs pc : Nat} {L : List (Option Zv)} {st : List Zv} {Sh : ZS} {P : ZP} {I : ZI} {Q : ZQ}
theorem zm_arr {U : State} {cA : ClassId} {ty : FieldType} {cell : Cell} (h : ArrOfT U cA ty) (hc : cell.cls = cA) (hv : cell.vm = .none) : U.isArrayOf cell ty := by
  obtain ⟨-, k, hk, comp, hkind⟩ := h 0 (fun _ => .null)
  exact ⟨fun q z => (by rw [hv] at z; cases z), k, by rw [hc]; exact hk, comp, hkind⟩
theorem zm_ix {j n : Nat} (hj : j < n) (hn : n < 2 ^ 31) : (nI j).toNatClampNeg = j := nI_clamp (by omega)
/-- an array's cell, as the machine's rows want it -/
theorem zm_acell {U : State} {ad : Zr → Nat} {H : Heap} (hzk : zk G U) (hM : zm_ok G ad Sh P I H) {r : Zr} {t n : Nat} (hsh : Sh r = some (t, n)) (ht : 20 ≤ t) : ∃ cell : Cell, H[ad r]? = some cell ∧ U.isArrayOf cell (zt_et t) ∧ cell.vm ≠ .unknown ∧ cell.slots.size = n ∧ n < 2 ^ 31 ∧ (∀ k, k < n → cell.slots[k]? = some (zm_c ad (zm_f I P t r k))) ∧ (t ≠ 25 → cell.vm = .none ∧ cell.cls = G.2.1 t ∧ G.2.2.1 ≤ ad r) := by
  obtain ⟨cell, q1, q2, q3, -, q5⟩ := hM.1 r t n hsh
  obtain ⟨h25, a1, a2, a3, a4⟩ := q5 ht
  by_cases h : t = 25
  · subst h
    have e := q2 rfl
    refine ⟨cell, q1, ?_, ?_, a2, a3, a4, fun z => absurd rfl z⟩
    · rw [e]; exact hzk.2.2.2.2.1
    · rw [e]; exact hzk.2.2.2.2.2
  · have hvm := (q3 h).1
    exact ⟨cell, q1, zm_arr (hzk.2.1 t ht (by omega)).1 (a1 h) hvm, (by rw [hvm]; exact fun z => by cases z), a2, a3, a4, fun _ => ⟨hvm, a1 h, (q3 h).2.1⟩⟩
theorem zm_fi {t k : Nat} {r : Zr} (h : zt_ref t k = false) : zm_f I P t r k = .inl (I r k) := by unfold zm_f; rw [h]; rfl
theorem zm_fp {t k : Nat} {r : Zr} (h : zt_ref t k = true) : zm_f I P t r k = .inr (P r k) := by unfold zm_f; rw [if_pos h]
theorem zw_iald {r : Zr} {t n : Nat} {i : Int32} (j : Nat) (hd : decode cc pc = .ok (.iaload, 1)) (hsh : Sh r = some (t, n)) (ht : t = 20 ∨ t = 25) (hj : j < n) (hi : i = nI j) (kk : zw G cc K bc bs (pc + 1) L (.inl (I r j) :: st) Sh P I Q) : zw G cc K bc bs pc L (.inl i :: .inr (some r) :: st) Sh P I Q := by
  intro p l e s m args below meth co H locs cells slots mc ms ls ad ad0 Sh0 Z hA hM hL hst hS hx hc hs hE
  subst hi
  obtain ⟨cell, q1, q2, q3, q4, q5, q6, -⟩ := zm_acell hA.2.2.2.2.2.2.2.2.1 hM hsh (by omega)
  have hr : zt_ref t j = false := by rcases ht with rfl | rfl <;> rfl
  have h6 := q6 j hj
  rw [zm_fi hr] at h6
  have k1 := kk p l e s m args below meth co H locs cells slots mc ms ls ad ad0 Sh0 Z hA hM hL (zw_l2 hst) hS hx hc hs hE
  exact W.iald hA.1 hA.2.1 q1 (by rcases ht with rfl | rfl <;> exact q2) q3 (by rw [q4]; exact nI_in hj q5) (by rw [zm_ix hj q5]; exact h6) rfl rfl hd k1
theorem zw_zald {r : Zr} {n : Nat} {i : Int32} (j : Nat) (hd : decode cc pc = .ok (.baload, 1)) (hsh : Sh r = some (21, n)) (hj : j < n) (hi : i = nI j) (kk : zw G cc K bc bs (pc + 1) L (.inl (I r j) :: st) Sh P I Q) : zw G cc K bc bs pc L (.inl i :: .inr (some r) :: st) Sh P I Q := by
  intro p l e s m args below meth co H locs cells slots mc ms ls ad ad0 Sh0 Z hA hM hL hst hS hx hc hs hE
  subst hi
  obtain ⟨cell, q1, q2, q3, q4, q5, q6, -⟩ := zm_acell hA.2.2.2.2.2.2.2.2.1 hM hsh (by omega)
  have h6 := q6 j hj
  rw [zm_fi rfl] at h6
  have k1 := kk p l e s m args below meth co H locs cells slots mc ms ls ad ad0 Sh0 Z hA hM hL (zw_l2 hst) hS hx hc hs hE
  exact W.zald hA.1 hA.2.1 q1 q2 q3 (by rw [q4]; exact nI_in hj q5) (by rw [zm_ix hj q5]; exact h6) rfl rfl hd k1
theorem zw_aald {r : Zr} {t n : Nat} {i : Int32} (j : Nat) (o : Option Zr) (hd : decode cc pc = .ok (.aaload, 1)) (hsh : Sh r = some (t, n)) (ht : t = 22 ∨ t = 23 ∨ t = 24) (hj : j < n) (hi : i = nI j) (ho : P r j = o) (kk : zw G cc K bc bs (pc + 1) L (.inr o :: st) Sh P I Q) : zw G cc K bc bs pc L (.inl i :: .inr (some r) :: st) Sh P I Q := by
  intro p l e s m args below meth co H locs cells slots mc ms ls ad ad0 Sh0 Z hA hM hL hst hS hx hc hs hE
  subst hi
  obtain ⟨cell, q1, q2, q3, q4, q5, q6, -⟩ := zm_acell hA.2.2.2.2.2.2.2.2.1 hM hsh (by omega)
  have hr : zt_ref t j = true := by rcases ht with rfl | rfl | rfl <;> rfl
  have h6 := q6 j hj
  have hl := zm_f.lv hM hsh hj
  rw [zm_fp hr, ho] at h6 hl
  have k1 := kk p l e s m args below meth co H locs cells slots mc ms ls ad ad0 Sh0 Z hA hM hL (List.forall_mem_cons.mpr ⟨hl, zw_t2 hst⟩) hS hx hc hs hE
  exact W.aald hA.1 hA.2.1 q1 q2 (by rcases ht with rfl | rfl | rfl <;> rfl) q3 (by rw [q4]; exact nI_in hj q5) (by rw [zm_ix hj q5]; exact h6) rfl rfl hd k1
theorem zw_alen {r : Zr} {t n : Nat} (hd : decode cc pc = .ok (.arraylength, 1)) (hsh : Sh r = some (t, n)) (ht : 20 ≤ t) (kk : zw G cc K bc bs (pc + 1) L (.inl (nI n) :: st) Sh P I Q) : zw G cc K bc bs pc L (.inr (some r) :: st) Sh P I Q := by
  intro p l e s m args below meth co H locs cells slots mc ms ls ad ad0 Sh0 Z hA hM hL hst hS hx hc hs hE
  obtain ⟨cell, q1, q2, q3, q4, q5, q6, -⟩ := zm_acell hA.2.2.2.2.2.2.2.2.1 hM hsh ht
  have k1 := kk p l e s m args below meth co H locs cells slots mc ms ls ad ad0 Sh0 Z hA hM hL (zw_l1 hst) hS hx hc hs hE
  exact W.alen hA.1 hA.2.1 q1 q2 (by rw [q4]; rfl) rfl rfl hd k1
/-- what holds behind a store to an array -/
theorem zm_ast {ad : Zr → Nat} {H H' : Heap} (hM : zm_ok G ad Sh P I H) {r : Zr} {t n j : Nat} {v : Zv} {cell : Cell} {P' : ZP} {I' : ZI} (hsh : Sh r = some (t, n)) (ht : 20 ≤ t) (h25 : t ≠ 25) (hj : j < n) (hv : zm_lv Sh v) (q1 : H[ad r]? = some cell) (e1 : H'[ad r]? = some (cell.setSlot j (zm_c ad v))) (e3 : ∀ q, q ≠ ad r → H'[q]? = H[q]?)
    (hP : ∀ r' k', (r', k') ≠ (r, j) → P' r' k' = P r' k') (hI : ∀ r' k', (r', k') ≠ (r, j) → I' r' k' = I r' k') (hvf : zm_f I' P' t r j = v) : zm_ok G ad Sh P' I' H' := by
  obtain ⟨cell', a1, a2, a3, -, a5⟩ := hM.1 r t n hsh
  rw [q1] at a1
  cases a1
  obtain ⟨b0, b1, b2, b3, b4⟩ := a5 ht
  refine hM.put hsh ⟨_, e1, fun h => absurd h h25, fun h => a3 h, fun h => absurd h (by omega), fun h => ⟨b0, b1, by rw [k2_slotsz]; exact b2, b3, fun k hk => ?_⟩⟩ e3 (fun r' k' hne => hP r' k' (fun z => hne (Prod.mk.inj z).1)) (fun r' k' hne => hI r' k' (fun z => hne (Prod.mk.inj z).1)) (fun k q hk hc2 hq => ?_)
  · by_cases hjk : k = j
    · subst hjk
      rw [Cell.slots_setSlot_self _ (by rw [b2]; exact hk), hvf]
    · rw [slot_ne _ _ (Ne.symm hjk), b4 k hk]
      have e4 : zm_f I' P' t r k = zm_f I P t r k := by
        unfold zm_f
        rw [hP r k (fun z => hjk (Prod.mk.inj z).2), hI r k (fun z => hjk (Prod.mk.inj z).2)]
      rw [e4]
  · by_cases hjk : k = j
    · subst hjk
      unfold zm_f at hvf
      rw [if_pos hc2] at hvf
      exact hv q (by rw [← hvf, hq])
    · rw [hP r k (fun z => hjk (Prod.mk.inj z).2)] at hq
      exact hM.2.2 r t n k q hsh hk hc2 hq
theorem zw_iast {r : Zr} {n : Nat} {i x : Int32} (j : Nat) (hd : decode cc pc = .ok (.iastore, 1)) (hsh : Sh r = some (20, n)) (hj : j < n) (hi : i = nI j) (kk : zw G cc K bc bs (pc + 1) L st Sh P (ui I r j x) Q) : zw G cc K bc bs pc L (.inl x :: .inl i :: .inr (some r) :: st) Sh P I Q := by
  intro p l e s m args below meth co H locs cells slots mc ms ls ad ad0 Sh0 Z hA hM hL hst hS hx hc hs hE
  subst hi
  obtain ⟨cell, q1, q2, q3, q4, q5, q6, q7⟩ := zm_acell hA.2.2.2.2.2.2.2.2.1 hM hsh (by omega)
  refine W.iast hA.1 hA.2.1 q1 q2 q3 (by rw [q4]; exact nI_in hj q5) rfl rfl hd (fun H' e1 e2 e3 => ?_)
  rw [zm_ix hj q5] at e1 ⊢
  have hM' : zm_ok G ad Sh P (ui I r j x) H' := zm_ast (v := .inl x) hM hsh (by omega) (by omega) hj zm_lvi q1 e1 e3 (fun _ _ _ => rfl) zw_ui_ne (by rw [zm_fi rfl]; simp [ui])
  exact kk p l e s m args below meth co H' _ cells slots mc ms ls ad ad0 Sh0 Z hA hM' hL (zw_t1 (zw_t2 hst)) (hS.put e2 e3 (q7 (by omega)).2.2) hx hc hs hE
theorem zw_zast {r : Zr} {n : Nat} {i x : Int32} (j : Nat) (hd : decode cc pc = .ok (.bastore, 1)) (hsh : Sh r = some (21, n)) (hj : j < n) (hi : i = nI j) (hx1 : narrow .boolean (.int x) = .int x) (kk : zw G cc K bc bs (pc + 1) L st Sh P (ui I r j x) Q) : zw G cc K bc bs pc L (.inl x :: .inl i :: .inr (some r) :: st) Sh P I Q := by
  intro p l e s m args below meth co H locs cells slots mc ms ls ad ad0 Sh0 Z hA hM hL hst hS hx hc hs hE
  subst hi
  obtain ⟨cell, q1, q2, q3, q4, q5, q6, q7⟩ := zm_acell hA.2.2.2.2.2.2.2.2.1 hM hsh (by omega)
  refine W.zast hA.1 hA.2.1 q1 q2 q3 (by rw [q4]; exact nI_in hj q5) rfl rfl hd (fun H' e1 e2 e3 => ?_)
  rw [zm_ix hj q5] at e1 ⊢
  rw [hx1] at e1
  have hM' : zm_ok G ad Sh P (ui I r j x) H' := zm_ast (v := .inl x) hM hsh (by omega) (by omega) hj zm_lvi q1 e1 e3 (fun _ _ _ => rfl) zw_ui_ne (by rw [zm_fi rfl]; simp [ui])
  exact kk p l e s m args below meth co H' _ cells slots mc ms ls ad ad0 Sh0 Z hA hM' hL (zw_t1 (zw_t2 hst)) (hS.put e2 e3 (q7 (by omega)).2.2) hx hc hs hE
def zt_oc : Nat → Nat := fun t => match t with
  | 22 => 8 | 23 => 3 | _ => 4
theorem zw_aast {r v : Zr} {t n n' : Nat} {i : Int32} (j : Nat) (hd : decode cc pc = .ok (.aastore, 1)) (hsh : Sh r = some (t, n)) (ht : t = 22 ∨ t = 23 ∨ t = 24) (hsv : Sh v = some (zt_oc t, n')) (hj : j < n) (hi : i = nI j) (kk : zw G cc K bc bs (pc + 1) L st Sh (up P r j (some v)) I Q) : zw G cc K bc bs pc L (.inr (some v) :: .inl i :: .inr (some r) :: st) Sh P I Q := by
  intro p l e s m args below meth co H locs cells slots mc ms ls ad ad0 Sh0 Z hA hM hL hst hS hx hc hs hE
  subst hi
  have hzk := hA.2.2.2.2.2.2.2.2.1
  obtain ⟨cell, q1, q2, q3, q4, q5, q6, q7⟩ := zm_acell hzk hM hsh (by omega)
  obtain ⟨q7a, q7b, q7c⟩ := q7 (by omega)
  have hoc : zt_oc t < 11 := by rcases ht with rfl | rfl | rfl <;> decide
  obtain ⟨cellV, g1, -, g3, g4, -⟩ := hM.1 v _ n' hsv
  have g3' := (g3 (by omega)).1
  obtain ⟨-, -, g2, -⟩ := g4 (by omega)
  have hcls := (hzk.1.1 (zt_oc t) _ (zt_cl_at hoc)).2
  have hRA := (hzk.2.1 t (by omega) (by omega)).2
  have hRA' : va_RA s (G.2.1 t) (.object (zt_R (zt_oc t))) := by rcases ht with rfl | rfl | rfl <;> exact hRA
  obtain ⟨kA, comp, k1, k2, k3, -⟩ := hRA'
  have hcomp : comp = G.1.1 (zt_oc t) := Option.some.inj (k3.symm.trans hcls.1)
  subst hcomp
  obtain ⟨kC, hkC, -⟩ := hcls.2
  refine W.aast hA.1 hA.2.1 q1 (fun q h => by rw [q7a] at h; cases h) (by rw [q7a]; exact fun h => by cases h) (by rw [q7b]; exact k1) k2 rfl hkC ⟨nI_pos (by omega), by rw [q4, zm_ix hj q5]; exact hj⟩ g1 (fun q h => by rw [g3'] at h; cases h) (by rw [g2]; exact hkC) (by rw [g2]; exact va_assign hcls) rfl rfl hd (fun H' e1 e2 e3 => ?_)
  rw [zm_ix hj q5] at e1 ⊢
  have hM' : zm_ok G ad Sh (up P r j (some v)) I H' := zm_ast (v := .inr (some v)) hM hsh (by omega) (by omega) hj (List.forall_mem_cons.mp hst).1 q1 e1 e3 zw_up_ne (fun _ _ _ => rfl) (by rw [zm_fp (by rcases ht with rfl | rfl | rfl <;> rfl)]; simp [up])
  exact kk p l e s m args below meth co H' _ cells slots mc ms ls ad ad0 Sh0 Z hA hM' hL (zw_t1 (zw_t2 hst)) (hS.put e2 e3 q7c) hx hc hs hE
end ZA
