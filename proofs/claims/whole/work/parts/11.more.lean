/-! ROWS of zw: arraycopy of ints, switches, weaker ends, smaller budgets -/
section ZX
variable {G : ZG} {cc : ByteArray} {K : ZK} {bc bs pc : Nat} {L : List (Option Zv)} {st : List Zv} {Sh : ZS} {P : ZP} {I : ZI} {Q : ZQ}
theorem zm_exact {ad : Zr → Nat} {H : Heap} (hM : zm_ok G ad Sh P I H) {r : Zr} {n : Nat} (hsh : Sh r = some (20, n)) : H[ad r]? = some (arrV (G.2.1 20) n (fun k => .int (I r k))) := by
  obtain ⟨cell, q1, -, q3, -, q5⟩ := hM.1 r 20 n hsh
  obtain ⟨-, a1, a2, -, a4⟩ := q5 (by omega)
  obtain ⟨b1, -, b3, b4⟩ := q3 (by omega)
  have e : cell = arrV (G.2.1 20) n (fun k => .int (I r k)) := by
    have hs : cell.slots = (arrV (G.2.1 20) n (fun k => .int (I r k))).slots := by
      apply Array.ext_getElem?
      intro k
      by_cases hk : k < n
      · rw [a4 k hk, arrV_read _ _ hk, zm_fi rfl]
        rfl
      · rw [Array.getElem?_eq_none (by omega), Array.getElem?_eq_none (by rw [arrV_size]; omega)]
    obtain ⟨c1, c2, c3, c4, c5⟩ := cell
    simp only at a1 b1 b3 b4 hs
    rw [a1 (by omega), b1, b3, b4, hs]
    rfl
  rw [q1, e]
/-- a whole row copied over another -/
def ucp (I : ZI) (d s : Zr) : ZI := fun r' k' => if r' = d then I s k' else I r' k'
theorem zt_cp : Cond.native arraycopyName ∈ zt_good ∧ Cond.static arraycopyName ∈ zt_good ∧ Cond.initialized "java/lang/System" ∈ zt_good := by
  have key : ∀ w ∈ [Cond.native arraycopyName, Cond.static arraycopyName, Cond.initialized "java/lang/System"], w ∈ lw_tbl ∧ goodWord w = true := by decide +kernel
  exact ⟨List.mem_filter.mpr (key _ List.mem_cons_self), List.mem_filter.mpr (key _ (List.mem_cons_of_mem _ List.mem_cons_self)), List.mem_filter.mpr (key _ (List.mem_cons_of_mem _ (List.mem_cons_of_mem _ List.mem_cons_self)))⟩
theorem zw_copy {idx n : Nat} {r0 r1 : Zr} (hd : decode cc pc = .ok (.invokestatic idx, 3)) (hw : Cond.methodLink K.2.2.2.1 idx arraycopyName ∈ zt_good) (h0 : Sh r0 = some (20, n)) (h1 : Sh r1 = some (20, n)) (hfr : 1 ≤ K.2.2.2.2.1) (hlo : st.length + (nativeFrameWords "java/lang/System" "arraycopy" 5 + 11) ≤ K.2.2.2.2.2) (hn : n < 2 ^ 31)
    (kk : zw G cc K bc bs (pc + 3) L st Sh P (ucp I r1 r0) Q) : zw G cc K bc bs pc L (.inl (nI n) :: .inl 0 :: .inr (some r1) :: .inl 0 :: .inr (some r0) :: st) Sh P I Q := by
  intro p l e s m args below meth co H locs cells slots mc ms ls ad ad0 Sh0 Z hA hM hL hst hS hx hc hs hE
  obtain ⟨hex, hb, hml, -, hown, hts, -, -, hzk, hbase⟩ := id hA
  have ecl : (nI n).toNatClampNeg = n := nI_clamp hn
  have hc0 := zm_exact hM h0
  have hc1 := zm_exact hM h1
  have hAr := (hzk.2.1 20 (by omega) (by omega)).1
  obtain ⟨-, k0, hk0, cm0, hkk0⟩ := hAr n (fun j => .int (I r0 j))
  obtain ⟨-, k1, hk1, cm1, hkk1⟩ := hAr n (fun j => .int (I r1 j))
  have z0 : (0 : Int32).toNatClampNeg = 0 := by decide
  have e1 : copied (vp_cell (G.2.1 20) (n, .inl (I r0))) (vp_cell (G.2.1 20) (n, .inl (I r1))) 0 0 (nI n) = arrV (G.2.1 20) n (fun j => .int (va_cpy (I r0) (I r1) (0 : Int32).toNatClampNeg (0 : Int32).toNatClampNeg (nI n).toNatClampNeg j)) := va_copied (fun z => .int z) (G.2.1 20) (G.2.1 20) (I r0) (I r1) (by rw [ecl, z0]; omega)
  have fin : ∀ (T : State), T.heap = H → Stand p l e { frames := K.2.2.2.2.1, cells := mc, slots := ms, locals := K.2.2.2.2.2 } s m args below meth co T locs cells slots → ∃ t, Steps p.tables e below (T.setTop (F0 m pc ls (.int (nI n) :: .int 0 :: .ref (ad r1) :: .int 0 :: .ref (ad r0) :: st.map (zm_c ad)))) t ∧ Z t := by
    intro T hT X
    obtain ⟨vm', X', step⟩ := X.arraycopy hex hown (hts _ hw) (hts _ zt_cp.1) (hts _ zt_cp.2.1) (hts _ zt_cp.2.2) (src := ad r0) (dst := ad r1) (cs := vp_cell (G.2.1 20) (n, .inl (I r0))) (cd := vp_cell (G.2.1 20) (n, .inl (I r1))) (srcPos := 0) (destPos := 0) (n := nI n) (by rw [hT]; exact hc0) (by rw [hT]; exact hc1)
      (fun _ h => by cases h) (fun _ h => by cases h) (fun h => by cases h) (fun h => by cases h) hk0 hk1 hkk0 hkk1 (by simp [zt_et, refKind]) (by decide) (by decide) (nI_pos hn)
      (by rw [nI_toInt hn]; show ¬ _ > ((arrV (G.2.1 20) n (fun j => .int (I r0 j))).slots.size : Int); rw [arrV_size]; simp)
      (by rw [nI_toInt hn]; show ¬ _ > ((arrV (G.2.1 20) n (fun j => .int (I r1 j))).slots.size : Int); rw [arrV_size]; simp)
      (fun vm₁ _ i hi => by
        rw [ecl] at hi
        have e : (vp_cell (G.2.1 20) (n, .inl (I r0))).slots.getD ((0 : Int32).toNatClampNeg + i) .null = .int (I r0 i) := by
          show (arrV (G.2.1 20) n (fun j => .int (I r0 j))).slots.getD _ _ = _
          rw [Array.getD_eq_getD_getElem?, z0, arrV_read _ _ (by omega), Nat.zero_add]
          rfl
        refine ⟨?_, ?_⟩
        · rw [e]; rfl
        · rw [e]; exact trivial)
      (g := F0 m pc ls (.int (nI n) :: .int 0 :: .ref (ad r1) :: .int 0 :: .ref (ad r0) :: st.map (zm_c ad))) rfl (by rw [hml]; exact hL.1.1) (rest := st.map (zm_c ad)) rfl (by rw [hb]; exact hd) hfr (by show 2 * 0 + _ + _ ≤ _; rw [zm_cats]; show 2 * 0 + st.length + _ ≤ K.2.2.2.2.2; omega)
    rw [e1] at X' step
    have hl : ad r1 < H.size := (Array.getElem?_eq_some_iff.mp hc1).1
    have hheap : ((T.setVm vm').setCell (ad r1) (arrV (G.2.1 20) n (fun j => .int (va_cpy (I r0) (I r1) (0 : Int32).toNatClampNeg (0 : Int32).toNatClampNeg (nI n).toNatClampNeg j)))).heap = H.setIfInBounds (ad r1) (arrV (G.2.1 20) n (fun j => .int (va_cpy (I r0) (I r1) (0 : Int32).toNatClampNeg (0 : Int32).toNatClampNeg (nI n).toNatClampNeg j))) := by rw [← hT]; rfl
    have oq : ∀ q : Nat, q ≠ ad r1 → (H.setIfInBounds (ad r1) (arrV (G.2.1 20) n (fun j => .int (va_cpy (I r0) (I r1) (0 : Int32).toNatClampNeg (0 : Int32).toNatClampNeg (nI n).toNatClampNeg j))))[q]? = H[q]? := fun q hq => by simp [Array.getElem?_setIfInBounds, Ne.symm hq]
    obtain ⟨cell, q1, -, q3, -, q5⟩ := hM.1 r1 20 n h1
    have hM' : zm_ok G ad Sh P (ucp I r1 r0) (H.setIfInBounds (ad r1) (arrV (G.2.1 20) n (fun j => .int (va_cpy (I r0) (I r1) (0 : Int32).toNatClampNeg (0 : Int32).toNatClampNeg (nI n).toNatClampNeg j)))) := by
      refine hM.put h1 ⟨arrV (G.2.1 20) n (fun j => .int (va_cpy (I r0) (I r1) (0 : Int32).toNatClampNeg (0 : Int32).toNatClampNeg (nI n).toNatClampNeg j)), by simp only [Array.getElem?_setIfInBounds, hl, if_true], fun h => absurd h (by omega), fun _ => ⟨rfl, (q3 (by omega)).2.1, rfl, rfl⟩, fun h => absurd h (by omega), fun _ => ⟨by omega, fun _ => rfl, arrV_size _ _ _, hn, fun k hk => ?_⟩⟩ oq (fun _ _ _ => rfl) (fun r' k' hne => by simp [ucp, hne]) (fun k q hk hc2 hq => by cases hc2)
      show (arrV (G.2.1 20) n _).slots[k]? = _
      rw [arrV_read _ _ hk, zm_fi rfl]
      show some (Value.int (va_cpy (I r0) (I r1) _ _ _ k)) = some (Value.int (ucp I r1 r0 r1 k))
      rw [z0, ecl, pk_cpy_in (by omega) (by omega)]
      simp [ucp]
    obtain ⟨t, a1, b1⟩ := kk p l e s m args below meth co _ _ cells slots mc ms ls ad ad0 Sh0 Z hA hM' hL (zw_t1 (zw_t2 (zw_t2 hst))) ⟨by simp; exact hS.1, fun q g1 g2 => by
        rw [oq q (fun e => g2 (by rw [e]; exact (q3 (by omega)).2.1))]
        exact hS.2.1 q g1 g2, fun q hq => by
        rcases List.mem_append.mp hq with h | h
        · exact hS.2.2 q h
        · obtain ⟨z, -, hz⟩ := List.mem_map.mp h
          rw [← hz]
          exact (q3 (by omega)).2.1⟩ hx hc hs hE _ hheap X'
    exact ⟨t, step t a1, b1⟩
  exact fin
/-! switches -/
theorem zw_tabIn {dflt lo hi : Int} {offs : Array Int} {len : Nat} {x : Int32} {off : Int} (tgt : Nat) (hd : decode cc pc = .ok (.tableswitch dflt lo hi offs, len)) (h1 : ¬ x.toInt < lo) (h2 : ¬ hi < x.toInt) (ho : offs[(x.toInt - lo).toNat]? = some off) (ht : (pc : Int) + off = (tgt : Int)) (kk : zw G cc K bc bs tgt L st Sh P I Q) : zw G cc K bc bs pc L (.inl x :: st) Sh P I Q :=
  zw_pure zw_t1 (fun _ _ _ _ _ _ _ _ _ _ _ _ _ _ _ _ _ hx hb h => lv_tableIn hx hb hd h1 h2 ho ht h) kk
theorem zw_tabOut {dflt lo hi : Int} {offs : Array Int} {len : Nat} {x : Int32} (tgt : Nat) (hd : decode cc pc = .ok (.tableswitch dflt lo hi offs, len)) (h : x.toInt < lo ∨ hi < x.toInt) (ht : (pc : Int) + dflt = (tgt : Int)) (kk : zw G cc K bc bs tgt L st Sh P I Q) : zw G cc K bc bs pc L (.inl x :: st) Sh P I Q :=
  zw_pure zw_t1 (fun _ _ _ _ _ _ _ _ _ _ _ _ _ _ _ _ _ hx hb h' => lv_tableOut hx hb hd h ht h') kk
theorem zw_look {dflt : Int} {ps : Array (Int × Int)} {len : Nat} {x : Int32} {off : Int} (tgt : Nat) (hd : decode cc pc = .ok (.lookupswitch dflt ps, len)) (hp : (ps.toList.zip (ps.toList.drop 1)).all (fun (a, next) => a.1 < next.1) = true) (ho : Op.lookupswitch.offset ps.toList dflt x.toInt = off) (ht : (pc : Int) + off = (tgt : Int)) (kk : zw G cc K bc bs tgt L st Sh P I Q) : zw G cc K bc bs pc L (.inl x :: st) Sh P I Q :=
  zw_pure zw_t1 (fun _ _ _ _ _ _ _ _ _ _ _ _ _ _ _ _ _ hx hb h' => lv_lookup hx hb hd hp ho ht h') kk
/-- x is outside a range of small numbers, or one of them -/
theorem zs_rng (x : Int32) (lo hi : Nat) (hh : hi < 2 ^ 31) : (x.toInt < lo ∨ (hi : Int) < x.toInt) ∨ ∃ k : Nat, lo ≤ k ∧ k ≤ hi ∧ x = nI k := by
  by_cases h : x.toInt < lo ∨ (hi : Int) < x.toInt
  · exact Or.inl h
  · refine Or.inr ⟨x.toInt.toNat, by omega, by omega, ?_⟩
    apply Int32.toInt_inj.mp
    rw [nI_toInt (by omega)]
    omega
/-! consequences -/
theorem zw.mono {Q' : ZQ} (h : zw G cc K bc bs pc L st Sh P I Q') (hq : ∀ v Sh' P' I', Q' v Sh' P' I' → Q v Sh' P' I') : zw G cc K bc bs pc L st Sh P I Q := by
  intro p l e s m args below meth co H locs cells slots mc ms ls ad ad0 Sh0 Z hA hM hL hst hS hx hc hs hE
  exact h p l e s m args below meth co H locs cells slots mc ms ls ad ad0 Sh0 Z hA hM hL hst hS hx hc hs (fun H locs cells slots ad Sh P I v pc ls a1 a2 a3 a4 a5 a6 a7 a8 => hE H locs cells slots ad Sh P I v pc ls a1 a2 a3 a4 a5 a6 a7 (hq _ _ _ _ a8))
theorem zw.less {bc' bs' : Nat} (h : zw G cc K bc' bs' pc L st Sh P I Q) (h1 : bc' ≤ bc) (h2 : bs' ≤ bs) : zw G cc K bc bs pc L st Sh P I Q := by
  intro p l e s m args below meth co H locs cells slots mc ms ls ad ad0 Sh0 Z hA hM hL hst hS hx hc hs hE
  exact h p l e s m args below meth co H locs cells slots mc ms ls ad ad0 Sh0 Z hA hM hL hst hS hx (by omega) (by omega) hE
/-- fewer locals are known -/
theorem zw.fewer {L' : List (Option Zv)} (h : zw G cc K bc bs pc L' st Sh P I Q) (hl : ∀ (i : Nat) (v : Zv), L'[i]? = some (some v) → L[i]? = some (some v)) : zw G cc K bc bs pc L st Sh P I Q := by
  intro p l e s m args below meth co H locs cells slots mc ms ls ad ad0 Sh0 Z hA hM hL hst hS hx hc hs hE
  refine h p l e s m args below meth co H locs cells slots mc ms ls ad ad0 Sh0 Z hA hM ⟨⟨hL.1.1, hL.1.2.1, fun q hq => ?_⟩, fun i v hi => hL.2 i v (hl i v hi)⟩ hst hS hx hc hs hE
  obtain ⟨i, v, h1, h2⟩ := zm_ll_mem.mp hq
  exact hL.1.2.2 q (zm_ll_mem.mpr ⟨i, v, hl i v h1, h2⟩)
theorem zw_C.mono {mc ms : Nat} {As : List Zv} {Q' : ZQ} (h : zw_C G cc K mc ms As Sh P I Q') (hq : ∀ v Sh' P' I', Q' v Sh' P' I' → Q v Sh' P' I') : zw_C G cc K mc ms As Sh P I Q := by
  intro l ad hAs
  intro p e ha hc hk s m args below hf happ hP hK
  obtain ⟨n, o, h1, h2, h3, hQ, hrest⟩ := h l ad hAs p e ha hc hk s m args below hf happ hP hK
  obtain ⟨⟨v, Sh', P', I', ad', g1, g2, g3⟩, g4⟩ := hQ
  exact ⟨n, o, h1, h2, h3, ⟨⟨v, Sh', P', I', ad', g1, hq _ _ _ _ g2, g3⟩, g4⟩, hrest⟩
end ZX
