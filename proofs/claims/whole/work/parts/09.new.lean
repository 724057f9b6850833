/-! ROWS of zw: what is made, Object's constructor, ends, constants of the pool -/
section ZN
variable {G : ZG} {cc : ByteArray} {K : ZK} {bc bs pc : Nat} {L : List (Option Zv)} {st : List Zv} {Sh : ZS} {P : ZP} {I : ZI} {Q : ZQ}
theorem zm_S.new {s : State} {H H' : Heap} {locs : List Loc} (hS : va_S (zw_A G) s.heap H locs) (z : H'.size = H.size + 1) (o : ∀ q, q < H.size → H'[q]? = H[q]?) : va_S (zw_A G) s.heap H' locs :=
  ⟨Nat.le_trans hS.1 (by omega), fun x h1 h2 => (o x (Nat.lt_of_lt_of_le h1 hS.1)).trans (hS.2.1 x h1 h2), hS.2.2⟩
theorem zm_df {ad : Zr → Nat} {r : Zr} {t k : Nat} {ty : FieldType} (h : zt_ref t k = zt_rf ty) (hi : defaultValue ty = .int 0 ∨ zt_rf ty = true) : zm_c ad (zm_f (un I r) (unp P r) t r k) = defaultValue ty := by
  cases hb : zt_rf ty with
  | true =>
    rw [zm_fp (by rw [h, hb])]
    show zm_c ad (.inr (if r = r then none else P r k)) = _
    rw [if_pos rfl]
    cases ty <;> first | rfl | cases hb
  | false =>
    rw [zm_fi (by rw [h, hb])]
    show Value.int (if r = r then 0 else I r k) = _
    rw [if_pos rfl]
    rcases hi with h1 | h1
    · exact h1.symm
    · rw [hb] at h1; cases h1
theorem zt_fty {c k : Nat} (h : c < 11) (hk : k < zt_N c) : defaultValue (zt_F c k) = .int 0 ∨ zt_rf (zt_F c k) = true := by
  have key : ∀ c, c < 11 → ∀ k, k < zt_N c → (defaultValue (zt_F c k) = .int 0 ∨ zt_rf (zt_F c k) = true) := by decide +kernel
  exact key c h k hk
def zt_nw (own : String) (idx c : Nat) : Prop := c < 11 ∧ Cond.classLink own idx (zt_R c) ∈ zt_good ∧ Cond.instantiable (zt_R c) (zt_N c) ∈ zt_good ∧ Cond.initialized (zt_R c) ∈ zt_good
theorem zw_new {idx c bc' bs' : Nat} (r : Zr) (hd : decode cc pc = .ok (.new idx, 3)) (hf : zt_nw K.2.2.2.1 idx c) (hr : Sh r = none) (hbc : bc' + 1 ≤ bc) (hbs : bs' + zt_N c ≤ bs) (kk : zw G cc K bc' bs' (pc + 3) L (.inr (some r) :: st) (us' Sh r c (zt_N c)) (unp P r) (un I r) Q) : zw G cc K bc bs pc L st Sh P I Q := by
  intro p l e s m args below meth co H locs cells slots mc ms ls ad ad0 Sh0 Z hA hM hL hst hS hx hc hs hE
  obtain ⟨hc11, w1, w2, w3⟩ := hf
  obtain ⟨hex, hb, -, -, hown, hts, -, -, hzk, hbase⟩ := id hA
  have hKn := hzk.1.1 c _ (zt_cl_at hc11)
  refine W.newcK hex hb hown (hts _ w1) (hts _ w2) (hts _ w3) rfl hd (by show cells + 1 ≤ mc; omega) (by show slots + zt_N c ≤ ms; omega) hKn.2.1 rfl (fun H' kC hkC e1 z1 o1 => ?_)
  have hext := zm_ext.new (ad := ad) (t := c) (n := zt_N c) (a := H.size) hr
  have er : ua ad r H.size r = H.size := by simp [ua]
  obtain ⟨cell, b1, b2, b3, b4⟩ := u_born (zt_F c) hts (zt_lays hc11) hKn hkC e1 (zt_tyok hc11)
  have hM' : zm_ok G (ua ad r H.size) (us' Sh r c (zt_N c)) (unp P r) (un I r) H' := by
    have eb : cell = blank (G.1.1 c) kC := Option.some.inj (b1.symm.trans e1)
    refine hM.new hr ⟨cell, by rw [er]; exact b1, fun h => absurd h (by omega), fun _ => ⟨b3, by rw [er]; exact Nat.le_trans hbase hS.1, by rw [eb]; rfl, by rw [eb]; rfl⟩, fun _ => ⟨hc11, rfl, b2, fun k hk => ?_⟩, fun h => absurd h (by omega)⟩ o1
    rw [b4 k hk, zm_df (by unfold zt_ref; rw [if_pos (by omega)]) (zt_fty hc11 hk)]
  have k1 := kk p l e s m args below meth co H' locs (cells + 1) (slots + zt_N c) mc ms ls (ua ad r H.size) ad0 Sh0 Z hA hM' (hL.up hext) (List.forall_mem_cons.mpr ⟨zm_lvr (by simp [us']), fun v hv => (hst v hv).up hext⟩) (zm_S.new hS z1 o1) (hx.tr hext) (by omega) (by omega) hE
  have e5 : ((.inr (some r) : Zv) :: st).map (zm_c (ua ad r H.size)) = .ref H.size :: st.map (zm_c ad) := by
    rw [List.map_cons, zm_map.up hext hst]
    show Value.ref (ua ad r H.size r) :: _ = _
    rw [er]
  rw [e5] at k1
  exact k1
/-- a new array of whole numbers (20 int[], 21 boolean[]) -/
theorem zw_newa {bc' bs' t n : Nat} {at0 : ArrayType} {i : Int32} (r : Zr) (hd : decode cc pc = .ok (.newarray at0, 2)) (ht : t = 20 ∨ t = 21) (hty : newarray.typeOf at0 = zt_et t) (hw : Cond.arrayClass (zt_et t) ∈ zt_good) (hr : Sh r = none) (hi : i = nI n) (hn : n ≤ 65536) (hbc : bc' + 1 ≤ bc) (hbs : bs' + n ≤ bs)
    (kk : zw G cc K bc' bs' (pc + 2) L (.inr (some r) :: st) (us' Sh r t n) (unp P r) (un I r) Q) : zw G cc K bc bs pc L (.inl i :: st) Sh P I Q := by
  intro p l e s m args below meth co H locs cells slots mc ms ls ad ad0 Sh0 Z hA hM hL hst hS hx hc hs hE
  subst hi
  obtain ⟨hex, hb, -, -, hown, hts, -, -, hzk, hbase⟩ := id hA
  have ecl : (nI n).toNatClampNeg = n := nI_clamp (by omega)
  refine va_newaK hex hb (by rw [hty]; exact hts _ hw) rfl hd rfl (nI_pos (by omega)) ecl (by rw [hty]; rcases ht with rfl | rfl <;> (simp only [zt_et, componentBytes]; omega)) (by show cells + 1 ≤ mc; omega) (by show slots + n ≤ ms; omega) rfl (fun H' cA e1 z1 o1 hAr hNm => ?_)
  rw [hty] at e1 hNm
  have hcA : cA = G.2.1 t := by
    have h2 := (hzk.2.1 t (by omega) (by omega)).2
    rcases ht with rfl | rfl
    · exact Option.some.inj (hNm.symm.trans h2)
    · exact Option.some.inj (hNm.symm.trans h2)
  subst hcA
  have hext := zm_ext.new (ad := ad) (t := t) (n := n) (a := H.size) hr
  have er : ua ad r H.size r = H.size := by simp [ua]
  have hM' : zm_ok G (ua ad r H.size) (us' Sh r t n) (unp P r) (un I r) H' := by
    refine hM.new hr ⟨_, by rw [er]; exact e1, fun h => absurd h (by omega), fun _ => ⟨rfl, by rw [er]; exact Nat.le_trans hbase hS.1, rfl, rfl⟩, fun h => absurd h (by omega), fun _ => ⟨by omega, fun _ => rfl, arrV_size _ _ _, by omega, fun k hk => ?_⟩⟩ o1
    rw [arrV_read _ _ hk, zm_df (ty := zt_et t) (by rcases ht with rfl | rfl <;> rfl) (by rcases ht with rfl | rfl <;> exact Or.inl rfl)]
  have k1 := kk p l e s m args below meth co H' locs (cells + 1) (slots + n) mc ms ls (ua ad r H.size) ad0 Sh0 Z hA hM' (hL.up hext) (List.forall_mem_cons.mpr ⟨zm_lvr (by simp [us']), fun v hv => (zw_t1 hst v hv).up hext⟩) (zm_S.new hS z1 o1) (hx.tr hext) (by omega) (by omega) hE
  have e5 : ((.inr (some r) : Zv) :: st).map (zm_c (ua ad r H.size)) = .ref H.size :: st.map (zm_c ad) := by
    rw [List.map_cons, zm_map.up hext (zw_t1 hst)]
    show Value.ref (ua ad r H.size r) :: _ = _
    rw [er]
  rw [e5] at k1
  exact k1
/-- a new array of references (22 Segment[], 23 Place[], 24 ProcessState[]) -/
theorem zw_newq {bc' bs' idx t n : Nat} {i : Int32} (r : Zr) (hd : decode cc pc = .ok (.anewarray idx, 3)) (ht : t = 22 ∨ t = 23 ∨ t = 24) (hw : Cond.classLink K.2.2.2.1 idx (zt_R (zt_oc t)) ∈ zt_good) (hr : Sh r = none) (hi : i = nI n) (hn : n ≤ 65536) (hbc : bc' + 1 ≤ bc) (hbs : bs' + n ≤ bs)
    (kk : zw G cc K bc' bs' (pc + 3) L (.inr (some r) :: st) (us' Sh r t n) (unp P r) (un I r) Q) : zw G cc K bc bs pc L (.inl i :: st) Sh P I Q := by
  intro p l e s m args below meth co H locs cells slots mc ms ls ad ad0 Sh0 Z hA hM hL hst hS hx hc hs hE
  subst hi
  obtain ⟨hex, hb, -, -, hown, hts, -, -, hzk, hbase⟩ := id hA
  have ecl : (nI n).toNatClampNeg = n := nI_clamp (by omega)
  have hover : va_AO (zt_R (zt_oc t)) s := by
    obtain ⟨h8, h3, h4⟩ := hzk.2.2.2.1
    rcases ht with rfl | rfl | rfl
    · exact h8
    · exact h3
    · exact h4
  refine W.anew hex hb hown (hts _ hw) (va_AO.use hover) rfl hd rfl (nI_pos (by omega)) (by rw [ecl]; omega) (by show cells + 1 ≤ mc; omega) (by rw [ecl]; show slots + n ≤ ms; omega) (fun cA kA comp f1 f2 f3 f4 => ?_)
  rw [ecl]
  generalize hH1 : H.push ({ cls := cA, slots := Array.replicate n .null, vm := .none } : Cell) = H'
  have z1 : H'.size = H.size + 1 := by rw [← hH1, Array.size_push]
  have e1 : H'[H.size]? = some (arrV cA n (fun _ => .null)) := by rw [← hH1, Array.getElem?_push_size, ← arrV_new]
  have o1 : ∀ q : Nat, q < H.size → H'[q]? = H[q]? := fun q hq => by rw [← hH1, Array.getElem?_push, if_neg (Nat.ne_of_lt hq)]
  have hcA : cA = G.2.1 t := by
    have h2 := (hzk.2.1 t (by omega) (by omega)).2
    rcases ht with rfl | rfl | rfl
    · obtain ⟨_, _, _, _, _, h5⟩ := h2; exact Option.some.inj (f1.symm.trans h5)
    · obtain ⟨_, _, _, _, _, h5⟩ := h2; exact Option.some.inj (f1.symm.trans h5)
    · obtain ⟨_, _, _, _, _, h5⟩ := h2; exact Option.some.inj (f1.symm.trans h5)
  subst hcA
  have hext := zm_ext.new (ad := ad) (t := t) (n := n) (a := H.size) hr
  have er : ua ad r H.size r = H.size := by simp [ua]
  have hM' : zm_ok G (ua ad r H.size) (us' Sh r t n) (unp P r) (un I r) H' := by
    refine hM.new hr ⟨_, by rw [er]; exact e1, fun h => absurd h (by omega), fun _ => ⟨rfl, by rw [er]; exact Nat.le_trans hbase hS.1, rfl, rfl⟩, fun h => absurd h (by omega), fun _ => ⟨by omega, fun _ => rfl, arrV_size _ _ _, by omega, fun k hk => ?_⟩⟩ o1
    rw [arrV_read _ _ hk, zm_df (ty := zt_et t) (by rcases ht with rfl | rfl | rfl <;> rfl) (by rcases ht with rfl | rfl | rfl <;> exact Or.inr rfl)]
    rcases ht with rfl | rfl | rfl <;> rfl
  have k1 := kk p l e s m args below meth co H' locs (cells + 1) (slots + n) mc ms ls (ua ad r H.size) ad0 Sh0 Z hA hM' (hL.up hext) (List.forall_mem_cons.mpr ⟨zm_lvr (by simp [us']), fun v hv => (zw_t1 hst v hv).up hext⟩) (zm_S.new hS z1 o1) (hx.tr hext) (by omega) (by omega) hE
  have e5 : ((.inr (some r) : Zv) :: st).map (zm_c (ua ad r H.size)) = .ref H.size :: st.map (zm_c ad) := by
    rw [List.map_cons, zm_map.up hext (zw_t1 hst)]
    show Value.ref (ua ad r H.size r) :: _ = _
    rw [er]
  rw [e5] at k1
  exact k1
theorem zt_oi : Cond.instanceMethod objectInit ∈ zt_good ∧ Cond.code objectInit ⟨#[0xb1]⟩ 1 none ∈ zt_good := by
  have key : ∀ w ∈ [Cond.instanceMethod objectInit, Cond.code objectInit ⟨#[0xb1]⟩ 1 none], w ∈ lw_tbl ∧ goodWord w = true := by decide +kernel
  exact ⟨List.mem_filter.mpr (key _ List.mem_cons_self), List.mem_filter.mpr (key _ (List.mem_cons_of_mem _ List.mem_cons_self))⟩
theorem zm_cats (ad : Zr → Nat) (st : List Zv) : ((st.map (zm_c ad)).map fun v => v.category).sum = st.length := by
  induction st with
  | nil => rfl
  | cons v st ih =>
    rw [List.map_cons, List.map_cons, List.sum_cons, zm_cat, ih, List.length_cons]
    omega
theorem zw_oinit {idx : Nat} {r : Zr} (hd : decode cc pc = .ok (.invokespecial idx, 3)) (hw : Cond.methodLink K.2.2.2.1 idx objectInit ∈ zt_good) (hfr : 1 ≤ K.2.2.2.2.1) (hlo : st.length + 12 ≤ K.2.2.2.2.2) (kk : zw G cc K bc bs (pc + 3) L st Sh P I Q) : zw G cc K bc bs pc L (.inr (some r) :: st) Sh P I Q := by
  intro p l e s m args below meth co H locs cells slots mc ms ls ad ad0 Sh0 Z hA hM hL hst hS hx hc hs hE
  obtain ⟨hex, hb, hml, -, hown, hts, -⟩ := id hA
  have k1 := kk p l e s m args below meth co H locs cells slots mc ms ls ad ad0 Sh0 Z hA hM hL (zw_t1 hst) hS hx hc hs hE
  refine W.objInit hex hb hown (hts _ hw) (hts _ zt_oi.1) (hts _ zt_oi.2) (g := F0 m pc ls (zm_c ad (.inr (some r)) :: st.map (zm_c ad))) rfl (by rw [hml]; exact hL.1.1) (a := ad r) (rest := st.map (zm_c ad)) rfl hd hfr ?_ k1
  show 2 * 0 + _ + 12 ≤ _
  rw [zm_cats]
  show 2 * 0 + st.length + 12 ≤ K.2.2.2.2.2
  omega
theorem zw_ldc {idx : Nat} (v : Int32) (hd : decode cc pc = .ok (.ldc idx, 2)) (hw : Cond.constant K.2.2.2.1 idx v ∈ zt_good) (kk : zw G cc K bc bs (pc + 2) L (.inl v :: st) Sh P I Q) : zw G cc K bc bs pc L st Sh P I Q := by
  intro p l e s m args below meth co H locs cells slots mc ms ls ad ad0 Sh0 Z hA hM hL hst hS hx hc hs hE
  exact lv_ldc hA.1 hA.2.1 hA.2.2.2.2.1 (hA.2.2.2.2.2.1 _ hw) hd (kk p l e s m args below meth co H locs cells slots mc ms ls ad ad0 Sh0 Z hA hM hL (zw_l0 hst) hS hx hc hs hE)
/-! ends -/
theorem zw_end {v : Option Zv} (hR : zw_R cc K.2.2.1 pc v) (hQ : Q v Sh P I) : zw G cc K bc bs pc L v.toList Sh P I Q := by
  intro p l e s m args below meth co H locs cells slots mc ms ls ad ad0 Sh0 Z hA hM hL hst hS hx hc hs hE
  exact hE H locs cells slots ad Sh P I v pc ls hM hS hx (by omega) (by omega) (fun x h => hst x (by rw [h]; exact List.mem_singleton_self x)) hR hQ
theorem zw_vret (hd : decode cc pc = .ok (.return_, 1)) (hr : K.2.2.1 = none) (hQ : Q none Sh P I) : zw G cc K bc bs pc L [] Sh P I Q := zw_end (v := none) (Or.inl ⟨rfl, hr, hd⟩) hQ
theorem zw_iret {x : Int32} (hd : decode cc pc = .ok (.ireturn, 1)) (hr : K.2.2.1 = some .int) (hQ : Q (some (.inl x)) Sh P I) : zw G cc K bc bs pc L [.inl x] Sh P I Q := zw_end (v := some (.inl x)) (Or.inr (Or.inl ⟨x, .int, rfl, hr, rfl, hd⟩)) hQ
theorem zw_zret {x : Int32} (hd : decode cc pc = .ok (.ireturn, 1)) (hr : K.2.2.1 = some .boolean) (hn : narrow .boolean (.int x) = .int x) (hQ : Q (some (.inl x)) Sh P I) : zw G cc K bc bs pc L [.inl x] Sh P I Q := zw_end (v := some (.inl x)) (Or.inr (Or.inl ⟨x, .boolean, rfl, hr, hn, hd⟩)) hQ
theorem zw_aret {o : Option Zr} {C : String} (hd : decode cc pc = .ok (.areturn, 1)) (hr : K.2.2.1 = some (.object C)) (hQ : Q (some (.inr o)) Sh P I) : zw G cc K bc bs pc L [.inr o] Sh P I Q := zw_end (v := some (.inr o)) (Or.inr (Or.inr ⟨o, C, rfl, hr, hd⟩)) hQ
end ZN
