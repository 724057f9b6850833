/-! ROWS of zw: null tests, fields, arrays -/
section ZH
variable {G : ZG} {cc : ByteArray} {K : ZK} {bc bs pc : Nat} {L : List (Option Zv)} {st : List Zv} {Sh : ZS} {P : ZP} {I : ZI} {Q : ZQ}
theorem zw_ifnull {o : Option Zr} {off : Int} (tgt : Nat) (hd : decode cc pc = .ok (.ifnull off, 3)) (ht : (pc : Int) + off = (tgt : Int)) (k1 : o = none → zw G cc K bc bs tgt L st Sh P I Q) (k2 : ∀ r, o = some r → zw G cc K bc bs (pc + 3) L st Sh P I Q) : zw G cc K bc bs pc L (.inr o :: st) Sh P I Q := by
  cases o with
  | none => exact zw_pure zw_t1 (fun _ _ _ _ _ _ _ _ _ _ _ _ _ _ _ _ _ hx hb h => lv_ifnullN hx hb hd ht h) (k1 rfl)
  | some r => exact zw_pure zw_t1 (fun _ _ _ _ _ _ _ _ _ _ _ _ _ _ _ _ _ hx hb h => lv_ifnull hx hb hd h) (k2 r rfl)
theorem zw_ifnonnull {o : Option Zr} {off : Int} (tgt : Nat) (hd : decode cc pc = .ok (.ifnonnull off, 3)) (ht : (pc : Int) + off = (tgt : Int)) (k1 : ∀ r, o = some r → zw G cc K bc bs tgt L st Sh P I Q) (k2 : o = none → zw G cc K bc bs (pc + 3) L st Sh P I Q) : zw G cc K bc bs pc L (.inr o :: st) Sh P I Q := by
  cases o with
  | none => exact zw_pure zw_t1 (fun _ _ _ _ _ _ _ _ _ _ _ _ _ _ _ _ _ hx hb h => lv_ifnonnullN hx hb hd h) (k2 rfl)
  | some r => exact zw_pure zw_t1 (fun _ _ _ _ _ _ _ _ _ _ _ _ _ _ _ _ _ hx hb h => lv_ifnonnull hx hb hd ht h) (k1 r rfl)
theorem zm_cq (ad : Zr → Nat) (o : Option Zr) : zm_c ad (.inr o) = va_rf (o.map ad) := by cases o <;> rfl
theorem zm_inj {ad : Zr → Nat} {H : Heap} (hM : zm_ok G ad Sh P I H) {a b : Option Zr} (ha : zm_lv Sh (.inr a)) (hb : zm_lv Sh (.inr b)) : a.map ad = b.map ad ↔ a = b := by
  constructor
  · intro h
    cases a with
    | none => cases b with
      | none => rfl
      | some y => cases h
    | some x => cases b with
      | none => cases h
      | some y => rw [hM.2.1 x y (ha x rfl) (hb y rfl) (Option.some.inj h)]
  · intro h; rw [h]
theorem zw_acmp_ne {a b : Option Zr} {off : Int} (tgt : Nat) (hd : decode cc pc = .ok (.if_acmp .ne off, 3)) (ht : (pc : Int) + off = (tgt : Int)) (k1 : ¬ a = b → zw G cc K bc bs tgt L st Sh P I Q) (k2 : a = b → zw G cc K bc bs (pc + 3) L st Sh P I Q) : zw G cc K bc bs pc L (.inr b :: .inr a :: st) Sh P I Q := by
  intro p l e s m args below meth c H locs cells slots mc ms ls ad ad0 Sh0 Z hA hM hL hst hS hx hc hs hE
  have hb := (List.forall_mem_cons.mp hst).1
  have ha := (List.forall_mem_cons.mp (List.forall_mem_cons.mp hst).2).1
  have hi := zm_inj hM ha hb
  show W p l e _ s m args below meth c H locs cells slots Z (F0 m pc ls (zm_c ad (.inr b) :: zm_c ad (.inr a) :: st.map (zm_c ad)))
  rw [zm_cq, zm_cq]
  exact lv_acmp_ne hA.1 hA.2.1 hd ht (fun h => k1 (fun q => h (hi.mpr q)) p l e s m args below meth c H locs cells slots mc ms ls ad ad0 Sh0 Z hA hM hL (zw_t2 hst) hS hx hc hs hE) (fun h => k2 (hi.mp h) p l e s m args below meth c H locs cells slots mc ms ls ad ad0 Sh0 Z hA hM hL (zw_t2 hst) hS hx hc hs hE)
/-! fields -/
def zt_fl (own : String) (idx c k : Nat) : Prop := c < 11 ∧ k < zt_N c ∧ (Cond.fieldLink own idx (zt_T c k).1 (zt_T c k).2.1 (zt_T c k).2.2.1 ∈ zt_good ∨ ∃ host, Cond.fieldLinkNest own idx (zt_T c k).1 (zt_T c k).2.1 (zt_T c k).2.2.1 host ∈ zt_nest)
theorem zw_get {idx c k n : Nat} {r : Zr} (hd : decode cc pc = .ok (.getfield idx, 3)) (hf : zt_fl K.2.2.2.1 idx c k) (hsh : Sh r = some (c, n)) (kk : zw G cc K bc bs (pc + 3) L (zm_f I P c r k :: st) Sh P I Q) : zw G cc K bc bs pc L (.inr (some r) :: st) Sh P I Q := by
  intro p l e s m args below meth co H locs cells slots mc ms ls ad ad0 Sh0 Z hA hM hL hst hS hx hc hs hE
  obtain ⟨hc11, hk, hlk⟩ := hf
  obtain ⟨hex, hb, -, -, hown, hts, -, -, hzk, -⟩ := id hA
  obtain ⟨cell, q1, -, q3, q4, -⟩ := hM.1 r c n hsh
  obtain ⟨-, hn, q5, q6⟩ := q4 (by omega)
  obtain ⟨hSl, hfc, kC, hkC, hkind⟩ := hzk.1.1 c _ (zt_cl_at hc11)
  obtain ⟨cf, kf, fi, f, hi, hsl⟩ := hSl k hk
  have hst2 := (u_facts hfc hkC (u_lays hts (zt_lays hc11) hk) hi).1
  have kn : cell.vm ≠ .unknown := by rw [(q3 (by omega)).1]; exact fun h => by cases h
  have sl : cell.slots[f.slot]? = some (zm_c ad (zm_f I P c r k)) := by rw [hsl]; exact q6 k (by rw [hn]; exact hk)
  have k1 := kk p l e s m args below meth co H locs cells slots mc ms ls ad ad0 Sh0 Z hA hM hL (List.forall_mem_cons.mpr ⟨zm_f.lv hM hsh (by rw [hn]; exact hk), zw_t1 hst⟩) hS hx hc hs hE
  rcases hlk with h | ⟨host, h⟩
  · exact W.getf hex hb hown (hts _ h) hi hst2 q1 kn sl rfl rfl hd k1
  · exact va_Wgetf hex hb hown (va_Nw.use rfl (hzk.2.2.1 _ h)) hi hst2 q1 kn sl rfl rfl hd k1
theorem zw_geti {idx k n : Nat} (c : Nat) {r : Zr} (hd : decode cc pc = .ok (.getfield idx, 3)) (hf : zt_fl K.2.2.2.1 idx c k) (hsh : Sh r = some (c, n)) (hr : zt_ref c k = false) (kk : zw G cc K bc bs (pc + 3) L (.inl (I r k) :: st) Sh P I Q) : zw G cc K bc bs pc L (.inr (some r) :: st) Sh P I Q :=
  zw_get hd hf hsh (by rw [show zm_f I P c r k = .inl (I r k) by unfold zm_f; rw [hr]; rfl]; exact kk)
theorem zw_getp {idx k n : Nat} (c : Nat) {r : Zr} (o : Option Zr) (hd : decode cc pc = .ok (.getfield idx, 3)) (hf : zt_fl K.2.2.2.1 idx c k) (hsh : Sh r = some (c, n)) (hr : zt_ref c k = true) (ho : P r k = o) (kk : zw G cc K bc bs (pc + 3) L (.inr o :: st) Sh P I Q) : zw G cc K bc bs pc L (.inr (some r) :: st) Sh P I Q :=
  zw_get hd hf hsh (by rw [show zm_f I P c r k = .inr o by unfold zm_f; rw [if_pos hr, ho]]; exact kk)
theorem zm_fits {ad : Zr → Nat} {v : Zv} {ty : FieldType} (h : match v with | .inl x => narrow ty (.int x) = .int x ∧ fits ty (.int x) = true | .inr _ => zt_rf ty = true) : narrow ty (zm_c ad v) = zm_c ad v ∧ fits ty (zm_c ad v) = true := by
  cases v with
  | inl x => exact h
  | inr o =>
    have h1 : zt_rf ty = true := h
    cases o <;> cases ty <;> first | exact ⟨rfl, rfl⟩ | cases h1
/-- a field is written: any value that fits -/
theorem zw_put {idx c k n : Nat} {r : Zr} {v : Zv} {P' : ZP} {I' : ZI} (hd : decode cc pc = .ok (.putfield idx, 3)) (hf : zt_fl K.2.2.2.1 idx c k) (hsh : Sh r = some (c, n)) (hfin : (zt_T c k).2.2.2 = false ∨ (K.1.name = "<init>" ∧ (zt_T c k).1 = K.2.2.2.1 ∧ Cond.fieldLink K.2.2.2.1 idx (zt_T c k).1 (zt_T c k).2.1 (zt_T c k).2.2.1 ∈ zt_good))
    (hv : match v with | .inl x => narrow (zt_F c k) (.int x) = .int x ∧ fits (zt_F c k) (.int x) = true | .inr _ => zt_rf (zt_F c k) = true) (hP : ∀ r' k', (r', k') ≠ (r, k) → P' r' k' = P r' k') (hI : ∀ r' k', (r', k') ≠ (r, k) → I' r' k' = I r' k') (hvf : zm_f I' P' c r k = v)
    (kk : zw G cc K bc bs (pc + 3) L st Sh P' I' Q) : zw G cc K bc bs pc L (v :: .inr (some r) :: st) Sh P I Q := by
  intro p l e s m args below meth co H locs cells slots mc ms ls ad ad0 Sh0 Z hA hM hL hst hS hx hc hs hE
  obtain ⟨hc11, hk, hlk⟩ := hf
  obtain ⟨hex, hb, -, -, hown, hts, -, hname, hzk, -⟩ := id hA
  obtain ⟨cell, q1, q2, q3, q4, q4'⟩ := hM.1 r c n hsh
  obtain ⟨q9, hn, q5, q6⟩ := q4 (by omega)
  obtain ⟨hSl, hfc, kC, hkC, hkind⟩ := hzk.1.1 c _ (zt_cl_at hc11)
  have hap := va_apart (own := K.2.2.2.1) hts (zt_lays hc11) (zt_F c) (zt_tyok hc11) (zt_nm hc11) hzk.1 (zt_cl_at hc11)
  obtain ⟨cf, kf, fi, f, hi, hsl⟩ := hSl k hk
  have hst2 := (u_facts hfc hkC (u_lays hts (zt_lays hc11) hk) hi).1
  have hlay := hts _ (zt_lays hc11 _ (u_in_lay hk))
  have hvm := (q3 (by omega)).1
  obtain ⟨f1, f2⟩ := zm_fits (ad := ad) hv
  have hlive : zm_lv Sh v := (List.forall_mem_cons.mp hst).1
  have hlt : f.slot < cell.slots.size := by rw [hsl]; exact k2_hasslot (q6 k (by rw [hn]; exact hk))
  have fin : ∀ H' : Heap, H'[ad r]? = some (cell.setSlot f.slot (zm_c ad v)) → H'.size = H.size → (∀ q, q ≠ ad r → H'[q]? = H[q]?) → W p l e { frames := K.2.2.2.2.1, cells := mc, slots := ms, locals := K.2.2.2.2.2 } s m args below meth co H' (locs ++ [⟨ad r, f.slot⟩]) cells slots Z (F0 m (pc + 3) ls (st.map (zm_c ad))) := by
    intro H' e1 e2 e3
    rw [hsl] at e1
    have hM' : zm_ok G ad Sh P' I' H' := by
      refine hM.put hsh ⟨_, e1, fun h => absurd h (by omega), fun h => q3 h, fun h => ⟨q9, hn, q5, fun j hj => ?_⟩, fun h => absurd h (by omega)⟩ e3 (fun r' k' hne => hP r' k' (fun z => hne (Prod.mk.inj z).1)) (fun r' k' hne => hI r' k' (fun z => hne (Prod.mk.inj z).1)) (fun j q hj hc2 hq => ?_)
      · have h3 := t_set (V := fun j => zm_c ad (zm_f I P c r j)) (fun j hj => q6 j (by rw [hn]; exact hj)) hap hk (zm_c ad v) j (by rw [hn] at hj; exact hj)
        rw [h3]
        by_cases hjk : j = k
        · subst hjk
          simp only [updV, if_true, hvf]
        · have e4 : zm_f I' P' c r j = zm_f I P c r j := by
            unfold zm_f
            rw [hP r j (fun z => hjk (Prod.mk.inj z).2), hI r j (fun z => hjk (Prod.mk.inj z).2)]
          simp only [updV, if_neg hjk, e4]
      · by_cases hjk : j = k
        · subst hjk
          unfold zm_f at hvf
          rw [if_pos hc2] at hvf
          exact hlive q (by rw [← hvf, hq])
        · rw [hP r j (fun z => hjk (Prod.mk.inj z).2)] at hq
          exact hM.2.2 r c n j q hsh hj hc2 hq
    exact kk p l e s m args below meth co H' _ cells slots mc ms ls ad ad0 Sh0 Z hA hM' hL (zw_t2 hst) (hS.put e2 e3 (q3 (by omega)).2.1) hx hc hs hE
  rcases hfin with hfin | ⟨hi1, hi2, hi3⟩
  · unfold u_lay at hlay
    rw [if_neg (by rw [hfin]; decide)] at hlay
    have h6 := u_store hfc hkC hkind hlay hi (zt_tyok hc11 k hk) f1 f2
    rcases hlk with h | ⟨host, h⟩
    · exact W.putK hex hb (f := f) ⟨hown, hts _ h, ⟨_, _, _, hi⟩, hst2⟩ (by rw [q5]; exact h6) q1 hvm hlt rfl rfl hd fin
    · exact va_WputK hex hb (f := f) hown (va_Nw.use rfl (hzk.2.2.1 _ h)) hi hst2 (by rw [q5]; exact h6) q1 hvm hlt rfl rfl hd fin
  · by_cases hfl : (zt_T c k).2.2.2 = true
    · unfold u_lay at hlay
      rw [if_pos hfl] at hlay
      have hcf : m.cls = cf := by
        obtain ⟨_, _, c', _, _, _, -, -, hf', -, -, -, hown2, -⟩ := Cond.laysFinal_spec hlay
        have e1 : c' = cf := by have := hi.symm.trans hf'; simp at this; exact this.1.symm
        rw [hi2] at hown2
        rw [← e1]; exact Option.some.inj (hown.symm.trans hown2)
      have h6 := u_fits hfc hkC hkind (Or.inr hlay) hi (zt_tyok hc11 k hk) f1 f2
      exact W.putFinK hex hb hown (hts _ hi3) hi hst2 hcf (hname.trans hi1) (by rw [q5]; exact h6) q1 hvm hlt rfl rfl hd fin
    · have hfl' : (zt_T c k).2.2.2 = false := by cases h : (zt_T c k).2.2.2 with | false => rfl | true => exact absurd h hfl
      unfold u_lay at hlay
      rw [if_neg hfl] at hlay
      have h6 := u_store hfc hkC hkind hlay hi (zt_tyok hc11 k hk) f1 f2
      exact W.putK hex hb (f := f) ⟨hown, hts _ hi3, ⟨_, _, _, hi⟩, hst2⟩ (by rw [q5]; exact h6) q1 hvm hlt rfl rfl hd fin
theorem zw_ui_ne {r : Zr} {k : Nat} {x : Int32} (r' : Zr) (k' : Nat) (h : (r', k') ≠ (r, k)) : ui I r k x r' k' = I r' k' := by
  unfold ui
  rw [if_neg (fun z => h (by rw [z.1, z.2]))]
theorem zw_up_ne {r : Zr} {k : Nat} {x : Option Zr} (r' : Zr) (k' : Nat) (h : (r', k') ≠ (r, k)) : up P r k x r' k' = P r' k' := by
  unfold up
  rw [if_neg (fun z => h (by rw [z.1, z.2]))]
theorem zw_puti {idx k n : Nat} (c : Nat) {r : Zr} {x : Int32} (hd : decode cc pc = .ok (.putfield idx, 3)) (hf : zt_fl K.2.2.2.1 idx c k) (hsh : Sh r = some (c, n)) (hfin : (zt_T c k).2.2.2 = false ∨ (K.1.name = "<init>" ∧ (zt_T c k).1 = K.2.2.2.1 ∧ Cond.fieldLink K.2.2.2.1 idx (zt_T c k).1 (zt_T c k).2.1 (zt_T c k).2.2.1 ∈ zt_good))
    (hv : narrow (zt_F c k) (.int x) = .int x ∧ fits (zt_F c k) (.int x) = true) (hr : zt_ref c k = false) (kk : zw G cc K bc bs (pc + 3) L st Sh P (ui I r k x) Q) : zw G cc K bc bs pc L (.inl x :: .inr (some r) :: st) Sh P I Q :=
  zw_put (v := .inl x) hd hf hsh hfin hv (fun _ _ _ => rfl) zw_ui_ne (by unfold zm_f; rw [hr]; simp [ui]) kk
theorem zw_putp {idx k n : Nat} (c : Nat) {r : Zr} {o : Option Zr} (hd : decode cc pc = .ok (.putfield idx, 3)) (hf : zt_fl K.2.2.2.1 idx c k) (hsh : Sh r = some (c, n)) (hfin : (zt_T c k).2.2.2 = false ∨ (K.1.name = "<init>" ∧ (zt_T c k).1 = K.2.2.2.1 ∧ Cond.fieldLink K.2.2.2.1 idx (zt_T c k).1 (zt_T c k).2.1 (zt_T c k).2.2.1 ∈ zt_good))
    (hv : zt_rf (zt_F c k) = true) (hr : zt_ref c k = true) (kk : zw G cc K bc bs (pc + 3) L st Sh (up P r k o) I Q) : zw G cc K bc bs pc L (.inr o :: .inr (some r) :: st) Sh P I Q :=
  zw_put (v := .inr o) hd hf hsh hfin hv zw_up_ne (fun _ _ _ => rfl) (by unfold zm_f; rw [if_pos hr]; simp [up]) kk
end ZH
