/-! ROWS of zw: calls -/
section ZC
variable {G : ZG} {cc : ByteArray} {K : ZK} {bc bs pc : Nat} {L : List (Option Zv)} {st : List Zv} {Sh : ZS} {P : ZP} {I : ZI} {Q : ZQ}
theorem zw_after {p : Program} {l : Launch} {e : Env} {R : Room} {s : State} {m : MethodId} {args : Array Value} {below : List Frame} {meth : Method} {c : Code} {H : Heap} {locs : List Loc} {cells slots mc ms : Nat} {Z : State → Prop} {ls : Array Slot} {st0 rest : List Value} {ad : Zr → Nat} {Q' : ZQ} {a : Array Value}
    (hr : va_Run p l e R s m args below meth c H locs cells slots mc ms (F0 m pc ls st0) rest (zw_Qc G ad Sh Q' a) (zw_A G)) (hS : va_S (zw_A G) s.heap H locs)
    (kk : ∀ (v : Option Zv) (Sh' : ZS) (P' : ZP) (I' : ZI) (ad' : Zr → Nat) (H1 : Heap) (locs1 : List Loc), Q' v Sh' P' I' → zm_ok G ad' Sh' P' I' H1 → zm_ext ad Sh ad' Sh' → (∀ x, v = some x → zm_lv Sh' x) → va_S (zw_A G) s.heap H1 locs1 → W p l e R s m args below meth c H1 locs1 (cells + mc) (slots + ms) Z (F0 m (pc + 3) ls ((v.map (zm_c ad')).toList ++ rest))) :
    W p l e R s m args below meth c H locs cells slots Z (F0 m pc ls st0) := by
  intro T hT X
  obtain ⟨v, st₀, t, T', L', h0, X', hL', e1, e2, ⟨⟨v', Sh', P', I', ad', hv, hq, hM', hext, hlv⟩, hz, hk⟩, stp⟩ := hr T hT X
  cases hv
  rw [h0] at hz hk
  obtain ⟨t2, a1, b1⟩ := kk v' Sh' P' I' ad' T'.heap (locs ++ L') hq (by rw [e1]; exact hM') hext hlv
    ⟨Nat.le_trans hS.1 (by rw [e1]; exact hz), fun q h1 h2 => by rw [e1, hk q (Nat.lt_of_lt_of_le h1 hS.1) h2]; exact hS.2.1 q h1 h2, fun q hq => by
      rcases List.mem_append.mp hq with h | h
      · exact hS.2.2 q h
      · exact hL' q h⟩ T' rfl X'
  exact ⟨t2, stp t2 a1, b1⟩
/-- what a call needs of the tables and of the room -/
def zt_cb (K : ZK) (idx : Nat) (cc' : ByteArray) (K' : ZK) (n : Nat) : Prop :=
  (Cond.methodLink K.2.2.2.1 idx K'.1 ∈ zt_good ∨ ∃ host, Cond.methodLinkNest K.2.2.2.1 idx K'.1 host ∈ zt_nest) ∧ Cond.code K'.1 cc' K'.2.1 K'.2.2.1 ∈ zt_good ∧ Cond.initialized K'.1.cls ∈ zt_good ∧
  (K'.1.cls ≠ "java/lang/invoke/MethodHandle" ∧ K'.1.cls ≠ "java/lang/invoke/VarHandle" ∧ (parseMethodDescriptor K'.1.desc).map (fun d => d.parameters.length) = some n) ∧ K'.2.2.2.2.1 + 1 ≤ K.2.2.2.2.1 ∧ 8 + (K'.2.1 + 11) + K'.2.2.2.2.2 ≤ K.2.2.2.2.2
def zt_cS (K : ZK) (idx : Nat) (cc' : ByteArray) (K' : ZK) (n : Nat) : Prop := zt_cb K idx cc' K' n ∧ Cond.static K'.1 ∈ zt_good
def zt_cV (K : ZK) (idx : Nat) (cc' : ByteArray) (K' : ZK) (n c : Nat) : Prop := zt_cb K idx cc' K' n ∧ Cond.instanceMethod K'.1 ∈ zt_good ∧ Cond.selects K'.1.cls K'.1 K'.1 ∈ zt_good ∧ K'.1.cls = zt_R c ∧ c < 11
def zt_cI (K : ZK) (idx : Nat) (cc' : ByteArray) (K' : ZK) (n : Nat) : Prop := zt_cb K idx cc' K' n ∧ Cond.instanceMethod K'.1 ∈ zt_good ∧ K'.1.name = "<init>" ∧ K'.2.2.1 = none
theorem zt_gd {cc' : ByteArray} {K' : ZK} (h : Cond.code K'.1 cc' K'.2.1 K'.2.2.1 ∈ zt_good) : GoodIn zt_good (zw_ws cc' K') := zt_goodIn (List.forall_mem_cons.mpr ⟨h, fun _ h => h⟩)
theorem zm_pre {ad : Zr → Nat} {s : State} {H : Heap} {As : List Zv} (hzk : zk G s) (hM : zm_ok G ad Sh P I H) (hb : G.2.2.1 ≤ H.size) : ∀ U : State, U.heap = H → s.WarmedH U.vm → zw_Pc G ad As Sh P I (As.map (zm_c ad)).toArray U :=
  fun U hU hW => ⟨rfl, by rw [hU]; exact hM, by rw [hU]; exact hb, hzk.warm hW⟩
theorem zw_callS {idx n mc' ms' bc' bs' : Nat} {cc' : ByteArray} {K' : ZK} {As stk : List Zv} {Q' : ZQ} (hd : decode cc pc = .ok (.invokestatic idx, 3)) (hw : zt_cS K idx cc' K' n) (hC : zw_C G cc' K' mc' ms' As Sh P I Q') (hstk : stk = As.reverse ++ st) (hn : As.length = n) (h8 : st.length ≤ 8) (hbc : bc' + mc' ≤ bc) (hbs : bs' + ms' ≤ bs)
    (kk : ∀ v Sh' P' I', Q' v Sh' P' I' → zw G cc K bc' bs' (pc + 3) L (v.toList ++ st) Sh' P' I' Q) : zw G cc K bc bs pc L stk Sh P I Q := by
  intro p l e s m args below meth co H locs cells slots mc ms ls ad ad0 Sh0 Z hA hM hL hst hS hx hc hs hE
  subst hstk
  obtain ⟨⟨hlk, wc, wi, wd, w3, w4⟩, ws⟩ := hw
  obtain ⟨hex, hb, hml, -, hown, hts, -, -, hzk, hbase⟩ := id hA
  have hAs : ∀ v ∈ As, zm_lv Sh v := fun v hv => hst v (List.mem_append_left _ (List.mem_reverse.mpr hv))
  have hst' : ∀ v ∈ st, zm_lv Sh v := fun v hv => hst v (List.mem_append_right _ hv)
  have hp : PreS s H (zw_Pc G ad As Sh P I) (As.map (zm_c ad)) := ⟨zw_Pc.blind, zm_pre hzk hM (Nat.le_trans hbase hS.1)⟩
  have hroom : 2 * (F0 m pc ls ((As.reverse ++ st).map (zm_c ad))).monitorRoom + ((st.map (zm_c ad)).map fun v => v.category).sum ≤ 8 := by rw [zm_cats]; show 2 * 0 + st.length ≤ 8; omega
  have fin : va_Run p l e { frames := K.2.2.2.2.1, cells := mc, slots := ms, locals := K.2.2.2.2.2 } s m args below meth co H locs cells slots mc' ms' (F0 m pc ls ((As.reverse ++ st).map (zm_c ad))) (st.map (zm_c ad)) (zw_Qc G ad Sh Q' (As.map (zm_c ad)).toArray) (zw_A G) := by
    rcases hlk with hl | ⟨host, hl⟩
    · exact va_runS (cc := cc) (Ts := zt_good) ⟨hex, hb, hml, hown, hts⟩ (hC l ad hAs) ⟨callB_of n hts (zt_gd wc) rfl rfl rfl (hts _ wi) (hts _ hl) wd ⟨w3, w4⟩, hts _ ws⟩ hp rfl (by rw [List.length_map]; exact hn) hL.1.1 (by rw [← List.map_reverse, ← List.map_append]) hroom hd ⟨by show cells + mc' ≤ mc; omega, by show slots + ms' ≤ ms; omega⟩
    · exact va_runSN (cc := cc) (Ts := zt_good) ⟨hex, hb, hml, hown, hts⟩ (hC l ad hAs) ⟨va_cnB n hts (zt_gd wc) rfl rfl rfl (hzk.2.2.1 _ hl) (hts _ wi) wd ⟨w3, w4⟩, hts _ ws, trivial⟩ hp rfl (by rw [List.length_map]; exact hn) hL.1.1 (by rw [← List.map_reverse, ← List.map_append]) hroom hd ⟨by show cells + mc' ≤ mc; omega, by show slots + ms' ≤ ms; omega⟩
  refine zw_after fin hS (fun v Sh' P' I' ad' H1 locs1 hq hM1 hext hlv hS1 => ?_)
  have k1 := kk v Sh' P' I' hq p l e s m args below meth co H1 locs1 (cells + mc') (slots + ms') mc ms ls ad' ad0 Sh0 Z hA hM1 (hL.up hext) (fun w hw => ?_) hS1 (hx.tr hext) (by omega) (by omega) hE
  · rw [List.map_append, zm_map.up hext hst'] at k1
    cases v with
    | none => exact k1
    | some x => exact k1
  · rcases List.mem_append.mp hw with h | h
    · exact hlv w (Option.mem_toList.mp h)
    · exact (hst' w h).up hext
theorem zw_callV {idx n c n' mc' ms' bc' bs' : Nat} {cc' : ByteArray} {K' : ZK} {As stk : List Zv} {r : Zr} {Q' : ZQ} (hd : decode cc pc = .ok (.invokevirtual idx, 3)) (hw : zt_cV K idx cc' K' n c) (hC : zw_C G cc' K' mc' ms' (.inr (some r) :: As) Sh P I Q') (hsh : Sh r = some (c, n')) (hstk : stk = As.reverse ++ .inr (some r) :: st) (hn : As.length = n) (h8 : st.length ≤ 8) (hbc : bc' + mc' ≤ bc) (hbs : bs' + ms' ≤ bs)
    (kk : ∀ v Sh' P' I', Q' v Sh' P' I' → zw G cc K bc' bs' (pc + 3) L (v.toList ++ st) Sh' P' I' Q) : zw G cc K bc bs pc L stk Sh P I Q := by
  intro p l e s m args below meth co H locs cells slots mc ms ls ad ad0 Sh0 Z hA hM hL hst hS hx hc hs hE
  subst hstk
  obtain ⟨⟨hlk, wc, wi, wd, w3, w4⟩, ws1, ws2, ws3, hc11⟩ := hw
  obtain ⟨hex, hb, hml, -, hown, hts, -, -, hzk, hbase⟩ := id hA
  have hAs : ∀ v ∈ ((.inr (some r) : Zv) :: As), zm_lv Sh v := List.forall_mem_cons.mpr ⟨hst _ (List.mem_append_right _ List.mem_cons_self), fun v hv => hst v (List.mem_append_left _ (List.mem_reverse.mpr hv))⟩
  have hst' : ∀ v ∈ st, zm_lv Sh v := fun v hv => hst v (List.mem_append_right _ (List.mem_cons_of_mem _ hv))
  have hrecv : ∃ cellB : Cell, H[ad r]? = some cellB ∧ cellB.vm.isStatics = false ∧ s.vm.findClass K'.1.cls = some cellB.cls := by
    obtain ⟨cell, q1, -, q3, q4, -⟩ := hM.1 r c n' hsh
    obtain ⟨-, -, q5, -⟩ := q4 (by omega)
    exact ⟨cell, q1, by rw [(q3 (by omega)).1]; rfl, by rw [q5, ws3]; exact (hzk.1.1 c _ (zt_cl_at hc11)).2.1⟩
  have hp : PreV s H K'.1.cls (ad r) (zw_Pc G ad (.inr (some r) :: As) Sh P I) (As.map (zm_c ad)) := ⟨zw_Pc.blind, hrecv, zm_pre (As := .inr (some r) :: As) hzk hM (Nat.le_trans hbase hS.1)⟩
  have hroom : 2 * (F0 m pc ls ((As.reverse ++ .inr (some r) :: st).map (zm_c ad))).monitorRoom + ((st.map (zm_c ad)).map fun v => v.category).sum ≤ 8 := by rw [zm_cats]; show 2 * 0 + st.length ≤ 8; omega
  have hstk : (F0 m pc ls ((As.reverse ++ .inr (some r) :: st).map (zm_c ad))).stack = (As.map (zm_c ad)).reverse ++ .ref (ad r) :: st.map (zm_c ad) := by
    show (As.reverse ++ .inr (some r) :: st).map (zm_c ad) = _
    rw [List.map_append, List.map_reverse]
    rfl
  have fin : va_Run p l e { frames := K.2.2.2.2.1, cells := mc, slots := ms, locals := K.2.2.2.2.2 } s m args below meth co H locs cells slots mc' ms' (F0 m pc ls ((As.reverse ++ .inr (some r) :: st).map (zm_c ad))) (st.map (zm_c ad)) (zw_Qc G ad Sh Q' (Value.ref (ad r) :: As.map (zm_c ad)).toArray) (zw_A G) := by
    rcases hlk with hl | ⟨host, hl⟩
    · exact va_runV (cc := cc) (Ts := zt_good) (C := K'.1.cls) ⟨hex, hb, hml, hown, hts⟩ (hC l ad hAs) ⟨callB_of n hts (zt_gd wc) rfl rfl rfl (hts _ wi) (hts _ hl) wd ⟨w3, w4⟩, hts _ ws1, hts _ ws2⟩ hp rfl (by rw [List.length_map]; exact hn) hL.1.1 hstk hroom hd ⟨by show cells + mc' ≤ mc; omega, by show slots + ms' ≤ ms; omega⟩
    · exact va_runVN (cc := cc) (Ts := zt_good) (C := K'.1.cls) ⟨hex, hb, hml, hown, hts⟩ (hC l ad hAs) ⟨va_cnB n hts (zt_gd wc) rfl rfl rfl (hzk.2.2.1 _ hl) (hts _ wi) wd ⟨w3, w4⟩, hts _ ws1, hts _ ws2⟩ hp rfl (by rw [List.length_map]; exact hn) hL.1.1 hstk hroom hd ⟨by show cells + mc' ≤ mc; omega, by show slots + ms' ≤ ms; omega⟩
  refine zw_after fin hS (fun v Sh' P' I' ad' H1 locs1 hq hM1 hext hlv hS1 => ?_)
  have k1 := kk v Sh' P' I' hq p l e s m args below meth co H1 locs1 (cells + mc') (slots + ms') mc ms ls ad' ad0 Sh0 Z hA hM1 (hL.up hext) (fun w hw => ?_) hS1 (hx.tr hext) (by omega) (by omega) hE
  · rw [List.map_append, zm_map.up hext hst'] at k1
    cases v with
    | none => exact k1
    | some x => exact k1
  · rcases List.mem_append.mp hw with h | h
    · exact hlv w (Option.mem_toList.mp h)
    · exact (hst' w h).up hext
theorem zw_callI {idx n mc' ms' bc' bs' : Nat} {cc' : ByteArray} {K' : ZK} {As stk : List Zv} {r : Zr} {Q' : ZQ} (hd : decode cc pc = .ok (.invokespecial idx, 3)) (hw : zt_cI K idx cc' K' n) (hC : zw_C G cc' K' mc' ms' (.inr (some r) :: As) Sh P I Q') (hstk : stk = As.reverse ++ .inr (some r) :: st) (hn : As.length = n) (h8 : st.length ≤ 8) (hbc : bc' + mc' ≤ bc) (hbs : bs' + ms' ≤ bs)
    (kk : ∀ v Sh' P' I', Q' v Sh' P' I' → zw G cc K bc' bs' (pc + 3) L (v.toList ++ st) Sh' P' I' Q) : zw G cc K bc bs pc L stk Sh P I Q := by
  intro p l e s m args below meth co H locs cells slots mc ms ls ad ad0 Sh0 Z hA hM hL hst hS hx hc hs hE
  subst hstk
  obtain ⟨⟨hlk, wc, wi, wd, w3, w4⟩, ws1, ws2, ws3⟩ := hw
  obtain ⟨hex, hb, hml, -, hown, hts, -, -, hzk, hbase⟩ := id hA
  have hAs : ∀ v ∈ ((.inr (some r) : Zv) :: As), zm_lv Sh v := List.forall_mem_cons.mpr ⟨hst _ (List.mem_append_right _ List.mem_cons_self), fun v hv => hst v (List.mem_append_left _ (List.mem_reverse.mpr hv))⟩
  have hst' : ∀ v ∈ st, zm_lv Sh v := fun v hv => hst v (List.mem_append_right _ (List.mem_cons_of_mem _ hv))
  have hp : PreS s H (zw_Pc G ad (.inr (some r) :: As) Sh P I) (.ref (ad r) :: As.map (zm_c ad)) := ⟨zw_Pc.blind, zm_pre (As := .inr (some r) :: As) hzk hM (Nat.le_trans hbase hS.1)⟩
  have hroom : 2 * (F0 m pc ls ((As.reverse ++ .inr (some r) :: st).map (zm_c ad))).monitorRoom + ((st.map (zm_c ad)).map fun v => v.category).sum ≤ 8 := by rw [zm_cats]; show 2 * 0 + st.length ≤ 8; omega
  have hstk : (F0 m pc ls ((As.reverse ++ .inr (some r) :: st).map (zm_c ad))).stack = (As.map (zm_c ad)).reverse ++ .ref (ad r) :: st.map (zm_c ad) := by
    show (As.reverse ++ .inr (some r) :: st).map (zm_c ad) = _
    rw [List.map_append, List.map_reverse]
    rfl
  have wc' : Cond.code K'.1 cc' K'.2.1 none ∈ zt_good := by rw [← ws3]; exact wc
  have ew : zw_ws cc' K' = Cond.code K'.1 cc' K'.2.1 none :: zt_good := by unfold zw_ws; rw [ws3]
  have fin : va_Run p l e { frames := K.2.2.2.2.1, cells := mc, slots := ms, locals := K.2.2.2.2.2 } s m args below meth co H locs cells slots mc' ms' (F0 m pc ls ((As.reverse ++ .inr (some r) :: st).map (zm_c ad))) (st.map (zm_c ad)) (zw_Qc G ad Sh Q' (Value.ref (ad r) :: As.map (zm_c ad)).toArray) (zw_A G) := by
    rcases hlk with hl | ⟨host, hl⟩
    · exact va_runI (cc := cc) (Ts := zt_good) ⟨hex, hb, hml, hown, hts⟩ (hC l ad hAs) ⟨callB_of n hts (zt_gd wc) ew rfl rfl (hts _ wi) (hts _ hl) wd ⟨w3, w4⟩, ws2, hts _ ws1⟩ hp rfl (by rw [List.length_map]; exact hn) hL.1.1 hstk hroom hd ⟨by show cells + mc' ≤ mc; omega, by show slots + ms' ≤ ms; omega⟩
    · exact va_runIN (cc := cc) (Ts := zt_good) ⟨hex, hb, hml, hown, hts⟩ (hC l ad hAs) ⟨va_cnB n hts (zt_gd wc) ew rfl rfl (hzk.2.2.1 _ hl) (hts _ wi) wd ⟨w3, w4⟩, ws2, hts _ ws1⟩ hp rfl (by rw [List.length_map]; exact hn) hL.1.1 hstk hroom hd ⟨by show cells + mc' ≤ mc; omega, by show slots + ms' ≤ ms; omega⟩
  refine zw_after fin hS (fun v Sh' P' I' ad' H1 locs1 hq hM1 hext hlv hS1 => ?_)
  have k1 := kk v Sh' P' I' hq p l e s m args below meth co H1 locs1 (cells + mc') (slots + ms') mc ms ls ad' ad0 Sh0 Z hA hM1 (hL.up hext) (fun w hw => ?_) hS1 (hx.tr hext) (by omega) (by omega) hE
  · rw [List.map_append, zm_map.up hext hst'] at k1
    cases v with
    | none => exact k1
    | some x => exact k1
  · rcases List.mem_append.mp hw with h | h
    · exact hlv w (Option.mem_toList.mp h)
    · exact (hst' w h).up hext
end ZC
