/-! THE JUDGEMENT zw: the machine at pc of a method, with locals L, stack st and the memory (Sh, P, I), comes to its end with Q. K: the method's name, its locals, its return type, its class, its frames and words of locals -/
abbrev ZK : Type := MethodName × Nat × Option FieldType × String × Nat × Nat
def zk (G : ZG) (U : State) : Prop :=
  va_K G.1 zt_cl [] U ∧ (∀ t, 20 ≤ t → t ≤ 24 → ArrOfT U (G.2.1 t) (zt_et t) ∧ va_RA U (G.2.1 t) (zt_et t)) ∧ (∀ w ∈ zt_nest, va_Nw w U) ∧ (va_AO RX8 U ∧ va_AO RX3 U ∧ va_AO RX4 U) ∧ (U.isArrayOf G.2.2.2 .int ∧ G.2.2.2.vm ≠ .unknown)
theorem zk.same {G : ZG} {u U : State} (h : u.vm = U.vm) (hk : zk G u) : zk G U := by
  obtain ⟨h1, h2, h3, ⟨h4, h5, h6⟩, h7, h8⟩ := hk
  have ha : u.vm.Alike U.vm := by rw [h]; exact Vm.Alike.refl _
  refine ⟨h1.moved ha, fun t a b => ⟨arrOfT_moved ha (h2 t a b).1, (h2 t a b).2.moved ha⟩, fun w hw => ?_, ⟨h4.moved ha, h5.moved ha, h6.moved ha⟩, State.isArrayOf_alike ha h7, h8⟩
  have hN := (List.mem_filter.mp hw).2
  refine va_Nw.same ?_ h (h3 w hw)
  unfold zt_isNest at hN
  split at hN <;> first | rfl | cases hN
theorem zk.warm {G : ZG} {u U : State} (h : u.WarmedH U.vm) (hk : zk G u) : zk G U := by
  obtain ⟨h1, h2, h3, ⟨h4, h5, h6⟩, h7, h8⟩ := hk
  have ha : u.vm.Alike U.vm := h.alike
  refine ⟨h1.moved ha, fun t a b => ⟨arrOfT_moved ha (h2 t a b).1, (h2 t a b).2.moved ha⟩, fun w hw => ?_, ⟨h4.moved ha, h5.moved ha, h6.moved ha⟩, State.isArrayOf_alike ha h7, h8⟩
  have hN := (List.mem_filter.mp hw).2
  have hz := h3 w hw
  unfold zt_isNest at hN
  split at hN
  · exact va_Nw.warmF h hz
  · exact va_Nw.warmM h hz
  · cases hN
def zw_At (G : ZG) (cc : ByteArray) (K : ZK) (p : Program) (s : State) (m : MethodId) (args : Array Value) (meth : Method) (c : Code) : Prop :=
  p.tables.exec = Jvm.exec ∧ c.code = cc ∧ c.maxLocals = K.2.1 ∧ meth.sig.returnType = K.2.2.1 ∧ s.vm.findClass K.2.2.2.1 = some m.cls ∧ (∀ w ∈ zt_good, w.before args s = true) ∧ meth.locks = false ∧ meth.name = K.1.name ∧ zk G s ∧ G.2.2.1 ≤ s.heap.size
/-- how a method ends -/
def zw_R (cc : ByteArray) (ret : Option FieldType) (pc : Nat) (v : Option Zv) : Prop :=
  (v = none ∧ ret = none ∧ decode cc pc = .ok (.return_, 1)) ∨ (∃ x ty, v = some (.inl x) ∧ ret = some ty ∧ narrow ty (.int x) = .int x ∧ decode cc pc = .ok (.ireturn, 1)) ∨ (∃ o C, v = some (.inr o) ∧ ret = some (.object C) ∧ decode cc pc = .ok (.areturn, 1))
def zw_A (G : ZG) : Nat → Prop := fun q => G.2.2.1 ≤ q
def zw_E (G : ZG) (cc : ByteArray) (K : ZK) (Q : ZQ) (p : Program) (l : Launch) (e : Env) (s : State) (m : MethodId) (args : Array Value) (below : List Frame) (meth : Method) (c : Code) (mc ms : Nat) (ad0 : Zr → Nat) (Sh0 : ZS) (Z : State → Prop) : Prop :=
  ∀ (H : Heap) (locs : List Loc) (cells slots : Nat) (ad : Zr → Nat) (Sh : ZS) (P : ZP) (I : ZI) (v : Option Zv) (pc : Nat) (ls : Array Slot),
    zm_ok G ad Sh P I H → va_S (zw_A G) s.heap H locs → zm_ext ad0 Sh0 ad Sh → cells ≤ mc → slots ≤ ms → (∀ x, v = some x → zm_lv Sh x) → zw_R cc K.2.2.1 pc v → Q v Sh P I →
    W p l e { frames := K.2.2.2.2.1, cells := mc, slots := ms, locals := K.2.2.2.2.2 } s m args below meth c H locs cells slots Z (F0 m pc ls (v.toList.map (zm_c ad)))
def zw (G : ZG) (cc : ByteArray) (K : ZK) (bc bs pc : Nat) (L : List (Option Zv)) (st : List Zv) (Sh : ZS) (P : ZP) (I : ZI) (Q : ZQ) : Prop :=
  ∀ (p : Program) (l : Launch) (e : Env) (s : State) (m : MethodId) (args : Array Value) (below : List Frame) (meth : Method) (c : Code) (H : Heap) (locs : List Loc) (cells slots mc ms : Nat) (ls : Array Slot) (ad ad0 : Zr → Nat) (Sh0 : ZS) (Z : State → Prop),
    zw_At G cc K p s m args meth c → zm_ok G ad Sh P I H → zm_L ad Sh K.2.1 L ls → (∀ v ∈ st, zm_lv Sh v) → va_S (zw_A G) s.heap H locs → zm_ext ad0 Sh0 ad Sh → cells + bc ≤ mc → slots + bs ≤ ms →
    zw_E G cc K Q p l e s m args below meth c mc ms ad0 Sh0 Z →
    W p l e { frames := K.2.2.2.2.1, cells := mc, slots := ms, locals := K.2.2.2.2.2 } s m args below meth c H locs cells slots Z (F0 m pc ls (st.map (zm_c ad)))
def zw_ws (cc : ByteArray) (K : ZK) : List Cond := Cond.code K.1 cc K.2.1 K.2.2.1 :: zt_good
def zw_Pc (G : ZG) (ad : Zr → Nat) (As : List Zv) (Sh : ZS) (P : ZP) (I : ZI) : Array Value → State → Prop := fun a U => a = (As.map (zm_c ad)).toArray ∧ zm_ok G ad Sh P I U.heap ∧ G.2.2.1 ≤ U.heap.size ∧ zk G U
def zw_Qc (G : ZG) (ad : Zr → Nat) (Sh : ZS) (Q : ZQ) : Array Value → State → Outcome → State → Prop := fun _ st oc t =>
  (∃ (v : Option Zv) (Sh' : ZS) (P' : ZP) (I' : ZI) (ad' : Zr → Nat), oc = .returned (v.map (zm_c ad')) ∧ Q v Sh' P' I' ∧ zm_ok G ad' Sh' P' I' t.heap ∧ zm_ext ad Sh ad' Sh' ∧ (∀ x, v = some x → zm_lv Sh' x)) ∧ va_F (zw_A G) st t
/-- a method's contract -/
def zw_C (G : ZG) (cc : ByteArray) (K : ZK) (mc ms : Nat) (As : List Zv) (Sh : ZS) (P : ZP) (I : ZI) (Q : ZQ) : Prop :=
  ∀ (l : Launch) (ad : Zr → Nat), (∀ v ∈ As, zm_lv Sh v) → Met l K.1 (zw_ws cc K) { frames := K.2.2.2.2.1, cells := mc, slots := ms, locals := K.2.2.2.2.2 } (zw_Pc G ad As Sh P I) (zw_Qc G ad Sh Q) mc ms (zw_A G)
theorem zw_Pc.blind {G : ZG} {ad : Zr → Nat} {As : List Zv} {Sh : ZS} {P : ZP} {I : ZI} : FrameBlind (zw_Pc G ad As Sh P I) := by
  intro a U g mk h
  obtain ⟨h1, h2, h3, h4⟩ := h
  exact ⟨h1, h2, h3, zk.same (u := U) (U := U.calling g mk a) rfl h4⟩
theorem zw_C.of {G : ZG} {cc : ByteArray} {K : ZK} {mc ms : Nat} {As : List Zv} {Sh : ZS} {P : ZP} {I : ZI} {Q : ZQ} (hy : plainName K.1.cls = true) (ho : K.1.cls = K.2.2.2.1) (hn : As.length ≤ K.2.1)
    (h : zw G cc K mc ms 0 (As.map some ++ List.replicate (K.2.1 - As.length) none) [] Sh P I Q) : zw_C G cc K mc ms As Sh P I Q := by
  intro l ad hAs
  refine Met.ofW (cc := cc) (maxL := K.2.1) (ret := K.2.2.1) hy rfl ?_
  intro p e s m args below meth c s₁ B hml hv
  obtain ⟨rfl, hM, hbase, hk⟩ := hv
  have hts := atoms_spec (ws := zw_ws cc K) B.pre
  have hown : s.vm.findClass K.2.2.2.1 = some m.cls := by rw [← ho]; exact findClass_of_methodNamed B.named
  have hlocks := B.notSynchronized
  have hl := lv_entry (As.map (zm_c ad)) (n := K.2.1) (by rw [zm_sl]; exact hn)
  rw [zm_args ad As 0 (K.2.1 - As.length)] at hl
  rw [lg_entry_eq]
  refine h p l e s m _ below meth c s.heap [] 0 0 mc ms _ ad ad Sh _ ⟨B.exec, B.bytes, hml, B.returns, hown, fun w hw => hts w (List.mem_cons_of_mem _ hw), hlocks, (name_of_methodNamed B.named B.method).1, hk, hbase⟩ hM ⟨hl, fun i v hi => ?_⟩ (fun v hv => by cases hv) va_S.rf zm_ext.rf (by omega) (by omega) ?_
  · rcases List.mem_append.mp (List.mem_of_getElem? hi) with h1 | h1
    · obtain ⟨w, hw, e1⟩ := List.mem_map.mp h1
      cases e1
      exact hAs _ hw
    · have := List.eq_of_mem_replicate h1
      cases this
  · intro H locs cells slots ad' Sh' P' I' v pc ls hM' hS hx hc hs hv hR hQ
    refine W.widen (k := mc) (n := ms) hc hs ?_
    have fin : ∀ t : State, t.heap = H → s.WarmedH t.vm → zw_Qc G ad Sh Q (As.map (zm_c ad)).toArray s (.returned (v.map (zm_c ad'))) t := fun t ht _ =>
      ⟨⟨v, Sh', P', I', ad', rfl, hQ, by rw [ht]; exact hM', hx, hv⟩, hS.F ht⟩
    rcases hR with ⟨rfl, hr, hd⟩ | ⟨x, ty, rfl, hr, hn', hd⟩ | ⟨o, C, rfl, hr, hd⟩
    · exact W.vret B.exec B.bytes (B.returns.trans hr) fin hS.2.2 hd
    · exact W.zret B.exec B.bytes (B.returns.trans hr) hn' fin hS.2.2 hd
    · exact W.aret (v := zm_c ad' (.inr o)) B.exec B.bytes (B.returns.trans hr) (Or.inl ⟨C, rfl⟩) (by cases o with | none => exact Or.inl rfl | some q => exact Or.inr ⟨_, rfl⟩) fin hS.2.2 hd
