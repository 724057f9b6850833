/-! ROWS of zw: what leaves the heap alone -/
section ZW
variable {G : ZG} {cc : ByteArray} {K : ZK} {bc bs pc : Nat} {L : List (Option Zv)} {st : List Zv} {Sh : ZS} {P : ZP} {I : ZI} {Q : ZQ}
/-- an instruction that only moves the stack and the pc -/
theorem zw_pure {pc' : Nat} {st st' : List Zv} (hl : (∀ v ∈ st, zm_lv Sh v) → ∀ v ∈ st', zm_lv Sh v)
    (h : ∀ (p : Program) (l : Launch) (e : Env) (R : Room) (s : State) (m : MethodId) (args : Array Value) (below : List Frame) (meth : Method) (c : Code) (H : Heap) (locs : List Loc) (cells slots : Nat) (ls : Array Slot) (ad : Zr → Nat) (Z : State → Prop), p.tables.exec = Jvm.exec → c.code = cc →
      W p l e R s m args below meth c H locs cells slots Z (F0 m pc' ls (st'.map (zm_c ad))) → W p l e R s m args below meth c H locs cells slots Z (F0 m pc ls (st.map (zm_c ad))))
    (k : zw G cc K bc bs pc' L st' Sh P I Q) : zw G cc K bc bs pc L st Sh P I Q := by
  intro p l e s m args below meth c H locs cells slots mc ms ls ad ad0 Sh0 Z hA hM hL hst hS hx hc hs hE
  exact h p l e _ s m args below meth c H locs cells slots ls ad Z hA.1 hA.2.1 (k p l e s m args below meth c H locs cells slots mc ms ls ad ad0 Sh0 Z hA hM hL (hl hst) hS hx hc hs hE)
theorem zw_l0 {x : Int32} (h : ∀ v ∈ st, zm_lv Sh v) : ∀ v ∈ ((.inl x : Zv) :: st), zm_lv Sh v := List.forall_mem_cons.mpr ⟨zm_lvi, h⟩
theorem zw_l1 {a : Zv} {x : Int32} (h : ∀ v ∈ a :: st, zm_lv Sh v) : ∀ v ∈ ((.inl x : Zv) :: st), zm_lv Sh v := zw_l0 (List.forall_mem_cons.mp h).2
theorem zw_l2 {a b : Zv} {x : Int32} (h : ∀ v ∈ a :: b :: st, zm_lv Sh v) : ∀ v ∈ ((.inl x : Zv) :: st), zm_lv Sh v := zw_l1 (List.forall_mem_cons.mp h).2
theorem zw_t1 {a : Zv} (h : ∀ v ∈ a :: st, zm_lv Sh v) : ∀ v ∈ st, zm_lv Sh v := (List.forall_mem_cons.mp h).2
theorem zw_t2 {a b : Zv} (h : ∀ v ∈ a :: b :: st, zm_lv Sh v) : ∀ v ∈ st, zm_lv Sh v := zw_t1 (zw_t1 h)
theorem zw_iconst {n : Int} (v : Int32) (hd : decode cc pc = .ok (.iconst n, 1)) (hv : Int32.ofInt n = v) (k : zw G cc K bc bs (pc + 1) L (.inl v :: st) Sh P I Q) : zw G cc K bc bs pc L st Sh P I Q :=
  zw_pure zw_l0 (fun _ _ _ _ _ _ _ _ _ _ _ _ _ _ _ _ _ hx hb h => lv_iconst hx hb hd hv h) k
theorem zw_bipush {n : Int} (v : Int32) (hd : decode cc pc = .ok (.bipush n, 2)) (hv : (Int8.ofInt n).toInt32 = v) (k : zw G cc K bc bs (pc + 2) L (.inl v :: st) Sh P I Q) : zw G cc K bc bs pc L st Sh P I Q :=
  zw_pure zw_l0 (fun _ _ _ _ _ _ _ _ _ _ _ _ _ _ _ _ _ hx hb h => lv_bipush hx hb hd hv h) k
theorem zw_sipush {n : Int} (v : Int32) (hd : decode cc pc = .ok (.sipush n, 3)) (hv : (Int16.ofInt n).toInt32 = v) (k : zw G cc K bc bs (pc + 3) L (.inl v :: st) Sh P I Q) : zw G cc K bc bs pc L st Sh P I Q :=
  zw_pure zw_l0 (fun _ _ _ _ _ _ _ _ _ _ _ _ _ _ _ _ _ hx hb h => lv_sipush hx hb hd hv h) k
theorem zw_null (hd : decode cc pc = .ok (.aconst_null, 1)) (k : zw G cc K bc bs (pc + 1) L (.inr none :: st) Sh P I Q) : zw G cc K bc bs pc L st Sh P I Q :=
  zw_pure (fun h => List.forall_mem_cons.mpr ⟨zm_lvn, h⟩) (fun _ _ _ _ _ _ _ _ _ _ _ _ _ _ _ _ _ hx hb h => lv_null hx hb hd h) k
theorem zw_iadd {x y : Int32} (hd : decode cc pc = .ok (.iadd, 1)) (k : zw G cc K bc bs (pc + 1) L (.inl (x + y) :: st) Sh P I Q) : zw G cc K bc bs pc L (.inl y :: .inl x :: st) Sh P I Q :=
  zw_pure zw_l2 (fun _ _ _ _ _ _ _ _ _ _ _ _ _ _ _ _ _ hx hb h => lv_iadd hx hb hd h) k
theorem zw_isub {x y : Int32} (hd : decode cc pc = .ok (.isub, 1)) (k : zw G cc K bc bs (pc + 1) L (.inl (x - y) :: st) Sh P I Q) : zw G cc K bc bs pc L (.inl y :: .inl x :: st) Sh P I Q :=
  zw_pure zw_l2 (fun _ _ _ _ _ _ _ _ _ _ _ _ _ _ _ _ _ hx hb h => lv_isub hx hb hd h) k
theorem zw_imul {x y : Int32} (hd : decode cc pc = .ok (.imul, 1)) (k : zw G cc K bc bs (pc + 1) L (.inl (x * y) :: st) Sh P I Q) : zw G cc K bc bs pc L (.inl y :: .inl x :: st) Sh P I Q :=
  zw_pure zw_l2 (fun _ _ _ _ _ _ _ _ _ _ _ _ _ _ _ _ _ hx hb h => lv_imul hx hb hd h) k
theorem zw_iand {x y : Int32} (hd : decode cc pc = .ok (.iand, 1)) (k : zw G cc K bc bs (pc + 1) L (.inl (x &&& y) :: st) Sh P I Q) : zw G cc K bc bs pc L (.inl y :: .inl x :: st) Sh P I Q :=
  zw_pure zw_l2 (fun _ _ _ _ _ _ _ _ _ _ _ _ _ _ _ _ _ hx hb h => lv_iand hx hb hd h) k
theorem zw_ior {x y : Int32} (hd : decode cc pc = .ok (.ior, 1)) (k : zw G cc K bc bs (pc + 1) L (.inl (x ||| y) :: st) Sh P I Q) : zw G cc K bc bs pc L (.inl y :: .inl x :: st) Sh P I Q :=
  zw_pure zw_l2 (fun _ _ _ _ _ _ _ _ _ _ _ _ _ _ _ _ _ hx hb h => lv_ior hx hb hd h) k
theorem zw_ixor {x y : Int32} (hd : decode cc pc = .ok (.ixor, 1)) (k : zw G cc K bc bs (pc + 1) L (.inl (x ^^^ y) :: st) Sh P I Q) : zw G cc K bc bs pc L (.inl y :: .inl x :: st) Sh P I Q :=
  zw_pure zw_l2 (fun _ _ _ _ _ _ _ _ _ _ _ _ _ _ _ _ _ hx hb h => lv_ixor hx hb hd h) k
theorem zw_ishl {x y : Int32} (hd : decode cc pc = .ok (.ishl, 1)) (k : zw G cc K bc bs (pc + 1) L (.inl (x <<< (y &&& 31)) :: st) Sh P I Q) : zw G cc K bc bs pc L (.inl y :: .inl x :: st) Sh P I Q :=
  zw_pure zw_l2 (fun _ _ _ _ _ _ _ _ _ _ _ _ _ _ _ _ _ hx hb h => lv_ishl hx hb hd h) k
theorem zw_ishr {x y : Int32} (hd : decode cc pc = .ok (.ishr, 1)) (k : zw G cc K bc bs (pc + 1) L (.inl (x >>> (y &&& 31)) :: st) Sh P I Q) : zw G cc K bc bs pc L (.inl y :: .inl x :: st) Sh P I Q :=
  zw_pure zw_l2 (fun _ _ _ _ _ _ _ _ _ _ _ _ _ _ _ _ _ hx hb h => lv_ishr hx hb hd h) k
theorem zw_iushr {x y : Int32} (hd : decode cc pc = .ok (.iushr, 1)) (k : zw G cc K bc bs (pc + 1) L (.inl ((x.toUInt32 >>> (y.toUInt32 &&& Int32.toUInt32 31)).toInt32) :: st) Sh P I Q) : zw G cc K bc bs pc L (.inl y :: .inl x :: st) Sh P I Q :=
  zw_pure zw_l2 (fun _ _ _ _ _ _ _ _ _ _ _ _ _ _ _ _ _ hx hb h => lv_iushr hx hb hd rfl h) k
theorem zw_i2s {x : Int32} (hd : decode cc pc = .ok (.i2s, 1)) (k : zw G cc K bc bs (pc + 1) L (.inl x.toInt16.toInt32 :: st) Sh P I Q) : zw G cc K bc bs pc L (.inl x :: st) Sh P I Q :=
  zw_pure zw_l1 (fun _ _ _ _ _ _ _ _ _ _ _ _ _ _ _ _ _ hx hb h => lv_i2s hx hb hd rfl h) k
theorem zw_irem {x y : Int32} (hy : ¬ y = 0) (hd : decode cc pc = .ok (.irem, 1)) (k : zw G cc K bc bs (pc + 1) L (.inl (x - x / y * y) :: st) Sh P I Q) : zw G cc K bc bs pc L (.inl y :: .inl x :: st) Sh P I Q :=
  zw_pure zw_l2 (fun _ _ _ _ _ _ _ _ _ _ _ _ _ _ _ _ _ hx hb h => lv_irem hx hb hd hy h) k
theorem zw_dup {v : Zv} (hd : decode cc pc = .ok (.dup, 1)) (k : zw G cc K bc bs (pc + 1) L (v :: v :: st) Sh P I Q) : zw G cc K bc bs pc L (v :: st) Sh P I Q :=
  zw_pure (fun h => List.forall_mem_cons.mpr ⟨(List.forall_mem_cons.mp h).1, h⟩) (fun _ _ _ _ _ _ _ _ _ _ _ _ _ _ _ ad _ hx hb h => lv_dup hx hb hd (zm_cat ad v) h) k
theorem zw_pop {v : Zv} (hd : decode cc pc = .ok (.pop, 1)) (k : zw G cc K bc bs (pc + 1) L st Sh P I Q) : zw G cc K bc bs pc L (v :: st) Sh P I Q :=
  zw_pure zw_t1 (fun _ _ _ _ _ _ _ _ _ _ _ _ _ _ _ ad _ hx hb h => lv_pop hx hb hd (zm_cat ad v) h) k
theorem zw_dup2 {v w : Zv} (hd : decode cc pc = .ok (.dup2, 1)) (k : zw G cc K bc bs (pc + 1) L (v :: w :: v :: w :: st) Sh P I Q) : zw G cc K bc bs pc L (v :: w :: st) Sh P I Q :=
  zw_pure (fun h => List.forall_mem_cons.mpr ⟨(List.forall_mem_cons.mp h).1, List.forall_mem_cons.mpr ⟨(List.forall_mem_cons.mp (List.forall_mem_cons.mp h).2).1, h⟩⟩) (fun _ _ _ _ _ _ _ _ _ _ _ _ _ _ _ ad _ hx hb h => lv_dup2_11 hx hb hd (zm_cat ad v) (zm_cat ad w) h) k
theorem zw_goto {off : Int} (tgt : Nat) (hd : decode cc pc = .ok (.goto off, 3)) (ht : (pc : Int) + off = (tgt : Int)) (k : zw G cc K bc bs tgt L st Sh P I Q) : zw G cc K bc bs pc L st Sh P I Q :=
  zw_pure (fun h => h) (fun _ _ _ _ _ _ _ _ _ _ _ _ _ _ _ _ _ hx hb h => lv_goto hx hb hd ht h) k
/-! loads and stores -/
theorem zw_iload_n {k : Fin 4} {i : Nat} {x : Int32} (hd : decode cc pc = .ok (.iload_n k, 1)) (hi : (k : Nat) = i) (hl : L[i]? = some (some (.inl x))) (kk : zw G cc K bc bs (pc + 1) L (.inl x :: st) Sh P I Q) : zw G cc K bc bs pc L st Sh P I Q := by
  intro p l e s m args below meth c H locs cells slots mc ms ls ad ad0 Sh0 Z hA hM hL hst hS hx hc hs hE
  exact lv_iload_n hA.1 hA.2.1 hd hi (hL.at hl) (kk p l e s m args below meth c H locs cells slots mc ms ls ad ad0 Sh0 Z hA hM hL (zw_l0 hst) hS hx hc hs hE)
theorem zw_iload {i : Nat} {x : Int32} (hd : decode cc pc = .ok (.iload i, 2)) (hl : L[i]? = some (some (.inl x))) (kk : zw G cc K bc bs (pc + 2) L (.inl x :: st) Sh P I Q) : zw G cc K bc bs pc L st Sh P I Q := by
  intro p l e s m args below meth c H locs cells slots mc ms ls ad ad0 Sh0 Z hA hM hL hst hS hx hc hs hE
  exact lv_iload hA.1 hA.2.1 hd (hL.at hl) (kk p l e s m args below meth c H locs cells slots mc ms ls ad ad0 Sh0 Z hA hM hL (zw_l0 hst) hS hx hc hs hE)
theorem zw_aload_n {k : Fin 4} {i : Nat} {o : Option Zr} (hd : decode cc pc = .ok (.aload_n k, 1)) (hi : (k : Nat) = i) (hl : L[i]? = some (some (.inr o))) (kk : zw G cc K bc bs (pc + 1) L (.inr o :: st) Sh P I Q) : zw G cc K bc bs pc L st Sh P I Q := by
  intro p l e s m args below meth c H locs cells slots mc ms ls ad ad0 Sh0 Z hA hM hL hst hS hx hc hs hE
  have k1 := kk p l e s m args below meth c H locs cells slots mc ms ls ad ad0 Sh0 Z hA hM hL (List.forall_mem_cons.mpr ⟨hL.2 i _ hl, hst⟩) hS hx hc hs hE
  have h1 := hL.at hl
  cases o with
  | none => exact lv_aload_nN hA.1 hA.2.1 hd hi h1 k1
  | some q => exact lv_aload_n hA.1 hA.2.1 hd hi h1 k1
theorem zw_aload {i : Nat} {o : Option Zr} (hd : decode cc pc = .ok (.aload i, 2)) (hl : L[i]? = some (some (.inr o))) (kk : zw G cc K bc bs (pc + 2) L (.inr o :: st) Sh P I Q) : zw G cc K bc bs pc L st Sh P I Q := by
  intro p l e s m args below meth c H locs cells slots mc ms ls ad ad0 Sh0 Z hA hM hL hst hS hx hc hs hE
  have k1 := kk p l e s m args below meth c H locs cells slots mc ms ls ad ad0 Sh0 Z hA hM hL (List.forall_mem_cons.mpr ⟨hL.2 i _ hl, hst⟩) hS hx hc hs hE
  have h1 := hL.at hl
  cases o with
  | none => exact lv_aloadN hA.1 hA.2.1 hd h1 k1
  | some q => exact lv_aload hA.1 hA.2.1 hd h1 k1
theorem zw_istore_n {k : Fin 4} {i : Nat} {x : Int32} (hd : decode cc pc = .ok (.istore_n k, 1)) (hi : (k : Nat) = i) (hn : i < K.2.1) (kk : zw G cc K bc bs (pc + 1) (L.set i (some (.inl x))) st Sh P I Q) : zw G cc K bc bs pc L (.inl x :: st) Sh P I Q := by
  intro p l e s m args below meth c H locs cells slots mc ms ls ad ad0 Sh0 Z hA hM hL hst hS hx hc hs hE
  exact lv_istore_n hA.1 hA.2.1 hd hi hL.1 hn rfl (fun ls' h' => kk p l e s m args below meth c H locs cells slots mc ms ls' ad ad0 Sh0 Z hA hM (hL.set zm_lvi h') (zw_t1 hst) hS hx hc hs hE)
theorem zw_istore {i : Nat} {x : Int32} (hd : decode cc pc = .ok (.istore i, 2)) (hn : i < K.2.1) (kk : zw G cc K bc bs (pc + 2) (L.set i (some (.inl x))) st Sh P I Q) : zw G cc K bc bs pc L (.inl x :: st) Sh P I Q := by
  intro p l e s m args below meth c H locs cells slots mc ms ls ad ad0 Sh0 Z hA hM hL hst hS hx hc hs hE
  exact lv_istore hA.1 hA.2.1 hd hL.1 hn rfl (fun ls' h' => kk p l e s m args below meth c H locs cells slots mc ms ls' ad ad0 Sh0 Z hA hM (hL.set zm_lvi h') (zw_t1 hst) hS hx hc hs hE)
theorem zw_astore_n {k : Fin 4} {i : Nat} {o : Option Zr} (hd : decode cc pc = .ok (.astore_n k, 1)) (hi : (k : Nat) = i) (hn : i < K.2.1) (kk : zw G cc K bc bs (pc + 1) (L.set i (some (.inr o))) st Sh P I Q) : zw G cc K bc bs pc L (.inr o :: st) Sh P I Q := by
  intro p l e s m args below meth c H locs cells slots mc ms ls ad ad0 Sh0 Z hA hM hL hst hS hx hc hs hE
  have hv := (List.forall_mem_cons.mp hst).1
  cases o with
  | none => exact lv_astore_nN hA.1 hA.2.1 hd hi hL.1 hn rfl (fun ls' h' => kk p l e s m args below meth c H locs cells slots mc ms ls' ad ad0 Sh0 Z hA hM (hL.set hv h') (zw_t1 hst) hS hx hc hs hE)
  | some q => exact lv_astore_n hA.1 hA.2.1 hd hi hL.1 hn rfl (fun ls' h' => kk p l e s m args below meth c H locs cells slots mc ms ls' ad ad0 Sh0 Z hA hM (hL.set hv h') (zw_t1 hst) hS hx hc hs hE)
theorem zw_astore {i : Nat} {o : Option Zr} (hd : decode cc pc = .ok (.astore i, 2)) (hn : i < K.2.1) (kk : zw G cc K bc bs (pc + 2) (L.set i (some (.inr o))) st Sh P I Q) : zw G cc K bc bs pc L (.inr o :: st) Sh P I Q := by
  intro p l e s m args below meth c H locs cells slots mc ms ls ad ad0 Sh0 Z hA hM hL hst hS hx hc hs hE
  have hv := (List.forall_mem_cons.mp hst).1
  cases o with
  | none => exact lv_astoreN hA.1 hA.2.1 hd hL.1 hn rfl (fun ls' h' => kk p l e s m args below meth c H locs cells slots mc ms ls' ad ad0 Sh0 Z hA hM (hL.set hv h') (zw_t1 hst) hS hx hc hs hE)
  | some q => exact lv_astore hA.1 hA.2.1 hd hL.1 hn rfl (fun ls' h' => kk p l e s m args below meth c H locs cells slots mc ms ls' ad ad0 Sh0 Z hA hM (hL.set hv h') (zw_t1 hst) hS hx hc hs hE)
theorem zw_iinc {i : Nat} {n : Int} {x : Int32} (v : Int32) (hd : decode cc pc = .ok (.iinc i n, 3)) (hl : L[i]? = some (some (.inl x))) (hv : x + Int32.ofInt n = v) (hn : i < K.2.1) (kk : zw G cc K bc bs (pc + 3) (L.set i (some (.inl v))) st Sh P I Q) : zw G cc K bc bs pc L st Sh P I Q := by
  intro p l e s m args below meth c H locs cells slots mc ms ls ad ad0 Sh0 Z hA hM hL hst hS hx hc hs hE
  obtain ⟨k, hk⟩ := List.getElem?_of_mem (zm_ll_mem (ad := ad) (o := 0).mpr ⟨i, .inl x, hl, rfl⟩)
  rw [Nat.zero_add] at hk
  exact lv_iinc hA.1 hA.2.1 hd hL.1 hk hv hn rfl (fun ls' h' => kk p l e s m args below meth c H locs cells slots mc ms ls' ad ad0 Sh0 Z hA hM (hL.set zm_lvi h') hst hS hx hc hs hE)
/-! branches -/
theorem zw_br {c0 : Prop} {pc1 pc2 : Nat} {st st1 : List Zv} (hl : (∀ v ∈ st, zm_lv Sh v) → ∀ v ∈ st1, zm_lv Sh v)
    (h : ∀ (p : Program) (l : Launch) (e : Env) (R : Room) (s : State) (m : MethodId) (args : Array Value) (below : List Frame) (meth : Method) (c : Code) (H : Heap) (locs : List Loc) (cells slots : Nat) (ls : Array Slot) (ad : Zr → Nat) (Z : State → Prop), p.tables.exec = Jvm.exec → c.code = cc →
      (c0 → W p l e R s m args below meth c H locs cells slots Z (F0 m pc1 ls (st1.map (zm_c ad)))) → (¬ c0 → W p l e R s m args below meth c H locs cells slots Z (F0 m pc2 ls (st1.map (zm_c ad)))) → W p l e R s m args below meth c H locs cells slots Z (F0 m pc ls (st.map (zm_c ad))))
    (k1 : c0 → zw G cc K bc bs pc1 L st1 Sh P I Q) (k2 : ¬ c0 → zw G cc K bc bs pc2 L st1 Sh P I Q) : zw G cc K bc bs pc L st Sh P I Q := by
  intro p l e s m args below meth c H locs cells slots mc ms ls ad ad0 Sh0 Z hA hM hL hst hS hx hc hs hE
  exact h p l e _ s m args below meth c H locs cells slots ls ad Z hA.1 hA.2.1 (fun q => k1 q p l e s m args below meth c H locs cells slots mc ms ls ad ad0 Sh0 Z hA hM hL (hl hst) hS hx hc hs hE) (fun q => k2 q p l e s m args below meth c H locs cells slots mc ms ls ad ad0 Sh0 Z hA hM hL (hl hst) hS hx hc hs hE)
theorem zw_if_eq {x : Int32} {off : Int} (tgt : Nat) (hd : decode cc pc = .ok (.ifCond .eq off, 3)) (ht : (pc : Int) + off = (tgt : Int)) (k1 : x = 0 → zw G cc K bc bs tgt L st Sh P I Q) (k2 : ¬ (x = 0) → zw G cc K bc bs (pc + 3) L st Sh P I Q) : zw G cc K bc bs pc L (.inl x :: st) Sh P I Q :=
  zw_br zw_t1 (fun _ _ _ _ _ _ _ _ _ _ _ _ _ _ _ _ _ hx hb h1 h2 => lv_if_eq hx hb hd ht h1 h2) k1 k2
theorem zw_if_ne {x : Int32} {off : Int} (tgt : Nat) (hd : decode cc pc = .ok (.ifCond .ne off, 3)) (ht : (pc : Int) + off = (tgt : Int)) (k1 : ¬ x = 0 → zw G cc K bc bs tgt L st Sh P I Q) (k2 : x = 0 → zw G cc K bc bs (pc + 3) L st Sh P I Q) : zw G cc K bc bs pc L (.inl x :: st) Sh P I Q :=
  zw_br zw_t1 (fun _ _ _ _ _ _ _ _ _ _ _ _ _ _ _ _ _ hx hb h1 h2 => lv_if_ne hx hb hd ht h2 h1) k2 k1
theorem zw_if_lt {x : Int32} {off : Int} (tgt : Nat) (hd : decode cc pc = .ok (.ifCond .lt off, 3)) (ht : (pc : Int) + off = (tgt : Int)) (k1 : x < 0 → zw G cc K bc bs tgt L st Sh P I Q) (k2 : ¬ (x < 0) → zw G cc K bc bs (pc + 3) L st Sh P I Q) : zw G cc K bc bs pc L (.inl x :: st) Sh P I Q :=
  zw_br zw_t1 (fun _ _ _ _ _ _ _ _ _ _ _ _ _ _ _ _ _ hx hb h1 h2 => lv_if_lt hx hb hd ht h1 h2) k1 k2
theorem zw_if_ge {x : Int32} {off : Int} (tgt : Nat) (hd : decode cc pc = .ok (.ifCond .ge off, 3)) (ht : (pc : Int) + off = (tgt : Int)) (k1 : 0 ≤ x → zw G cc K bc bs tgt L st Sh P I Q) (k2 : ¬ (0 ≤ x) → zw G cc K bc bs (pc + 3) L st Sh P I Q) : zw G cc K bc bs pc L (.inl x :: st) Sh P I Q :=
  zw_br zw_t1 (fun _ _ _ _ _ _ _ _ _ _ _ _ _ _ _ _ _ hx hb h1 h2 => lv_if_ge hx hb hd ht h1 h2) k1 k2
theorem zw_if_gt {x : Int32} {off : Int} (tgt : Nat) (hd : decode cc pc = .ok (.ifCond .gt off, 3)) (ht : (pc : Int) + off = (tgt : Int)) (k1 : 0 < x → zw G cc K bc bs tgt L st Sh P I Q) (k2 : ¬ (0 < x) → zw G cc K bc bs (pc + 3) L st Sh P I Q) : zw G cc K bc bs pc L (.inl x :: st) Sh P I Q :=
  zw_br zw_t1 (fun _ _ _ _ _ _ _ _ _ _ _ _ _ _ _ _ _ hx hb h1 h2 => lv_if_gt hx hb hd ht h1 h2) k1 k2
theorem zw_if_le {x : Int32} {off : Int} (tgt : Nat) (hd : decode cc pc = .ok (.ifCond .le off, 3)) (ht : (pc : Int) + off = (tgt : Int)) (k1 : x ≤ 0 → zw G cc K bc bs tgt L st Sh P I Q) (k2 : ¬ (x ≤ 0) → zw G cc K bc bs (pc + 3) L st Sh P I Q) : zw G cc K bc bs pc L (.inl x :: st) Sh P I Q :=
  zw_br zw_t1 (fun _ _ _ _ _ _ _ _ _ _ _ _ _ _ _ _ _ hx hb h1 h2 => lv_if_le hx hb hd ht h1 h2) k1 k2
theorem zw_icmp_eq {x y : Int32} {off : Int} (tgt : Nat) (hd : decode cc pc = .ok (.if_icmp .eq off, 3)) (ht : (pc : Int) + off = (tgt : Int)) (k1 : x = y → zw G cc K bc bs tgt L st Sh P I Q) (k2 : ¬ (x = y) → zw G cc K bc bs (pc + 3) L st Sh P I Q) : zw G cc K bc bs pc L (.inl y :: .inl x :: st) Sh P I Q :=
  zw_br zw_t2 (fun _ _ _ _ _ _ _ _ _ _ _ _ _ _ _ _ _ hx hb h1 h2 => lv_icmp_eq hx hb hd ht h1 h2) k1 k2
theorem zw_icmp_ne {x y : Int32} {off : Int} (tgt : Nat) (hd : decode cc pc = .ok (.if_icmp .ne off, 3)) (ht : (pc : Int) + off = (tgt : Int)) (k1 : ¬ x = y → zw G cc K bc bs tgt L st Sh P I Q) (k2 : x = y → zw G cc K bc bs (pc + 3) L st Sh P I Q) : zw G cc K bc bs pc L (.inl y :: .inl x :: st) Sh P I Q :=
  zw_br zw_t2 (fun _ _ _ _ _ _ _ _ _ _ _ _ _ _ _ _ _ hx hb h1 h2 => lv_icmp_ne hx hb hd ht h2 h1) k2 k1
theorem zw_icmp_lt {x y : Int32} {off : Int} (tgt : Nat) (hd : decode cc pc = .ok (.if_icmp .lt off, 3)) (ht : (pc : Int) + off = (tgt : Int)) (k1 : x < y → zw G cc K bc bs tgt L st Sh P I Q) (k2 : ¬ (x < y) → zw G cc K bc bs (pc + 3) L st Sh P I Q) : zw G cc K bc bs pc L (.inl y :: .inl x :: st) Sh P I Q :=
  zw_br zw_t2 (fun _ _ _ _ _ _ _ _ _ _ _ _ _ _ _ _ _ hx hb h1 h2 => lv_icmp_lt hx hb hd ht h1 h2) k1 k2
theorem zw_icmp_ge {x y : Int32} {off : Int} (tgt : Nat) (hd : decode cc pc = .ok (.if_icmp .ge off, 3)) (ht : (pc : Int) + off = (tgt : Int)) (k1 : y ≤ x → zw G cc K bc bs tgt L st Sh P I Q) (k2 : ¬ (y ≤ x) → zw G cc K bc bs (pc + 3) L st Sh P I Q) : zw G cc K bc bs pc L (.inl y :: .inl x :: st) Sh P I Q :=
  zw_br zw_t2 (fun _ _ _ _ _ _ _ _ _ _ _ _ _ _ _ _ _ hx hb h1 h2 => lv_icmp_ge hx hb hd ht h1 h2) k1 k2
theorem zw_icmp_gt {x y : Int32} {off : Int} (tgt : Nat) (hd : decode cc pc = .ok (.if_icmp .gt off, 3)) (ht : (pc : Int) + off = (tgt : Int)) (k1 : y < x → zw G cc K bc bs tgt L st Sh P I Q) (k2 : ¬ (y < x) → zw G cc K bc bs (pc + 3) L st Sh P I Q) : zw G cc K bc bs pc L (.inl y :: .inl x :: st) Sh P I Q :=
  zw_br zw_t2 (fun _ _ _ _ _ _ _ _ _ _ _ _ _ _ _ _ _ hx hb h1 h2 => lv_icmp_gt hx hb hd ht h1 h2) k1 k2
theorem zw_icmp_le {x y : Int32} {off : Int} (tgt : Nat) (hd : decode cc pc = .ok (.if_icmp .le off, 3)) (ht : (pc : Int) + off = (tgt : Int)) (k1 : x ≤ y → zw G cc K bc bs tgt L st Sh P I Q) (k2 : ¬ (x ≤ y) → zw G cc K bc bs (pc + 3) L st Sh P I Q) : zw G cc K bc bs pc L (.inl y :: .inl x :: st) Sh P I Q :=
  zw_br zw_t2 (fun _ _ _ _ _ _ _ _ _ _ _ _ _ _ _ _ _ hx hb h1 h2 => lv_icmp_le hx hb hd ht h1 h2) k1 k2
end ZW
