/-! THE REFERENCE's memory: its object is the role (60, 99, 0), its array in field j the role (60, j, 0); S j k: what they hold (S 99 j: the object's own field j) -/
abbrev ZT : Type := Nat → Nat → Int32
def us (S : ZT) (j k : Nat) (v : Int32) : ZT := fun j' k' => if j' = j ∧ k' = k then v else S j' k'
abbrev ZX : Type := Nat → Int32
def ux (X : ZX) (k : Nat) (v : Int32) : ZX := fun k' => if k' = k then v else X k'
/-- the reference's core is S; its scratch fields 24 to 30 of the object are X -/
def zl (C : ZI) (S : ZT) (X : ZX) : ZI := fun r k => if r.1 = 60 ∧ r.2.2 = 0 then (if r.2.1 = 99 ∧ 24 ≤ k then X k else S r.2.1 k) else C r k
theorem zl_ui (C : ZI) (S : ZT) (X : ZX) (j k : Nat) (v : Int32) (h : ¬ (j = 99 ∧ 24 ≤ k)) : ui (zl C S X) (60, j, 0) k v = zl C (us S j k v) X := by
  funext r q
  obtain ⟨a, b, c⟩ := r
  unfold ui zl us
  by_cases h1 : a = 60 ∧ c = 0
  · obtain ⟨rfl, rfl⟩ := h1
    by_cases h2 : b = 99 ∧ 24 ≤ q
    · obtain ⟨rfl, h3⟩ := h2
      have h4 : ¬ (99 = j ∧ q = k) := fun z => h ⟨z.1.symm, by omega⟩
      simp [h3]
      intro h5 h6
      exact absurd ⟨h5, h6⟩ h4
    · simp [h2]
  · simp [h1]
    intro h3 h4 h5
    exact absurd ⟨h3, h5⟩ h1
theorem zl_ux (C : ZI) (S : ZT) (X : ZX) (k : Nat) (v : Int32) (h : 24 ≤ k) : ui (zl C S X) (60, 99, 0) k v = zl C S (ux X k v) := by
  funext r q
  obtain ⟨a, b, c⟩ := r
  unfold ui zl ux
  by_cases h1 : a = 60 ∧ c = 0
  · obtain ⟨rfl, rfl⟩ := h1
    by_cases h2 : b = 99
    · subst h2
      by_cases h3 : q = k
      · subst h3; simp [h]
      · simp [h3]
    · simp [h2]
  · simp [h1]
    intro h3 h4 h5
    exact absurd ⟨h3, h5⟩ h1
def zr_len : Nat → Nat := fun j => match j with
  | 0 => 32 | 1 => 32 | 2 => 32 | 3 => 32 | 4 => 32 | 5 => 32 | 6 => 128 | 7 => 8192 | 8 => 512 | 9 => 512 | 10 => 32 | 11 => 512 | 12 => 512 | 13 => 512 | 15 => 120 | 16 => 96 | 17 => 2048 | 18 => 160 | 19 => 2048 | 20 => 2048 | 21 => 128 | 22 => 200 | _ => 0
def zr_tag : Nat → Nat := fun j => match j with
  | 13 => 21 | _ => 20
def zr_sh (Sh : ZS) (P : ZP) : Prop := Sh (60, 99, 0) = some (10, 31) ∧ ∀ j, zt_ref 10 j = true → Sh (60, j, 0) = some (zr_tag j, zr_len j) ∧ P (60, 99, 0) j = some (60, j, 0)
/-- what a method of the reference leaves -/
def rq (C : ZI) (Sh : ZS) (P : ZP) (post : Int32 → ZT → ZX → Prop) : ZQ := fun v Sh' P' I' => ∃ x S' X', v = some (.inl x) ∧ Sh' = Sh ∧ P' = P ∧ I' = zl C S' X' ∧ post x S' X'
def rqv (C : ZI) (Sh : ZS) (P : ZP) (post : ZT → ZX → Prop) : ZQ := fun v Sh' P' I' => ∃ S' X', v = none ∧ Sh' = Sh ∧ P' = P ∧ I' = zl C S' X' ∧ post S' X'
def rc (G : ZG) (cc : ByteArray) (K : ZK) (Sh : ZS) (P : ZP) (C : ZI) (S : ZT) (X : ZX) (As : List Zv) (post : Int32 → ZT → ZX → Prop) : Prop := zw_C G cc K 0 0 (.inr (some (60, 99, 0)) :: As) Sh P (zl C S X) (rq C Sh P post)
def rcv (G : ZG) (cc : ByteArray) (K : ZK) (Sh : ZS) (P : ZP) (C : ZI) (S : ZT) (X : ZX) (As : List Zv) (post : ZT → ZX → Prop) : Prop := zw_C G cc K 0 0 (.inr (some (60, 99, 0)) :: As) Sh P (zl C S X) (rqv C Sh P post)
/-- a function that touches nothing -/
def sq (Sh : ZS) (P : ZP) (I : ZI) (post : Int32 → Prop) : ZQ := fun v Sh' P' I' => ∃ x, v = some (.inl x) ∧ Sh' = Sh ∧ P' = P ∧ I' = I ∧ post x
def sc (G : ZG) (cc : ByteArray) (K : ZK) (Sh : ZS) (P : ZP) (I : ZI) (As : List Zv) (post : Int32 → Prop) : Prop := zw_C G cc K 0 0 As Sh P I (sq Sh P I post)
section RZ
variable {G : ZG} {cc : ByteArray} {K : ZK} {bc bs pc : Nat} {L : List (Option Zv)} {st : List Zv} {Sh : ZS} {P : ZP} {C : ZI} {S : ZT} {X : ZX} {I : ZI} {Q : ZQ}
theorem zw_iaddN {a b : Nat} (hd : decode cc pc = .ok (.iadd, 1)) (k : zw G cc K bc bs (pc + 1) L (.inl (nI (a + b)) :: st) Sh P I Q) : zw G cc K bc bs pc L (.inl (nI b) :: .inl (nI a) :: st) Sh P I Q := zw_iadd hd (by rw [nI_add]; exact k)
theorem zw_imulN {a b : Nat} (hd : decode cc pc = .ok (.imul, 1)) (k : zw G cc K bc bs (pc + 1) L (.inl (nI (a * b)) :: st) Sh P I Q) : zw G cc K bc bs pc L (.inl (nI b) :: .inl (nI a) :: st) Sh P I Q := zw_imul hd (by rw [pk_mul]; exact k)
theorem zw_top {x y : Int32} (h : x = y) (k : zw G cc K bc bs pc L (.inl y :: st) Sh P I Q) : zw G cc K bc bs pc L (.inl x :: st) Sh P I Q := by rw [h]; exact k
theorem rz_arr {idx j : Nat} (hz : zr_sh Sh P) (hd : decode cc pc = .ok (.getfield idx, 3)) (hf : zt_fl K.2.2.2.1 idx 10 j) (hj : zt_ref 10 j = true) (kk : zw G cc K bc bs (pc + 3) L (.inr (some (60, j, 0)) :: st) Sh P I Q) : zw G cc K bc bs pc L (.inr (some (60, 99, 0)) :: st) Sh P I Q :=
  zw_getp 10 _ hd hf hz.1 hj (hz.2 j hj).2 kk
theorem rz_int {idx j : Nat} (hz : zr_sh Sh P) (hd : decode cc pc = .ok (.getfield idx, 3)) (hf : zt_fl K.2.2.2.1 idx 10 j) (hj : zt_ref 10 j = false) (h24 : j < 24) (kk : zw G cc K bc bs (pc + 3) L (.inl (S 99 j) :: st) Sh P (zl C S X) Q) : zw G cc K bc bs pc L (.inr (some (60, 99, 0)) :: st) Sh P (zl C S X) Q :=
  zw_geti 10 hd hf hz.1 hj (by
    have e : zl C S X (60, 99, 0) j = S 99 j := by unfold zl; simp; omega
    rw [e]; exact kk)
theorem rz_intX {idx j : Nat} (hz : zr_sh Sh P) (hd : decode cc pc = .ok (.getfield idx, 3)) (hf : zt_fl K.2.2.2.1 idx 10 j) (hj : zt_ref 10 j = false) (h24 : 24 ≤ j) (kk : zw G cc K bc bs (pc + 3) L (.inl (X j) :: st) Sh P (zl C S X) Q) : zw G cc K bc bs pc L (.inr (some (60, 99, 0)) :: st) Sh P (zl C S X) Q :=
  zw_geti 10 hd hf hz.1 hj (by
    have e : zl C S X (60, 99, 0) j = X j := by unfold zl; simp; omega
    rw [e]; exact kk)
theorem rz_put {idx j : Nat} {x : Int32} (hz : zr_sh Sh P) (hd : decode cc pc = .ok (.putfield idx, 3)) (hf : zt_fl K.2.2.2.1 idx 10 j) (hfin : (zt_T 10 j).2.2.2 = false) (hj : zt_ref 10 j = false) (hv : narrow (zt_F 10 j) (.int x) = .int x ∧ fits (zt_F 10 j) (.int x) = true) (h24 : j < 24) (kk : zw G cc K bc bs (pc + 3) L st Sh P (zl C (us S 99 j x) X) Q) : zw G cc K bc bs pc L (.inl x :: .inr (some (60, 99, 0)) :: st) Sh P (zl C S X) Q :=
  zw_puti 10 hd hf hz.1 (Or.inl hfin) hv hj (by rw [zl_ui _ _ _ _ _ _ (by omega)]; exact kk)
theorem rz_putX {idx j : Nat} {x : Int32} (hz : zr_sh Sh P) (hd : decode cc pc = .ok (.putfield idx, 3)) (hf : zt_fl K.2.2.2.1 idx 10 j) (hfin : (zt_T 10 j).2.2.2 = false) (hj : zt_ref 10 j = false) (hv : narrow (zt_F 10 j) (.int x) = .int x ∧ fits (zt_F 10 j) (.int x) = true) (h24 : 24 ≤ j) (kk : zw G cc K bc bs (pc + 3) L st Sh P (zl C S (ux X j x)) Q) : zw G cc K bc bs pc L (.inl x :: .inr (some (60, 99, 0)) :: st) Sh P (zl C S X) Q :=
  zw_puti 10 hd hf hz.1 (Or.inl hfin) hv hj (by rw [zl_ux _ _ _ _ _ h24]; exact kk)
theorem zr_j {j : Nat} (hj : zt_ref 10 j = true) : j ≠ 99 := fun e => by rw [e] at hj; cases hj
theorem rz_ald {j : Nat} {i : Int32} (k : Nat) (hz : zr_sh Sh P) (hd : decode cc pc = .ok (.iaload, 1)) (hj : zt_ref 10 j = true) (h13 : zr_tag j = 20) (hk : k < zr_len j) (hi : i = nI k) (kk : zw G cc K bc bs (pc + 1) L (.inl (S j k) :: st) Sh P (zl C S X) Q) : zw G cc K bc bs pc L (.inl i :: .inr (some (60, j, 0)) :: st) Sh P (zl C S X) Q :=
  zw_iald k hd (hz.2 j hj).1 (Or.inl h13) hk hi (show zw G cc K bc bs (pc + 1) L (.inl (zl C S X (60, j, 0) k) :: st) Sh P (zl C S X) Q from by
    have e : zl C S X (60, j, 0) k = S j k := by unfold zl; simp [zr_j hj]
    rw [e]; exact kk)
theorem rz_ast {j : Nat} {i x : Int32} (k : Nat) (hz : zr_sh Sh P) (hd : decode cc pc = .ok (.iastore, 1)) (hj : zt_ref 10 j = true) (h13 : zr_tag j = 20) (hk : k < zr_len j) (hi : i = nI k) (kk : zw G cc K bc bs (pc + 1) L st Sh P (zl C (us S j k x) X) Q) : zw G cc K bc bs pc L (.inl x :: .inl i :: .inr (some (60, j, 0)) :: st) Sh P (zl C S X) Q :=
  zw_iast (n := zr_len j) k hd (by rw [← h13]; exact (hz.2 j hj).1) hk hi (by rw [zl_ui _ _ _ _ _ _ (fun z => absurd z.1 (by first | exact zr_j hj | decide))]; exact kk)
theorem rz_zald {i : Int32} (k : Nat) (hz : zr_sh Sh P) (hd : decode cc pc = .ok (.baload, 1)) (hk : k < zr_len 13) (hi : i = nI k) (kk : zw G cc K bc bs (pc + 1) L (.inl (S 13 k) :: st) Sh P (zl C S X) Q) : zw G cc K bc bs pc L (.inl i :: .inr (some (60, 13, 0)) :: st) Sh P (zl C S X) Q :=
  zw_zald k hd (hz.2 13 rfl).1 hk hi (by
    have e : zl C S X (60, 13, 0) k = S 13 k := by unfold zl; simp
    rw [e]; exact kk)
theorem rz_zast {i x : Int32} (k : Nat) (hz : zr_sh Sh P) (hd : decode cc pc = .ok (.bastore, 1)) (hk : k < zr_len 13) (hi : i = nI k) (hx : narrow .boolean (.int x) = .int x) (kk : zw G cc K bc bs (pc + 1) L st Sh P (zl C (us S 13 k x) X) Q) : zw G cc K bc bs pc L (.inl x :: .inl i :: .inr (some (60, 13, 0)) :: st) Sh P (zl C S X) Q :=
  zw_zast k hd (hz.2 13 rfl).1 hk hi hx (by rw [zl_ui _ _ _ _ _ _ (fun z => absurd z.1 (by first | exact zr_j hj | decide))]; exact kk)
theorem rz_callS {idx n : Nat} {cc' : ByteArray} {K' : ZK} {As stk : List Zv} {post : Int32 → Prop} (hd : decode cc pc = .ok (.invokestatic idx, 3)) (hw : zt_cS K idx cc' K' n) (hC : sc G cc' K' Sh P I As post) (hstk : stk = As.reverse ++ st) (hn : As.length = n) (h8 : st.length ≤ 8)
    (kk : ∀ x, post x → zw G cc K bc bs (pc + 3) L (.inl x :: st) Sh P I Q) : zw G cc K bc bs pc L stk Sh P I Q := by
  refine zw_callS hd hw hC hstk hn h8 (Nat.le_refl _) (Nat.le_refl _) (fun v Sh' P' I' hq => ?_)
  obtain ⟨x, rfl, rfl, rfl, rfl, h⟩ := hq
  exact kk x h
theorem rz_callV {idx n : Nat} {cc' : ByteArray} {K' : ZK} {As stk : List Zv} {post : Int32 → ZT → ZX → Prop} (hz : zr_sh Sh P) (hd : decode cc pc = .ok (.invokevirtual idx, 3)) (hw : zt_cV K idx cc' K' n 10) (hC : rc G cc' K' Sh P C S X As post) (hstk : stk = As.reverse ++ .inr (some (60, 99, 0)) :: st) (hn : As.length = n) (h8 : st.length ≤ 8)
    (kk : ∀ x S' X', post x S' X' → zw G cc K bc bs (pc + 3) L (.inl x :: st) Sh P (zl C S' X') Q) : zw G cc K bc bs pc L stk Sh P (zl C S X) Q := by
  refine zw_callV hd hw hC hz.1 hstk hn h8 (Nat.le_refl _) (Nat.le_refl _) (fun v Sh' P' I' hq => ?_)
  obtain ⟨x, S', X', rfl, rfl, rfl, rfl, h⟩ := hq
  exact kk x S' X' h
theorem rz_callP {idx n : Nat} {cc' : ByteArray} {K' : ZK} {As stk : List Zv} {post : Int32 → Prop} (hz : zr_sh Sh P) (hd : decode cc pc = .ok (.invokevirtual idx, 3)) (hw : zt_cV K idx cc' K' n 10) (hC : rc G cc' K' Sh P C S X As (fun x S' X' => (S' = S ∧ X' = X) ∧ post x)) (hstk : stk = As.reverse ++ .inr (some (60, 99, 0)) :: st) (hn : As.length = n) (h8 : st.length ≤ 8)
    (kk : ∀ x, post x → zw G cc K bc bs (pc + 3) L (.inl x :: st) Sh P (zl C S X) Q) : zw G cc K bc bs pc L stk Sh P (zl C S X) Q := by
  refine rz_callV hz hd hw hC hstk hn h8 (fun x S' X' h => ?_)
  rw [h.1.1, h.1.2]
  exact kk x h.2
theorem rz_callVv {idx n : Nat} {cc' : ByteArray} {K' : ZK} {As stk : List Zv} {post : ZT → ZX → Prop} (hz : zr_sh Sh P) (hd : decode cc pc = .ok (.invokevirtual idx, 3)) (hw : zt_cV K idx cc' K' n 10) (hC : rcv G cc' K' Sh P C S X As post) (hstk : stk = As.reverse ++ .inr (some (60, 99, 0)) :: st) (hn : As.length = n) (h8 : st.length ≤ 8)
    (kk : ∀ S' X', post S' X' → zw G cc K bc bs (pc + 3) L st Sh P (zl C S' X') Q) : zw G cc K bc bs pc L stk Sh P (zl C S X) Q := by
  refine zw_callV hd hw hC hz.1 hstk hn h8 (Nat.le_refl _) (Nat.le_refl _) (fun v Sh' P' I' hq => ?_)
  obtain ⟨S', X', rfl, rfl, rfl, rfl, h⟩ := hq
  exact kk S' X' h
theorem rz_callX {idx n : Nat} {cc' : ByteArray} {K' : ZK} {As stk : List Zv} {post : Int32 → ZX → Prop} (hz : zr_sh Sh P) (hd : decode cc pc = .ok (.invokevirtual idx, 3)) (hw : zt_cV K idx cc' K' n 10) (hC : rc G cc' K' Sh P C S X As (fun x S' X' => S' = S ∧ post x X')) (hstk : stk = As.reverse ++ .inr (some (60, 99, 0)) :: st) (hn : As.length = n) (h8 : st.length ≤ 8)
    (kk : ∀ x X', post x X' → zw G cc K bc bs (pc + 3) L (.inl x :: st) Sh P (zl C S X') Q) : zw G cc K bc bs pc L stk Sh P (zl C S X) Q := by
  refine rz_callV hz hd hw hC hstk hn h8 (fun x S' X' h => ?_)
  rw [h.1]
  exact kk x X' h.2
theorem rz_callT {idx n : Nat} {cc' : ByteArray} {K' : ZK} {As stk : List Zv} {T' : ZT} (hz : zr_sh Sh P) (hd : decode cc pc = .ok (.invokevirtual idx, 3)) (hw : zt_cV K idx cc' K' n 10) (hC : rcv G cc' K' Sh P C S X As (fun S' X' => S' = T' ∧ X' = X)) (hstk : stk = As.reverse ++ .inr (some (60, 99, 0)) :: st) (hn : As.length = n) (h8 : st.length ≤ 8)
    (kk : zw G cc K bc bs (pc + 3) L st Sh P (zl C T' X) Q) : zw G cc K bc bs pc L stk Sh P (zl C S X) Q := by
  refine rz_callVv hz hd hw hC hstk hn h8 (fun S' X' h => ?_)
  rw [h.1, h.2]
  exact kk
theorem rz_iret {x : Int32} {post : Int32 → ZT → ZX → Prop} (hd : decode cc pc = .ok (.ireturn, 1)) (hr : K.2.2.1 = some .int) (h : post x S X) : zw G cc K bc bs pc L [.inl x] Sh P (zl C S X) (rq C Sh P post) := zw_iret hd hr ⟨x, S, X, rfl, rfl, rfl, rfl, h⟩
theorem rz_zret {x : Int32} {post : Int32 → ZT → ZX → Prop} (hd : decode cc pc = .ok (.ireturn, 1)) (hr : K.2.2.1 = some .boolean) (hn : narrow .boolean (.int x) = .int x) (h : post x S X) : zw G cc K bc bs pc L [.inl x] Sh P (zl C S X) (rq C Sh P post) := zw_zret hd hr hn ⟨x, S, X, rfl, rfl, rfl, rfl, h⟩
theorem rz_vret {post : ZT → ZX → Prop} (hd : decode cc pc = .ok (.return_, 1)) (hr : K.2.2.1 = none) (h : post S X) : zw G cc K bc bs pc L [] Sh P (zl C S X) (rqv C Sh P post) := zw_vret hd hr ⟨S, X, rfl, rfl, rfl, rfl, h⟩
theorem sz_iret {x : Int32} {post : Int32 → Prop} (hd : decode cc pc = .ok (.ireturn, 1)) (hr : K.2.2.1 = some .int) (h : post x) : zw G cc K bc bs pc L [.inl x] Sh P I (sq Sh P I post) := zw_iret hd hr ⟨x, rfl, rfl, rfl, rfl, h⟩
theorem sz_zret {x : Int32} {post : Int32 → Prop} (hd : decode cc pc = .ok (.ireturn, 1)) (hr : K.2.2.1 = some .boolean) (hn : narrow .boolean (.int x) = .int x) (h : post x) : zw G cc K bc bs pc L [.inl x] Sh P I (sq Sh P I post) := zw_zret hd hr hn ⟨x, rfl, rfl, rfl, rfl, h⟩
end RZ
