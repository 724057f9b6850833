/-! THE CLASS: contracts of its methods, by roles -/
theorem zb_fit (c : Prop) [Decidable c] : fits .boolean (.int (zb c)) = true := by
  by_cases k : c
  · rw [zb_t k]; rfl
  · rw [zb_f k]; rfl
def vc (G : ZG) (cc : ByteArray) (K : ZK) (Sh : ZS) (P : ZP) (I : ZI) (As : List Zv) (I2 : ZI) : Prop := zw_C G cc K 0 0 As Sh P I (fun v Sh' P' I' => v = none ∧ Sh' = Sh ∧ P' = P ∧ I' = I2)
def ic (G : ZG) (cc : ByteArray) (K : ZK) (Sh : ZS) (P : ZP) (I : ZI) (As : List Zv) (post : Int32 → ZI → Prop) : Prop := zw_C G cc K 0 0 As Sh P I (fun v Sh' P' I' => ∃ x, v = some (.inl x) ∧ Sh' = Sh ∧ P' = P ∧ post x I')
def pc' (G : ZG) (cc : ByteArray) (K : ZK) (Sh : ZS) (P : ZP) (I : ZI) (As : List Zv) (post : Option Zr → Prop) : Prop := zw_C G cc K 0 0 As Sh P I (fun v Sh' P' I' => ∃ o, v = some (.inr o) ∧ Sh' = Sh ∧ P' = P ∧ I' = I ∧ post o)
section CZ
variable {G : ZG} {cc : ByteArray} {K : ZK} {bc bs pc : Nat} {L : List (Option Zv)} {st : List Zv} {Sh : ZS} {P : ZP} {I : ZI} {Q : ZQ} {idx n c n' : Nat} {cc' : ByteArray} {K' : ZK} {As stk : List Zv} {r : Zr}
theorem cz_callP {post : Int32 → Prop} (hd : decode cc pc = .ok (.invokevirtual idx, 3)) (hw : zt_cV K idx cc' K' n c) (hC : sc G cc' K' Sh P I (.inr (some r) :: As) post) (hsh : Sh r = some (c, n')) (hstk : stk = As.reverse ++ .inr (some r) :: st) (hn : As.length = n) (h8 : st.length ≤ 8)
    (kk : ∀ x, post x → zw G cc K bc bs (pc + 3) L (.inl x :: st) Sh P I Q) : zw G cc K bc bs pc L stk Sh P I Q := by
  refine zw_callV hd hw hC hsh hstk hn h8 (Nat.le_refl _) (Nat.le_refl _) (fun v Sh' P' I' hq => ?_)
  obtain ⟨x, rfl, rfl, rfl, rfl, h⟩ := hq
  exact kk x h
theorem cz_callV {I2 : ZI} (hd : decode cc pc = .ok (.invokevirtual idx, 3)) (hw : zt_cV K idx cc' K' n c) (hC : vc G cc' K' Sh P I (.inr (some r) :: As) I2) (hsh : Sh r = some (c, n')) (hstk : stk = As.reverse ++ .inr (some r) :: st) (hn : As.length = n) (h8 : st.length ≤ 8)
    (kk : zw G cc K bc bs (pc + 3) L st Sh P I2 Q) : zw G cc K bc bs pc L stk Sh P I Q := by
  refine zw_callV hd hw hC hsh hstk hn h8 (Nat.le_refl _) (Nat.le_refl _) (fun v Sh' P' I' hq => ?_)
  obtain ⟨rfl, rfl, rfl, rfl⟩ := hq
  exact kk
theorem cz_callI {post : Int32 → ZI → Prop} (hd : decode cc pc = .ok (.invokevirtual idx, 3)) (hw : zt_cV K idx cc' K' n c) (hC : ic G cc' K' Sh P I (.inr (some r) :: As) post) (hsh : Sh r = some (c, n')) (hstk : stk = As.reverse ++ .inr (some r) :: st) (hn : As.length = n) (h8 : st.length ≤ 8)
    (kk : ∀ x I', post x I' → zw G cc K bc bs (pc + 3) L (.inl x :: st) Sh P I' Q) : zw G cc K bc bs pc L stk Sh P I Q := by
  refine zw_callV hd hw hC hsh hstk hn h8 (Nat.le_refl _) (Nat.le_refl _) (fun v Sh' P' I' hq => ?_)
  obtain ⟨x, rfl, rfl, rfl, h⟩ := hq
  exact kk x I' h
theorem cz_callR {post : Option Zr → Prop} (hd : decode cc pc = .ok (.invokevirtual idx, 3)) (hw : zt_cV K idx cc' K' n c) (hC : pc' G cc' K' Sh P I (.inr (some r) :: As) post) (hsh : Sh r = some (c, n')) (hstk : stk = As.reverse ++ .inr (some r) :: st) (hn : As.length = n) (h8 : st.length ≤ 8)
    (kk : ∀ o, post o → zw G cc K bc bs (pc + 3) L (.inr o :: st) Sh P I Q) : zw G cc K bc bs pc L stk Sh P I Q := by
  refine zw_callV hd hw hC hsh hstk hn h8 (Nat.le_refl _) (Nat.le_refl _) (fun v Sh' P' I' hq => ?_)
  obtain ⟨o, rfl, rfl, rfl, rfl, h⟩ := hq
  exact kk o h
theorem cz_callSv {I2 : ZI} (hd : decode cc pc = .ok (.invokestatic idx, 3)) (hw : zt_cS K idx cc' K' n) (hC : vc G cc' K' Sh P I As I2) (hstk : stk = As.reverse ++ st) (hn : As.length = n) (h8 : st.length ≤ 8)
    (kk : zw G cc K bc bs (pc + 3) L st Sh P I2 Q) : zw G cc K bc bs pc L stk Sh P I Q := by
  refine zw_callS hd hw hC hstk hn h8 (Nat.le_refl _) (Nat.le_refl _) (fun v Sh' P' I' hq => ?_)
  obtain ⟨rfl, rfl, rfl, rfl⟩ := hq
  exact kk
theorem vz_ret {I2 : ZI} (hd : decode cc pc = .ok (.return_, 1)) (hr : K.2.2.1 = none) (h : I = I2) : zw G cc K bc bs pc L [] Sh P I (fun v Sh' P' I' => v = none ∧ Sh' = Sh ∧ P' = P ∧ I' = I2) := zw_vret hd hr ⟨rfl, rfl, rfl, h⟩
theorem pz_ret {o : Option Zr} {C : String} {post : Option Zr → Prop} (hd : decode cc pc = .ok (.areturn, 1)) (hr : K.2.2.1 = some (.object C)) (h : post o) : zw G cc K bc bs pc L [.inr o] Sh P I (fun v Sh' P' I' => ∃ o, v = some (.inr o) ∧ Sh' = Sh ∧ P' = P ∧ I' = I ∧ post o) := zw_aret hd hr ⟨o, rfl, rfl, rfl, rfl, h⟩
theorem iz_iret {x : Int32} {Sh0 : ZS} {P0 : ZP} {post : Int32 → ZI → Prop} (hd : decode cc pc = .ok (.ireturn, 1)) (hr : K.2.2.1 = some .int) (h1 : Sh = Sh0) (h2 : P = P0) (h : post x I) : zw G cc K bc bs pc L [.inl x] Sh P I (fun v Sh' P' I' => ∃ x, v = some (.inl x) ∧ Sh' = Sh0 ∧ P' = P0 ∧ post x I') := zw_iret hd hr ⟨x, rfl, h1, h2, h⟩
theorem iz_zret {x : Int32} {Sh0 : ZS} {P0 : ZP} {post : Int32 → ZI → Prop} (hd : decode cc pc = .ok (.ireturn, 1)) (hr : K.2.2.1 = some .boolean) (hn : narrow .boolean (.int x) = .int x) (h1 : Sh = Sh0) (h2 : P = P0) (h : post x I) : zw G cc K bc bs pc L [.inl x] Sh P I (fun v Sh' P' I' => ∃ x, v = some (.inl x) ∧ Sh' = Sh0 ∧ P' = P0 ∧ post x I') := zw_zret hd hr hn ⟨x, rfl, h1, h2, h⟩
end CZ
def pl3 (I : ZI) (r : Zr) (a b c : Int32) : ZI := ui (ui (ui I r 0 a) r 1 b) r 2 c
theorem bel_zin {k : Int32} {m : Nat} (hm : m < 2 ^ 31) : (¬ k < 0 ∧ k < nI m) ↔ zin k m := by
  rw [Int32.lt_iff_toInt_lt, Int32.lt_iff_toInt_lt, nI_toInt hm, i0]
  unfold zin
  omega
/-- what a Segment's roles are: itself, its words (n of them), its flags -/
def sgR (Sh : ZS) (P : ZP) (r rw rf : Zr) (n : Nat) : Prop := Sh r = some (8, 9) ∧ P r 2 = some rw ∧ Sh rw = some (20, n) ∧ P r 3 = some rf ∧ Sh rf = some (20, 4) ∧ n ≤ 256
