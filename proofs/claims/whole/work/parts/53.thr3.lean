/-! THROWS: a call that throws, caught here -/
theorem decl_of {args : Array Value} {s : State} {y : MethodName} {bytes : ByteArray} {maxL : Nat} {ret : Option FieldType} (hinst : (Cond.instanceMethod y).before args s = true) (hcode : (Cond.code y bytes maxL ret).before args s = true) : (Cond.declares y).before args s = true := by
  obtain ⟨mk, methM, hn, hm, hst, -⟩ := Cond.instanceMethod_spec hinst
  obtain ⟨meth', cM, hm', -, -, -, -, -, -, hsig⟩ := Cond.code_spec hn hcode
  cases hm.symm.trans hm'
  simp [Cond.before, Cond.holds, Cond.value, hn, hm, hst, hsig]
theorem face_of {args : Array Value} {s : State} {C : String} {y : MethodName} (h : (Cond.selects C y y).before args s = true) : Jvm.Free.NotFace s y := by
  intro r0 h0
  obtain ⟨c2, r2, m2, -, -, q3, -, kP, hkP, hkPi⟩ := Cond.selects_spec h
  cases h0.symm.trans q3
  exact ⟨kP, hkP, hkPi⟩
theorem ePreT_blind {G : EG} {As : List Value} {ws : va_W} {sz : Nat} : FrameBlind (ePreT G As ws sz) := fun a U g mk q =>
  ⟨ePre_blind a U g mk q.1, EZ.moved (s := U) (U := U.calling g mk a) (State.WarmedH.refl U) (fun _ _ h _ => h) q.2⟩
/-- what holds besides, all along the walk of a method that calls throwers -/
def EH (X : EX) : Prop := X.H0 = X.s.heap ∧ EZ X.s ∧ ∀ q, X.A q → ∀ cell : Cell, X.s.heap[q]? = some cell → cell.vm.isStatics = false
theorem EH.at {X : EX} (h : EH X) {H : Heap} {locs : List Loc} (hS : va_S X.A X.H0 H locs) {U : State} (hU : U.heap = H) (hW : X.s.WarmedH U.vm) : EZ U := by
  refine EZ.moved hW (fun q cell hq hv => ?_) h.2.1
  have hn : ¬ X.A q := fun z => by rw [h.2.2 q z cell hq] at hv; cases hv
  rw [hU, hS.2.1 q (by rw [h.1]; exact (Array.getElem?_eq_some_iff.mp hq).1) hn, h.1]
  exact hq
section THR3
variable {X : EX} {G : EG} {own : String} {cc : ByteArray} {nL cells slots pc : Nat} {lv : List (Nat × Value)} {st : List Value} {ws : va_W} {cls : String}
set_option maxHeartbeats 1000000 in
theorem e_callT (C : EC X G own cc nL) (Z : EH X) {wc wr : va_W} {y : MethodName} {rm : Room} (As : List Value) {bytes : ByteArray} {maxL index b ci : Nat} (q0 : Nat) {ret : Option FieldType} {Tt : u_T} {N : Nat} {fs : List Value}
    (hM : Cth X.l G y bytes maxL ret rm (.ref b :: As) wc cls) (hc : Cond.code y bytes maxL ret ∈ GT) (hi : Cond.initialized y.cls ∈ GT) (hl : Cond.methodLink own index y ∈ GT) (hin : Cond.instanceMethod y ∈ GT) (hse : Cond.selects y.cls y y ∈ GT) (hd : decode cc pc = .ok (.invokevirtual index, 3)) (hy : eY y As.length = true) (hR : eR rm X.R maxL = true) (hk : KL[ci]? = some (y.cls, Tt, N)) (he : wc[q0]? = some (b, ob ci fs)) (hs : Nat.ble (st.map fun v : Value => v.category).sum 8 = true) (hf : cells + rm.cells ≤ X.R.cells ∧ slots + rm.slots ≤ X.R.slots)
    (pre : List ExceptionTableEntry) (x : ExceptionTableEntry) (rest : List ExceptionTableEntry) (hsp : X.c.exceptionTable.toList = pre ++ x :: rest) (hcov : covers x pc = true) (hct : x.catchType ≠ 0) (hcl : Cond.classLink own x.catchType cls ∈ GT) (hca : Cond.castable cls cls ∈ tW)
    (hpass : X.l.admits X.e → ∀ thrown, X.s.vm.findClass cls = some thrown → ∀ z ∈ pre, RowPassed X.e.platform X.s X.m.cls pc thrown z)
    (kk : ∀ q : Nat, EW X G nL (cells + rm.cells) (slots + rm.slots) x.handlerPc lv [.ref q] (wc ++ wr)) : EW X G nL cells slots pc lv (As.reverse ++ .ref b :: st) (wc ++ wr) := by
  intro H locs ls hP hD hS hlv T hT XS
  have hPc : va_P G.1 KL wc H := fun k q h => hP k q (by rw [List.getElem?_append_left (List.getElem?_eq_some_iff.mp h).1]; exact h)
  have hDc : va_D X.A wc := ⟨fun i j p q hi hj h => hD.1 i j p q (by rw [List.getElem?_append_left (List.getElem?_eq_some_iff.mp hi).1]; exact hi) (by rw [List.getElem?_append_left (List.getElem?_eq_some_iff.mp hj).1]; exact hj) h, fun k q h => hD.2 k q (by rw [List.getElem?_append_left (List.getElem?_eq_some_iff.mp h).1]; exact h)⟩
  have hF : ∀ q, va_A wc H.size q → X.A q := by
    intro q h
    rcases h with ⟨k, e, h⟩ | h
    · exact hDc.2 k (q, e) h
    · exact C.2.2.2.2.2.2 q (Nat.le_trans hS.1 h)
  have hB : Jvm.Free.BackT X.l X.R X.p X.e X.below X.s X.args y 3 8
      (fun A a => A.cells + rm.cells ≤ X.R.cells ∧ A.slots + rm.slots ≤ X.R.slots ∧ X.s.WarmedH A.U.vm ∧ ePreT G (.ref b :: As) wc H.size a A.U)
      (fun A a v Bp => ∃ (g : JFrame) (mk : MethodId) (t : State) (L : List Loc), Bp.U.heap = t.heap ∧ Bp.U.vm = t.vm ∧ ePostT G cls wc (va_A wc H.size) a (A.U.calling g mk a) (.threw v) t ∧ Bp.locs = A.locs ++ L ∧ (∀ q ∈ L, va_A wc H.size q.base) ∧ Bp.cells = A.cells + rm.cells ∧ Bp.slots = A.slots + rm.slots) := by
    refine Jvm.Free.BackT.of_free (bytes := bytes) (maxL := maxL) (ret := ret) (E := fun a st o t L k n => k = rm.cells ∧ n = rm.slots ∧ ∀ q ∈ L, va_A wc H.size q.base) (hM H.size) (eR.of hR).1 (eR.of hR).2 ?_ ?_ (fun _ _ _ _ _ _ _ _ _ => trivial) ?_ ?_
    · intro m meth c A a XA hp
      have hw : ∀ w ∈ Cond.code y bytes maxL ret :: GT, w.before a A.U = true := fun w hw => e_words C.2.2.2.2.1 hc w hw a A.U hp.2.2.1
      exact ⟨atoms_intro hw, hw _ List.mem_cons_self, hw _ (List.mem_cons_of_mem _ hi), hp.1, hp.2.1⟩
    · intro m meth c A a g mk XA hp
      exact ePreT_blind a A.U g mk hp.2.2.2
    · intro a first o t hq
      obtain ⟨hq, L, hL, hfr⟩ := hq
      exact ⟨L, _, _, hL, rfl, rfl, hfr⟩
    · intro m meth c A a g mk v t L k n XA hp hq hL hE
      exact ⟨g, mk, t, L, rfl, rfl, hq.1, rfl, hE.2.2, by rw [hE.1], by rw [hE.2.1]⟩
  obtain ⟨cellB, hcB, hoB, hclB⟩ := va_recv C.2.2.2.2.2.1.1 hPc hk he
  obtain ⟨v, vm₁, ⟨U', l2, c2, s2⟩, hW1, X', ⟨g, mk, t, L, e1, e2, ⟨⟨x0, ce, ho, hce, hvm, hfc, hsz, hP1, hK1, hD1⟩, hz, hk1⟩, eL, hL, ec, es⟩, hsteps⟩ :=
    XS.virtualThrows C.1 (C := y.cls) C.2.2.2.1 (C.2.2.2.2.1 _ hl) (decl_of (C.2.2.2.2.1 _ hin) (C.2.2.2.2.1 _ hc)) (face_of (C.2.2.2.2.1 _ hse)) (C.2.2.2.2.1 _ hse) (C.2.2.2.2.1 _ hin) (eY.of hy).1 hB hclB ⟨cellB, by rw [hT]; exact hcB, rfl, hoB⟩ (g := F0 X.m pc ls (As.reverse ++ .ref b :: st)) rfl (by rw [C.2.2.1]; exact hlv.1) (Steps.refl _) (argsL := As) (rest := st) (fun sig h => (eY.of hy).2 sig h) rfl (lv_room (Nat.le_of_ble_eq_true hs)) (by rw [C.2.1]; exact hd) (fun vm₁ hW₁ => ⟨hf.1, hf.2, hW₁, e_pre C hPc (hDc.weaken (fun _ _ _ _ => trivial)) (T.setVm vm₁) hT hW₁, Z.at hS hT hW₁⟩)
  cases ho
  dsimp only [Pt.U, Pt.locs, Pt.cells, Pt.slots] at X' e1 e2 eL ec es hsteps
  subst eL; subst ec; subst es
  have hz : H.size ≤ t.heap.size := by
    have h9 : ((T.setVm vm₁).calling g mk (Value.ref b :: As).toArray).heap = H := hT
    rw [← h9]; exact hz
  have hk1 : ∀ q : Nat, q < H.size → ¬ va_A wc H.size q → t.heap[q]? = H[q]? := by
    have h9 : ((T.setVm vm₁).calling g mk (Value.ref b :: As).toArray).heap = H := hT
    rw [h9] at hk1
    exact hk1
  have hWt : X.s.WarmedH t.vm := by rw [← e2]; exact X'.warmed
  have hfs : X.s.vm.findClass cls = some ce.cls := by rw [hWt.alike.findClass] at hfc; exact hfc
  obtain ⟨c3, c4, hc3, hc4, hasg⟩ := Cond.castable_spec (Z.2.1.1 _ hca)
  cases Option.some.inj (hc3.symm.trans hfs)
  cases Option.some.inj (hc4.symm.trans hfs)
  have hcat := X'.catches_of_link C.2.2.2.1 hct (C.2.2.2.2.1 _ hcl) hfs hasg
  obtain ⟨vm', X2, st2⟩ := X'.thenCaughtThrough v (g := F0 X.m pc ls st) rfl hsteps (cell := ce) (by rw [e1]; exact hce) (by rw [hvm]; rfl) hcat.2 pre x rest hsp (hpass XS.admits _ hfs) hcov hcat.1
  have toR : ∀ {k : Nat} {q : Nat × va_E}, wr[k]? = some q → (wc ++ wr)[wc.length + k]? = some q := fun {k q} h => by
    rw [List.getElem?_append_right (by omega), show wc.length + k - wc.length = k by omega]
    exact h
  have apart : ∀ {k : Nat} {q : Nat × va_E}, wr[k]? = some q → q.1 < H.size ∧ ¬ va_A wc H.size q.1 := by
    intro k q h
    have hlt := (hP _ q (toR h)).lt
    refine ⟨hlt, fun z => ?_⟩
    rcases z with ⟨k2, e, z⟩ | z
    · have hk2 := (List.getElem?_eq_some_iff.mp z).1
      have := hD.1 (wc.length + k) k2 q (q.1, e) (toR h) (by rw [List.getElem?_append_left hk2]; exact z) rfl
      omega
    · omega
  have hPn : va_P G.1 KL (wc ++ wr) U'.heap := by
    rw [e1]
    exact va_P.app hP1 (fun k q h => (hP _ q (toR h)).kept (hk1 q.1 (apart h).1 (apart h).2))
  have hSn : va_S X.A X.H0 U'.heap (locs ++ L) := ⟨Nat.le_trans hS.1 (by rw [e1]; exact hz), fun q h1 h2 => by rw [e1, hk1 q (Nat.lt_of_lt_of_le h1 hS.1) (fun z => h2 (hF q z))]; exact hS.2.1 q h1 h2, fun q hq => by
    rcases List.mem_append.mp hq with h | h
    · exact hS.2.2 q h
    · exact hF _ (hL q h)⟩
  obtain ⟨t2, a1, b1⟩ := kk v U'.heap (locs ++ L) ls hPn hD hSn hlv (U'.setVm vm') rfl X2
  exact ⟨t2, st2.trans a1, b1⟩
end THR3
