/-! THE LAW'S WRAPPERS: the ground -/
def ConZ (l : Launch) (G : EG) (y : MethodName) (cc : ByteArray) (maxL : Nat) (ret : Option FieldType) (hh : List (Nat × Nat × Nat × Nat)) (rm : Room) (As : List Value) (ws : va_W) (B : Option Value → va_W → Prop) : Prop :=
  ∀ sz : Nat, Met l y (Cond.codeWith y cc maxL ret hh :: GT) rm (ePreT G As ws sz) (ePost G B (va_A ws sz)) rm.cells rm.slots (va_A ws sz)
theorem ConZ.of {l : Launch} {G : EG} {y : MethodName} {rm : Room} {As : List Value} {ws : va_W} {B : Option Value → va_W → Prop} {cc : ByteArray} {maxL : Nat} {ret : Option FieldType} {hh : List (Nat × Nat × Nat × Nat)} (hy : plainName y.cls = true) (hlen : Nat.ble (lg_sl As).length maxL = true)
    (body : ∀ X : EX, EC X G y.cls cc maxL → ER X G rm.cells rm.slots B ret → EH X → X.c.exceptionTable.toList.map (fun h => (h.startPc, h.endPc, h.handlerPc, h.catchType)) = hh → X.R = rm → X.l = l → EW X G maxL 0 0 0 (lv_args 0 As) [] ws) : ConZ l G y cc maxL ret hh rm As ws B := by
  intro sz
  refine va_MetW (cc := cc) (maxL := maxL) (ret := ret) (hh := hh) hy rfl ?_
  intro p e s m args below meth c s₁ Bd hml hv
  obtain ⟨⟨rfl, hsz, hP, hK, hD0⟩, hZ⟩ := hv
  subst hsz
  have hl := lv_entry As (n := maxL) (Nat.le_of_ble_eq_true hlen)
  rw [lg_entry_eq]
  have hts := atoms_spec (ws := Cond.codeWith y cc maxL ret hh :: GT) Bd.pre
  have hA : ∀ q, va_A ws s.heap.size q → ∀ cell : Cell, s.heap[q]? = some cell → cell.vm.isStatics = false := by
    intro q hq cell hc
    rcases hq with ⟨k, e0, h⟩ | h
    · exact va_at_vm (hP k _ h) hc
    · have := (Array.getElem?_eq_some_iff.mp hc).1
      omega
  obtain ⟨m', meth', c', n1, n2, n3, -, -, n4, -⟩ := Cond.codeWith_spec (hts _ List.mem_cons_self)
  cases Bd.named.symm.trans n1
  cases Bd.method.symm.trans n2
  cases (Stand.of_body Bd).code.symm.trans n3
  exact body (p, l, e, rm, s, m, As.toArray, below, meth, c, s.heap, va_A ws s.heap.size, MQ below (ePost G B (va_A ws s.heap.size)) As.toArray s rm.cells rm.slots (va_A ws s.heap.size))
    ⟨Bd.exec, Bd.bytes, hml, findClass_of_methodNamed Bd.named, fun w h => hts w (List.mem_cons_of_mem _ h), hK, fun q h => Or.inr h⟩ ⟨rfl, Bd.returns, Bd.notSynchronized, rfl⟩ ⟨rfl, hZ, hA⟩ n4 rfl rfl s.heap [] _ hP (hD0.self) va_S.rf hl
section WRP
variable {X : EX} {G : EG} {own : String} {cc : ByteArray} {nL cells slots pc : Nat} {lv : List (Nat × Value)} {st : List Value} {ws : va_W} {cls : String}
theorem e_cW (C : EC X G own cc nL) {Rm : Room} (hX : X.R = Rm) {wc W' wr : va_W} {r0 : Int32} {y : MethodName} {fr lo : Nat} {As : List Value} {bytes : ByteArray} {maxL index b ci : Nat} (q0 : Nat) {ret : Option FieldType} {T : u_T} {N : Nat} {fs st0 : List Value}
    (hM : Con X.l G y bytes maxL ret (rz fr lo) (.ref b :: As) wc (DI r0 W')) (hc : Cond.code y bytes maxL ret ∈ GT) (hi : Cond.initialized y.cls ∈ GT) (hl : Cond.methodLink own index y ∈ GT) (hin : Cond.instanceMethod y ∈ GT) (hse : Cond.selects y.cls y y ∈ GT) (hd : decode cc pc = .ok (.invokevirtual index, 3)) (hst : st0 = As.reverse ++ .ref b :: st) (hy : eY y As.length = true) (hR : eR (rz fr lo) Rm maxL = true) (he : wc[q0]? = some (b, ob ci fs)) (hk : KL[ci]? = some (y.cls, T, N)) (hs : Nat.ble (st.map fun v : Value => v.category).sum 8 = true) (hf : cells ≤ X.R.cells ∧ slots ≤ X.R.slots)
    (kk : EW X G nL cells slots (pc + 3) lv (.int r0 :: st) (W' ++ wr)) : EW X G nL cells slots pc lv st0 (wc ++ wr) := by
  subst hst
  exact e_callV (cells := cells) (slots := slots) (lv := lv) C As q0 hM hc hi hl hin hse hd hy (by rw [hX]; exact hR) hk he hs hf (fun r u hB => by obtain ⟨rfl, rfl⟩ := hB; exact kk)
theorem e_cT (C : EC X G own cc nL) (Z : EH X) {Rm : Room} (hX : X.R = Rm) {wc wr : va_W} {y : MethodName} {fr ce sl lo : Nat} {As : List Value} {bytes : ByteArray} {maxL index b ci : Nat} (q0 : Nat) {ret : Option FieldType} {Tt : u_T} {N : Nat} {fs st0 : List Value}
    (hM : Cth X.l G y bytes maxL ret (rc fr ce sl lo) (.ref b :: As) wc cls) (hc : Cond.code y bytes maxL ret ∈ GT) (hi : Cond.initialized y.cls ∈ GT) (hl : Cond.methodLink own index y ∈ GT) (hin : Cond.instanceMethod y ∈ GT) (hse : Cond.selects y.cls y y ∈ GT) (hd : decode cc pc = .ok (.invokevirtual index, 3)) (hst : st0 = As.reverse ++ .ref b :: st) (hy : eY y As.length = true) (hR : eR (rc fr ce sl lo) Rm maxL = true) (he : wc[q0]? = some (b, ob ci fs)) (hk : KL[ci]? = some (y.cls, Tt, N)) (hs : Nat.ble (st.map fun v : Value => v.category).sum 8 = true) (h1 : cells + ce ≤ Rm.cells) (h2 : slots + sl ≤ Rm.slots)
    {s1 e1 hp ct : Nat} {pr rs : List (Nat × Nat × Nat × Nat)} (hT : X.c.exceptionTable.toList.map (fun h => (h.startPc, h.endPc, h.handlerPc, h.catchType)) = pr ++ (s1, e1, hp, ct) :: rs) (hcv : (Nat.ble s1 pc && Nat.ble (pc + 1) e1) = true) (hct : ct ≠ 0) (hcl : Cond.classLink own ct cls ∈ GT) (hca : Cond.castable cls cls ∈ tW)
    (hpr : ∀ z ∈ pr, z.2.2.2 ≠ 0 ∧ ∃ nm, Cond.classLink own z.2.2.2 nm ∈ GT ∧ va_Nw (.not (.castable cls nm)) X.s)
    (kk : ∀ q : Nat, EW X G nL (cells + ce) (slots + sl) hp lv [.ref q] (wc ++ wr)) : EW X G nL cells slots pc lv st0 (wc ++ wr) := by
  subst hst
  obtain ⟨pre, r1, e2, e3, e4⟩ := List.map_eq_append_iff.mp hT
  obtain ⟨x, rest, e5, e6, e7⟩ := List.map_eq_cons_iff.mp e4
  subst e5
  cases e6
  rw [Bool.and_eq_true] at hcv
  have c1 := Nat.le_of_ble_eq_true hcv.1
  have c2 := Nat.le_of_ble_eq_true hcv.2
  refine e_callT C Z As q0 hM hc hi hl hin hse hd hy (by rw [hX]; exact hR) hk he hs ⟨by rw [hX]; exact h1, by rw [hX]; exact h2⟩ pre x rest e2 (by unfold covers; simp only [Bool.and_eq_true, decide_eq_true_eq]; omega) hct hcl hca (fun ha thrown ht z hz => ?_) kk
  obtain ⟨n0, nm, n1, n2⟩ := hpr (z.startPc, z.endPc, z.handlerPc, z.catchType) (by rw [← e3]; exact List.mem_map.mpr ⟨z, hz, rfl⟩)
  exact RowPassed.of_words (args := #[]) (by rw [ha.platform]) C.2.2.2.1 n0 (word_at (State.WarmedH.refl X.s) (gt_good _ n1) (C.2.2.2.2.1 _ n1)) ht n2
end WRP
