/-! THROWS: contracts -/
def MQT (below : List Frame) (Qc : Array Value → State → Outcome → State → Prop) (a : Array Value) (s : State) (mc ms : Nat) (free : Addr → Prop) : State → Prop := fun t =>
  ∃ o, t.status = .running ∧ Ended t below o ∧ Qc a s o t ∧ ∃ L, Jvm.Free.FrameEndT s o t L mc ms ∧ ∀ q ∈ L, free q.base
def MetT (l : Launch) (y : MethodName) (ws : List Cond) (rm : Room) (Pc : Array Value → State → Prop) (Qc : Array Value → State → Outcome → State → Prop) (mc ms : Nat) (free : Addr → Prop) : Prop :=
  MetFree l y (headSpec ws rm) Pc (fun _ _ _ _ _ => True) (fun a st o t => Qc a st o t ∧ ∃ L, Jvm.Free.FrameEndT st o t L mc ms ∧ ∀ q ∈ L, free q.base)
/-- thrown: an object of the class cls; the world as it was -/
def ePostT (G : EG) (cls : String) (ws : va_W) (A : Nat → Prop) : Array Value → State → Outcome → State → Prop := fun _ st oc t =>
  (∃ (x : Nat) (ce : Cell), oc = .threw x ∧ t.heap[x]? = some ce ∧ ce.vm = .none ∧ t.vm.findClass cls = some ce.cls ∧ st.heap.size ≤ x ∧ va_P G.1 KL ws t.heap ∧ EK G t ∧ va_D A ws) ∧ va_F A st t
def ePreT (G : EG) (As : List Value) (ws : va_W) (sz : Nat) : Array Value → State → Prop := fun a U => ePre G As ws sz a U ∧ EZ U
def Cth (l : Launch) (G : EG) (y : MethodName) (cc : ByteArray) (maxL : Nat) (ret : Option FieldType) (rm : Room) (As : List Value) (ws : va_W) (cls : String) : Prop :=
  ∀ sz : Nat, MetT l y (Cond.code y cc maxL ret :: GT) rm (ePreT G As ws sz) (ePostT G cls ws (va_A ws sz)) rm.cells rm.slots (va_A ws sz)
/-- the aim of a walk is a throw -/
def ET (X : EX) (G : EG) (mc ms : Nat) (cls : String) (ws : va_W) : Prop :=
  X.H0 = X.s.heap ∧ X.meth.locks = false ∧ X.c.exceptionTable.isEmpty = true ∧ EZ X.s ∧ (∀ q, X.A q → ∀ cell : Cell, X.s.heap[q]? = some cell → cell.vm.isStatics = false) ∧ X.Q = MQT X.below (ePostT G cls ws X.A) X.args X.s mc ms X.A
theorem va_at_vm {D : va_G} {cl : List vw_C} {q : Nat × va_E} {H : Heap} (h : va_at D cl q H) {cell : Cell} (hc : H[q.1]? = some cell) : cell.vm.isStatics = false := by
  obtain ⟨a, e⟩ := q
  cases e with
  | inl x =>
    have h1 : H[a]? = some (vp_cell x.1 x.2) := h
    have h2 : cell = vp_cell x.1 x.2 := Option.some.inj (hc.symm.trans h1)
    rw [h2]
    unfold vp_cell
    split <;> rfl
  | inr o =>
    obtain ⟨r, -, h1⟩ := h
    obtain ⟨c0, h2, h3⟩ := h1
    have h4 : cell = c0 := Option.some.inj (hc.symm.trans h2)
    rw [h4]
    rw [h3.2.1]
    rfl
section THR
variable {X : EX} {G : EG} {cc : ByteArray} {nL cells slots pc mc ms : Nat} {lv : List (Nat × Value)} {ws : va_W} {cls : String}
set_option maxHeartbeats 1000000 in
theorem e_throw (C : EC X G "CacheRules" cc nL) (E : ET X G mc ms cls ws) (hfl : X.l.flags = pinnedFlags ++ [noTraceFlag]) {idx si ic : Nat} {tx : String}
    (hcl : Cond.classLink "CacheRules" idx cls ∈ GT) (hin : Cond.instantiable cls 6 ∈ GT) (hini : Cond.initialized cls ∈ GT) (hat : ∀ w ∈ tA ic cls, w ∈ GT ∨ w ∈ tW ∨ w ∈ tRw) (hfit : Jvm.Bundle.fit cls = true) (hst : (si, tx) ∈ tS)
    (d0 : decode cc pc = .ok (.new idx, 3)) (d1 : decode cc (pc + 3) = .ok (.dup, 1)) (d2 : decode cc (pc + 4) = .ok (.ldc si, 2)) (d3 : decode cc (pc + 6) = .ok (.invokespecial ic, 3)) (d4 : decode cc (pc + 9) = .ok (.athrow, 1))
    (h1 : cells + 1 ≤ mc) (h2 : slots + 6 ≤ ms) (hR : (Nat.ble mc X.R.cells && Nat.ble ms X.R.slots && Nat.ble 6 X.R.frames && Nat.ble 90 X.R.locals) = true) : EW X G nL cells slots pc lv [] ws := by
  intro H locs ls hP hD hS hl T hT XS
  obtain ⟨eH, hlk, hxt, hZ, hA, hQ⟩ := E
  simp only [Bool.and_eq_true] at hR
  obtain ⟨⟨⟨r1, r2⟩, r3⟩, r4⟩ := hR
  have r1 := Nat.le_of_ble_eq_true r1
  have r2 := Nat.le_of_ble_eq_true r2
  have r3 := Nat.le_of_ble_eq_true r3
  have r4 := Nat.le_of_ble_eq_true r4
  have htr : X.e.platform.stackTraces = false := Launch.traces_off hfl XS.admits
  have XB := rebase XS (k := 1) (n := 6) (by omega) (by omega)
  have hW0 : X.s.WarmedH ({ X.s with heap := T.heap, slotsUsed := T.slotsUsed } : State).vm := State.WarmedH.refl X.s
  have hst0 : ∀ (q : Nat) (cell : Cell), X.s.heap[q]? = some cell → cell.vm.isStatics = true → T.heap[q]? = some cell := by
    intro q cell hq hv
    have hn : ¬ X.A q := fun h => by rw [hA q h cell hq] at hv; cases hv
    rw [hT, hS.2.1 q (by rw [eH]; exact (Array.getElem?_eq_some_iff.mp hq).1) hn, eH]
    exact hq
  have hZ' : EZ ({ X.s with heap := T.heap, slotsUsed := T.slotsUsed } : State) := EZ.moved hW0 hst0 hZ
  have hw : ∀ w ∈ GT, ∀ a', w.before a' ({ X.s with heap := T.heap, slotsUsed := T.slotsUsed } : State) = true := fun w h a' => word_at hW0 (gt_good w h) (C.2.2.2.2.1 w h)
  have hats : ∀ w ∈ tA ic cls, w.before X.args ({ X.s with heap := T.heap, slotsUsed := T.slotsUsed } : State) = true := by
    intro w hw0
    rcases hat w hw0 with h | h | h
    · exact hw w h _
    · exact va_tabs (tW_tab w h) rfl (hZ'.1 w h)
    · simp only [tRw, List.mem_append, List.mem_map] at h
      rcases h with ⟨x, hx, rfl⟩ | ⟨x, hx, rfl⟩
      · exact st_move (Vm.Alike.refl _) (fun _ _ h _ => h) (hZ'.2.1 x hx).1
      · exact ls_move (Vm.Alike.refl _) (fun _ _ h _ => h) (hZ'.2.1 x hx).2
  obtain ⟨qs, hqs⟩ := hZ'.2.2.1 (si, tx) hst
  have hown : ({ X.s with heap := T.heap, slotsUsed := T.slotsUsed } : State).vm.findClass "CacheRules" = some X.m.cls := C.2.2.2.1
  have hx0 : X.c.exceptionTable.toList = [] := by
    have := hxt
    rw [Array.isEmpty_iff] at this
    rw [this]
  have key : W X.p X.l X.e { X.R with cells := 1, slots := 6 } ({ X.s with heap := T.heap, slotsUsed := T.slotsUsed } : State) X.m X.args X.below X.meth X.c T.heap [] 0 0 X.Q (F0 X.m pc ls []) := by
    refine W.newc C.1 C.2.1 hown (hw _ hcl _) (hw _ hin _) (hw _ hini _) rfl d0 (Nat.le_refl _) (Nat.le_refl _) (fun cC kC e1 e2 e3 e4 => ?_)
    refine W.eq (g2 := F0 X.m (pc + 3) ls [.ref T.heap.size]) rfl ?_
    refine lv_dup C.1 C.2.1 d1 rfl ?_
    refine va_ldcS C.1 C.2.1 hown hqs d2 ?_
    intro T2 hT2 X2
    obtain ⟨U, st1, hrun, hend, hWU, hsame, ce, hce, ho⟩ := X2.ctorThrowS C.1 htr hown hfit (names := tNames) (by decide) hats (fun x hx => by cases hx) (a := T.heap.size) e1 e2 (by rw [hT2, Array.getElem?_push, if_pos rfl]) (Nat.le_refl _) (msg := .ref qs) rfl (g := F0 X.m (pc + 6) ls [.ref qs, .ref T.heap.size, .ref T.heap.size]) rfl (by rw [C.2.2.1]; exact hl.1) rfl rfl (rest := []) rfl (by rw [C.2.1]; exact d3) (by rw [C.2.1]; exact d4) (fun x hx => by rw [hx0] at hx; cases hx) (by show 2 + 3 < X.R.frames; omega) (Nat.le_trans (Nat.le_of_ble_eq_true rfl) r4) hlk
    refine ⟨U, st1, ?_⟩
    have hold : ∀ (q : Nat) (cell : Cell), T.heap[q]? = some cell → U.heap[q]? = some cell := fun q cell h => hsame.old_cell (s := ({ X.s with heap := T.heap, slotsUsed := T.slotsUsed } : State)) h
    have hold2 : ∀ q : Nat, q < T.heap.size → U.heap[q]? = T.heap[q]? := fun q h => by
      rw [Array.getElem?_eq_getElem h]
      exact hold q _ (Array.getElem?_eq_getElem h)
    have hzz : T.heap.size ≤ U.heap.size := hsame.2.1
    have hEK : EK G U := EK.moved (u := X.s) hWU.alike C.2.2.2.2.2.1
    have hPU : va_P G.1 KL ws U.heap := fun k q h => by
      have h0 := hP k q h
      rw [← hT] at h0
      obtain ⟨a, e⟩ := q
      cases e with
      | inl x => exact hold a _ h0
      | inr o =>
        obtain ⟨r, hr, c0, hc0, hrest⟩ := h0
        exact ⟨r, hr, c0, hold a _ hc0, hrest⟩
    rw [hQ]
    refine ⟨.threw T.heap.size, hrun, hend, ⟨⟨T.heap.size, ce, rfl, hce, ho.vm, ?_, ?_, hPU, hEK, hD⟩, ?_, ?_⟩, locs, ⟨⟨_, rfl⟩, hWU, ?_⟩, hS.2.2⟩
    · rw [hWU.alike.findClass]; exact ho.cls
    · rw [hT, ← eH]; exact hS.1
    · exact Nat.le_trans (by rw [hT, ← eH]; exact hS.1) hzz
    · intro q hq hn
      have : q < T.heap.size := Nat.lt_of_lt_of_le hq (by rw [hT, ← eH]; exact hS.1)
      rw [hold2 q this, hT, hS.2.1 q (by rw [eH]; exact hq) hn, eH]
    · have hu : (T.setVm X.s.vm).sameButNew ({ U with vm := X.s.vm } : State) [] 1 6 := by
        refine ⟨?_, hsame.2⟩
        have h3 := hsame.1
        have h4 := XS.same.1
        rw [h4]
        refine h3.trans ?_
        show _ = ({ ((X.s.setFrames T.frames).setFrames U.frames) with heap := U.heap, slotsUsed := U.slotsUsed } : State)
        rw [State.setFrames_setFrames]
        rfl
      have h5 := XS.same.trans hu
      rw [List.append_nil] at h5
      exact h5.mono (by omega) (by omega)
  exact key T rfl XB
end THR
theorem Cth.of {l : Launch} {G : EG} {y : MethodName} {rm : Room} {As : List Value} {ws : va_W} {cls : String} {cc : ByteArray} {maxL : Nat} {ret : Option FieldType} (hy : plainName y.cls = true) (hlen : Nat.ble (lg_sl As).length maxL = true)
    (body : ∀ X : EX, EC X G y.cls cc maxL → ET X G rm.cells rm.slots cls ws → X.R = rm → X.l = l → EW X G maxL 0 0 0 (lv_args 0 As) [] ws) : Cth l G y cc maxL ret rm As ws cls := by
  intro sz
  refine MetFree.of_bodyS (code := cc) (maxLocals := maxL) (ret := ret) hy (fun args s m h hn => ?_) (fun p e s m args below meth c s₁ Bd hml hv _ => ?_)
  · obtain ⟨meth, c, h1, h2, h3, h4, h5, h6, -⟩ := Cond.code_spec hn (atoms_spec (ws := Cond.code y cc maxL ret :: GT) h _ List.mem_cons_self)
    exact ⟨meth, c, h1, h2, h3, h4, h5, h6⟩
  · obtain ⟨⟨rfl, hsz, hP, hK, hD0⟩, hZ⟩ := hv
    subst hsz
    have hts := atoms_spec (ws := Cond.code y cc maxL ret :: GT) Bd.pre
    have hl := lv_entry As (n := maxL) (Nat.le_of_ble_eq_true hlen)
    have hA : ∀ q, va_A ws s.heap.size q → ∀ cell : Cell, s.heap[q]? = some cell → cell.vm.isStatics = false := by
      intro q hq cell hc
      rcases hq with ⟨k, e0, h⟩ | h
      · exact va_at_vm (hP k _ h) hc
      · have := (Array.getElem?_eq_some_iff.mp hc).1
        omega
    have key : W p l e rm s m As.toArray below meth c s.heap [] 0 0 (MQT below (ePostT G cls ws (va_A ws s.heap.size)) As.toArray s rm.cells rm.slots (va_A ws s.heap.size)) (entryFrame m As.toArray maxL) := by
      rw [lg_entry_eq]
      exact body (p, l, e, rm, s, m, As.toArray, below, meth, c, s.heap, va_A ws s.heap.size, MQT below (ePostT G cls ws (va_A ws s.heap.size)) As.toArray s rm.cells rm.slots (va_A ws s.heap.size))
        ⟨Bd.exec, Bd.bytes, hml, findClass_of_methodNamed Bd.named, fun w h => hts w (List.mem_cons_of_mem _ h), hK, fun q h => Or.inr h⟩ ⟨rfl, Bd.notSynchronized, Bd.noHandlers (hts _ List.mem_cons_self), hZ, hA, rfl⟩ rfl rfl s.heap [] _ hP (hD0.self) va_S.rf hl
    obtain ⟨t, a1, o, b1, b2, b3⟩ := key s₁ (by rw [Bd.state]; rfl) (Stand.of_body Bd)
    exact ⟨t, o, a1, b1, b2, b3⟩
