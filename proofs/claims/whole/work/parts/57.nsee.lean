/-! THROWS: a class whose constructor calls its super by another number -/
def b13 : ByteArray := ⟨#[0x2a, 0x2b, 0xb7, 0x00, 0x0d, 0xb1]⟩
def nS : String := "java/util/NoSuchElementException"
def nAt (own : String) (ic : Nat) : List Cond := Jvm.Bundle.throwableAtoms ++ Jvm.Bundle.throwableSAtoms ++ Jvm.Bundle.passSAtoms nS "java/lang/RuntimeException" 13 b13 ++ Jvm.Bundle.chainSAtoms "java/lang/RuntimeException" ["java/lang/Exception"] ++
  [.methodLink own ic (Jvm.Bundle.initS nS), .instantiable nS 6, .selects nS Jvm.Bundle.tFill0 Jvm.Bundle.tFill0, .selects nS Jvm.Bundle.tFill Jvm.Bundle.tFill,
   .lays nS Jvm.Bundle.tN "cause" "Ljava/lang/Throwable;", .lays nS Jvm.Bundle.tN "stackTrace" Jvm.Bundle.steD, .lays nS Jvm.Bundle.tN "suppressedExceptions" Jvm.Bundle.listD, .lays nS Jvm.Bundle.tN "detailMessage" "Ljava/lang/String;",
   .isRef (.static Jvm.Bundle.tN "UNASSIGNED_STACK" Jvm.Bundle.steD), .isRef (.static Jvm.Bundle.tN "SUPPRESSED_SENTINEL" Jvm.Bundle.listD),
   .fieldLink Jvm.Bundle.tN 198 Jvm.Bundle.tN "backtrace" "Ljava/lang/Object;", .lays Jvm.Bundle.tN Jvm.Bundle.tN "backtrace" "Ljava/lang/Object;", .lays nS Jvm.Bundle.tN "backtrace" "Ljava/lang/Object;"]
theorem nAt_in : ∀ w ∈ nAt "CacheRules" 128, w ∈ GT ∨ w ∈ tW ∨ w ∈ tRw := by decide +kernel
theorem b13_0 : decode b13 0 = .ok (.aload_n 0, 1) := by decide +kernel
theorem b13_1 : decode b13 1 = .ok (.aload_n 1, 1) := by decide +kernel
theorem b13_2 : decode b13 2 = .ok (.invokespecial 13, 3) := by decide +kernel
theorem b13_5 : decode b13 5 = .ok (.return_, 1) := by decide +kernel
section NSE
variable {p : Program} {l : Launch} {e : Env} {R : Room} {s : State} {m : MethodId} {args : Array Value} {below : List Frame} {meth : Method} {c : Code} {W0 : State} {cells slots : Nat}
set_option maxHeartbeats 1000000 in
theorem thrN (X : Stand p l e R s m args below meth c W0 [] cells slots) (hexec : p.tables.exec = Jvm.exec) (htr : e.platform.stackTraces = false) {own : String} {ic : Nat} (hown : s.vm.findClass own = some m.cls)
    (h : ∀ w ∈ nAt own ic, w.before args s = true) {a : Addr} {cX : ClassId} {kX : Class} (hfX : s.vm.findClass nS = some cX) (hkX : s.vm.classes[cX]? = some kX) (hcell : W0.heap[a]? = some (freshCell cX kX)) (hnew : s.heap.size ≤ a) {msg : Value} (hmsg : msg.isRef = true)
    {g : JFrame} (hg : g.method = m) (hsize : g.locals.size = c.maxLocals) (hlocked : g.locked = none) (hentered : g.entered = []) {rest : List Value} (hstack : g.stack = msg :: .ref a :: .ref a :: rest)
    (hd6 : decode c.code g.pc = .ok (.invokespecial ic, 3)) (hd9 : decode c.code (g.pc + 3) = .ok (.athrow, 1)) (hout : ∀ x ∈ c.exceptionTable.toList, covers x (g.pc + 3) = false)
    (hRf : 5 < R.frames) (hRl : 2 * g.monitorRoom + ((Value.ref a :: rest).map fun v => v.category).sum + 81 ≤ R.locals) (hlocks : meth.locks = false) :
    ∃ U : State, Steps p.tables e below (W0.setTop g) U ∧ U.status = .running ∧ Ended U below (.threw a) ∧ s.WarmedH U.vm ∧ s.sameButNew ({ U with vm := s.vm } : State) [] cells slots ∧ ∃ ce, U.heap[a]? = some ce ∧ ce.vm = .none ∧ ce.cls = cX := by
  have pl1 : e.platform.frameOwnsMonitors = true := by rw [X.admits.platform]
  have pl2 : e.platform.finalization = false := by rw [X.admits.platform]
  have pl3 : e.platform.magicAccessors = ({} : Platform).magicAccessors := by rw [X.admits.platform]
  have hh : ∀ w, w ∈ nAt own ic → w.holds args s none s [] = true := fun w hw => h w hw
  obtain ⟨T, Z0, L, -, Y⟩ := ThrowableC.of_atoms (args := args) pl1 pl2 pl3 (fun w hw => h w (by simp [nAt, hw]))
  obtain ⟨Z, M, LZ, LM, hnZ⟩ := Init0T.ofS_atoms (args := args) pl3 L Y (fun w hw => h w (by simp [nAt, hw]))
  obtain ⟨P2, Ps, hlen, L2, hL, hm2, hk2, hks⟩ := Jvm.Bundle.chainS (args := args) pl3 hnZ ["java/lang/Exception"] "java/lang/RuntimeException" (by decide) (by decide) (fun w hw => h w (by simp [nAt, hw]))
  obtain ⟨P1, L1, hm1, hs1⟩ := PassC.ofS_atoms (args := args) pl3 (X := nS) (Y := "java/lang/RuntimeException") (by decide) (by decide) b13_0 b13_1 b13_2 b13_5 (fun w hw => h w (by simp [nAt, hw]))
  have h12 : P1.sup = P2.m := Option.some.inj (hs1.symm.trans hm2)
  have hP1 : s.vm.findClass nS = some P1.m.cls := findClass_of_methodNamed hm1
  cases Option.some.inj (hfX.symm.trans hP1)
  obtain ⟨c1, k1, hc1, hk, hord, -, -, hn6⟩ := Cond.instantiable_spec (hh (.instantiable nS 6) (by simp [nAt]))
  cases Option.some.inj (hc1.symm.trans hP1)
  cases Option.some.inj (hkX.symm.trans hk)
  have sel : ∀ {x : MethodName} {f : MethodId}, (Cond.selects nS x x).holds args s none s [] = true → s.methodFound? x.cls x.name x.desc = some f → s.methodNamed? x = some f → selectMethod e.platform s.vm P1.m.cls f = .method f := by
    intro x f hx hf1 hf2
    obtain ⟨c2, r2, m2, q1, q2, q3, q4, -⟩ := Cond.selects_spec hx
    cases Option.some.inj (q1.symm.trans hP1)
    cases Option.some.inj (q2.symm.trans hf1)
    cases Option.some.inj (q3.symm.trans hf2)
    rw [Launch.admits_selectMethod X.admits]
    exact q4
  have sel0 := sel (hh (.selects nS Jvm.Bundle.tFill0 Jvm.Bundle.tFill0) (by simp [nAt])) (State.methodFound?_of_named Y.fill0 (by decide)) Y.fill0
  have selF := sel (hh (.selects nS Jvm.Bundle.tFill Jvm.Bundle.tFill) (by simp [nAt])) (State.methodFound?_of_named Y.fill (by decide)) Y.fill
  obtain ⟨cS, hcS, hiS⟩ := Y.statics
  obtain ⟨u0, hu0⟩ := Cond.staticRefV Y.unassigned L.unassignedStatic L.statics hcS hiS (hh (.isRef (.static Jvm.Bundle.tN "UNASSIGNED_STACK" Jvm.Bundle.steD)) (by simp [nAt]))
  obtain ⟨sen, hsen⟩ := Cond.staticRefV Y.sentinel L.sentinelStatic L.statics hcS hiS (hh (.isRef (.static Jvm.Bundle.tN "SUPPRESSED_SENTINEL" Jvm.Bundle.listD)) (by simp [nAt]))
  obtain ⟨ci, ib, fB, hk198, hg198, ha198, hsB, -, hnB, htB, hffB⟩ := Cond.ownField (t := .object "java/lang/Object") Y.found L.cls (by decide +kernel) (hh (.fieldLink Jvm.Bundle.tN 198 Jvm.Bundle.tN "backtrace" "Ljava/lang/Object;") (by simp [nAt])) (hh (.lays Jvm.Bundle.tN Jvm.Bundle.tN "backtrace" "Ljava/lang/Object;") (by simp [nAt])) e.platform pl3
  have hcSW : W0.heap[T.aS]? = some cS := X.same.old_cell hcS
  have hneS : T.aS ≠ a := Nat.ne_of_lt (Nat.lt_of_lt_of_le (Array.getElem?_eq_some_iff.mp hcS).1 hnew)
  obtain ⟨iM, hffM⟩ := Y.msg
  obtain ⟨tyC, dC, hdC, hnC⟩ := Cond.laysAt hP1 hk Y.cause (hh (.lays nS Jvm.Bundle.tN "cause" "Ljava/lang/Throwable;") (by simp [nAt]))
  obtain ⟨tyS, dS, hdS, hnS⟩ := Cond.laysAt hP1 hk Y.stack (hh (.lays nS Jvm.Bundle.tN "stackTrace" Jvm.Bundle.steD) (by simp [nAt]))
  obtain ⟨tyP, dP, hdP, hnP⟩ := Cond.laysAt hP1 hk Y.supp (hh (.lays nS Jvm.Bundle.tN "suppressedExceptions" Jvm.Bundle.listD) (by simp [nAt]))
  obtain ⟨tyM, dM, hdM, hnM⟩ := Cond.laysAt hP1 hk hffM (hh (.lays nS Jvm.Bundle.tN "detailMessage" "Ljava/lang/String;") (by simp [nAt]))
  obtain ⟨tyB, dB, hdB, hnB2⟩ := Cond.laysAt hP1 hk hffB (hh (.lays nS Jvm.Bundle.tN "backtrace" "Ljava/lang/Object;") (by simp [nAt]))
  have bC := Cond.laysApart hdB hdC hnB2 hnC (by rw [hnB, Y.causeName]; decide)
  have bS := Cond.laysApart hdB hdS hnB2 hnS (by rw [hnB, Y.stackName]; decide)
  have bP := Cond.laysApart hdB hdP hnB2 hnP (by rw [hnB, Y.suppName]; decide)
  have hskip : SkipFacts T e.platform s (fun u => u) u0 ((preparedCellV T.toThrowableT (freshCell P1.m.cls kX) a u0 sen).withEntry W0.cur) := by
    refine ⟨{ ci198 := ci, i198 := ib, fBack := fB }, ⟨hk198, hg198, ha198, hsB⟩, ?_, fun _ _ => rfl⟩
    have h0 := fresh_default (c := P1.m.cls) tyB
    rw [htB] at h0
    simpa [preparedCellV, Cell.setSlot, Cell.withEntry, Array.getElem?_setIfInBounds, bC, bS, bP, bC.symm, bS.symm, bP.symm, defaultValue] using h0
  obtain ⟨tm, methC, cdC, kC, vm1, hnC1, -, -, -, -, -, -, -, hW1, st1⟩ := Steps.initColdS (tb := p.tables) (e := e) (below := below) (s := s) (U := W0) X.here hexec X.warmed pl3 hown (t := Jvm.Bundle.initS nS) rfl rfl (by decide) (hh (.methodLink own ic (Jvm.Bundle.initS nS)) (by simp [nAt])) (h (.instanceMethod (Jvm.Bundle.initS nS)) (by simp [nAt, Jvm.Bundle.passSAtoms])) (bytes := b13) (maxL := 2) (h (.code (Jvm.Bundle.initS nS) b13 2 none) (by simp [nAt, Jvm.Bundle.passSAtoms])) (f := g) hg (a := a) (msg := msg) (rest := .ref a :: rest) hstack hd6
  cases Option.some.inj (hnC1.symm.trans hm1)
  obtain ⟨vm2, X2, st2⟩ := (X.noted hW1).ctorMessageOffV hexec (g := { g with stack := .ref a :: rest }) hg hsize T L Z LZ M LM (P1 :: P2 :: Ps)
    (fun P hP => by
      rcases List.mem_cons.mp hP with rfl | hP
      · exact L1
      · rcases List.mem_cons.mp hP with rfl | hP
        · exact L2
        · exact hL P hP) ⟨h12, hk2, hks⟩ (u0 := u0) (sen := sen) (self := a) hmsg (cell := freshCell P1.m.cls kX) (cellS := cS)
    hcell (fun _ => by simp) (by simp) rfl rfl sel0 selF hcSW hneS (fun hu => by rw [hu] at hiS; cases hiS) hu0 hsen
    (Takes.of_laid hk hord tyC (by rw [Y.causeType]; rfl)) (Takes.of_laid hk hord tyS (by rw [Y.stackType]; exact fits_refV_array _ u0)) (Takes.of_laid hk hord tyP (by rw [Y.suppType]; exact fits_refV_object _ sen)) (Takes.of_laid hk hord tyM (by rw [Y.msgType]; exact fits_refV_object _ ⟨msg, hmsg⟩)) Y.objLocals hskip htr [] hd6
    (by simp only [List.length_cons, hlen, List.length_nil]; omega) (by simp only [List.length_cons, hlen, List.length_nil]; exact hRl)
  obtain ⟨hwalk, hrun, hended, hWU, hsame⟩ := X2.athrowLeaves hexec (g := { g with stack := .ref a :: rest, pc := g.pc + 3 }) hg hlocked hentered hout (a := a) (rest := rest) rfl hd9 hlocks
  have hlt : a < ((W0.setVm vm1).setVm vm2).heap.size := (Array.getElem?_eq_some_iff.mp hcell).1
  have hU := heapAt_setCell_self (s := (W0.setVm vm1).setVm vm2) (plainBareV T.toThrowableT (freshCell P1.m.cls kX) a u0 sen msg) hlt
  refine ⟨_, st1 _ (fun acts => ?_), hrun, hended, hWU, hsame.weaken (fun y hy hlt' => ?_) (Nat.le_refl _) (Nat.le_refl _), _, hU, rfl, rfl⟩
  · rw [doInvoke_state]
    exact st2 _ hwalk
  · exfalso
    have hb : y.base = a := by
      simp only [List.nil_append, List.mem_cons, List.not_mem_nil, or_false] at hy
      rcases hy with rfl | rfl | rfl | rfl | rfl <;> rfl
    rw [hb] at hlt'
    exact absurd hlt' (Nat.not_lt.mpr hnew)
end NSE
section THRN
variable {X : EX} {G : EG} {cc : ByteArray} {nL cells slots pc mc ms : Nat} {lv : List (Nat × Value)} {ws : va_W}
set_option maxHeartbeats 1000000 in
theorem e_throwN (C : EC X G "CacheRules" cc nL) (E : ET X G mc ms nS ws) (hfl : X.l.flags = pinnedFlags ++ [noTraceFlag]) {idx si : Nat} {tx : String}
    (hcl : Cond.classLink "CacheRules" idx nS ∈ GT) (hin : Cond.instantiable nS 6 ∈ GT) (hini : Cond.initialized nS ∈ GT) (hst : (si, tx) ∈ tS)
    (d0 : decode cc pc = .ok (.new idx, 3)) (d1 : decode cc (pc + 3) = .ok (.dup, 1)) (d2 : decode cc (pc + 4) = .ok (.ldc si, 2)) (d3 : decode cc (pc + 6) = .ok (.invokespecial 128, 3)) (d4 : decode cc (pc + 9) = .ok (.athrow, 1))
    (h1 : cells + 1 ≤ mc) (h2 : slots + 6 ≤ ms) (hR : (Nat.ble mc X.R.cells && Nat.ble ms X.R.slots && Nat.ble 6 X.R.frames && Nat.ble 90 X.R.locals) = true) : EW X G nL cells slots pc lv [] ws := by
  intro H locs ls hP hD hS hl T hT XS
  obtain ⟨eH, hlk, hxt, hZ, hA, hQ⟩ := E
  simp only [Bool.and_eq_true] at hR
  obtain ⟨⟨⟨r1, r2⟩, r3⟩, r4⟩ := hR
  have r1 := Nat.le_of_ble_eq_true r1
  have r2 := Nat.le_of_ble_eq_true r2
  have r3 := Nat.le_of_ble_eq_true r3
  have r4 := Nat.le_of_ble_eq_true r4
  have htr : X.e.platform.stackTraces = false := Launch.traces_off hfl XS.admits
  have XB := rebase XS (k := 1) (n := 6) (by omega) (by omega)
  have hW0 : X.s.WarmedH ({ X.s with heap := T.heap, slotsUsed := T.slotsUsed } : State).vm := State.WarmedH.refl X.s
  have hst0 : ∀ (q : Nat) (cell : Cell), X.s.heap[q]? = some cell → cell.vm.isStatics = true → T.heap[q]? = some cell := by
    intro q cell hq hv
    have hn : ¬ X.A q := fun h => by rw [hA q h cell hq] at hv; cases hv
    rw [hT, hS.2.1 q (by rw [eH]; exact (Array.getElem?_eq_some_iff.mp hq).1) hn, eH]
    exact hq
  have hZ' : EZ ({ X.s with heap := T.heap, slotsUsed := T.slotsUsed } : State) := EZ.moved hW0 hst0 hZ
  have hw : ∀ w ∈ GT, ∀ a', w.before a' ({ X.s with heap := T.heap, slotsUsed := T.slotsUsed } : State) = true := fun w h a' => word_at hW0 (gt_good w h) (C.2.2.2.2.1 w h)
  have hats : ∀ w ∈ nAt "CacheRules" 128, w.before X.args ({ X.s with heap := T.heap, slotsUsed := T.slotsUsed } : State) = true := by
    intro w hw0
    rcases nAt_in w hw0 with h | h | h
    · exact hw w h _
    · exact va_tabs (tW_tab w h) rfl (hZ'.1 w h)
    · simp only [tRw, List.mem_append, List.mem_map] at h
      rcases h with ⟨x, hx, rfl⟩ | ⟨x, hx, rfl⟩
      · exact st_move (Vm.Alike.refl _) (fun _ _ h _ => h) (hZ'.2.1 x hx).1
      · exact ls_move (Vm.Alike.refl _) (fun _ _ h _ => h) (hZ'.2.1 x hx).2
  obtain ⟨qs, hqs⟩ := hZ'.2.2.1 (si, tx) hst
  have hown : ({ X.s with heap := T.heap, slotsUsed := T.slotsUsed } : State).vm.findClass "CacheRules" = some X.m.cls := C.2.2.2.1
  have hx0 : X.c.exceptionTable.toList = [] := by
    have := hxt
    rw [Array.isEmpty_iff] at this
    rw [this]
  have key : W X.p X.l X.e { X.R with cells := 1, slots := 6 } ({ X.s with heap := T.heap, slotsUsed := T.slotsUsed } : State) X.m X.args X.below X.meth X.c T.heap [] 0 0 X.Q (F0 X.m pc ls []) := by
    refine W.newc C.1 C.2.1 hown (hw _ hcl _) (hw _ hin _) (hw _ hini _) rfl d0 (Nat.le_refl _) (Nat.le_refl _) (fun cC kC e1 e2 e3 e4 => ?_)
    refine W.eq (g2 := F0 X.m (pc + 3) ls [.ref T.heap.size]) rfl ?_
    refine lv_dup C.1 C.2.1 d1 rfl ?_
    refine va_ldcS C.1 C.2.1 hown hqs d2 ?_
    intro T2 hT2 X2
    obtain ⟨U, st1, hrun, hend, hWU, hsame, ce, hce, hvm, hcc⟩ := thrN X2 C.1 htr hown hats (a := T.heap.size) e1 e2 (by rw [hT2, Array.getElem?_push, if_pos rfl]) (Nat.le_refl _) (msg := .ref qs) rfl (g := F0 X.m (pc + 6) ls [.ref qs, .ref T.heap.size, .ref T.heap.size]) rfl (by rw [C.2.2.1]; exact hl.1) rfl rfl (rest := []) rfl (by rw [C.2.1]; exact d3) (by rw [C.2.1]; exact d4) (fun x hx => by rw [hx0] at hx; cases hx) (by show 5 < X.R.frames; omega) (Nat.le_trans (Nat.le_of_ble_eq_true rfl) r4) hlk
    refine ⟨U, st1, ?_⟩
    have hold : ∀ (q : Nat) (cell : Cell), T.heap[q]? = some cell → U.heap[q]? = some cell := fun q cell h => hsame.old_cell (s := ({ X.s with heap := T.heap, slotsUsed := T.slotsUsed } : State)) h
    have hold2 : ∀ q : Nat, q < T.heap.size → U.heap[q]? = T.heap[q]? := fun q h => by
      rw [Array.getElem?_eq_getElem h]
      exact hold q _ (Array.getElem?_eq_getElem h)
    have hzz : T.heap.size ≤ U.heap.size := hsame.2.1
    have hEK : EK G U := EK.moved (u := X.s) hWU.alike C.2.2.2.2.2.1
    have hPU : va_P G.1 KL ws U.heap := fun k q h => by
      have h0 := hP k q h
      rw [← hT] at h0
      obtain ⟨a, e⟩ := q
      cases e with
      | inl x => exact hold a _ h0
      | inr o =>
        obtain ⟨r, hr, c0, hc0, hrest⟩ := h0
        exact ⟨r, hr, c0, hold a _ hc0, hrest⟩
    rw [hQ]
    refine ⟨.threw T.heap.size, hrun, hend, ⟨⟨T.heap.size, ce, rfl, hce, hvm, ?_, ?_, hPU, hEK, hD⟩, ?_, ?_⟩, locs, ⟨⟨_, rfl⟩, hWU, ?_⟩, hS.2.2⟩
    · rw [hWU.alike.findClass, hcc]; exact e1
    · rw [hT, ← eH]; exact hS.1
    · exact Nat.le_trans (by rw [hT, ← eH]; exact hS.1) hzz
    · intro q hq hn
      have : q < T.heap.size := Nat.lt_of_lt_of_le hq (by rw [hT, ← eH]; exact hS.1)
      rw [hold2 q this, hT, hS.2.1 q (by rw [eH]; exact hq) hn, eH]
    · have hu : (T.setVm X.s.vm).sameButNew ({ U with vm := X.s.vm } : State) [] 1 6 := by
        refine ⟨?_, hsame.2⟩
        have h3 := hsame.1
        have h4 := XS.same.1
        rw [h4]
        refine h3.trans ?_
        show _ = ({ ((X.s.setFrames T.frames).setFrames U.frames) with heap := U.heap, slotsUsed := U.slotsUsed } : State)
        rw [State.setFrames_setFrames]
        rfl
      have h5 := XS.same.trans hu
      rw [List.append_nil] at h5
      exact h5.mono (by omega) (by omega)
  exact key T rfl XB
end THRN
section THRA
variable {l : Launch} {G : EG} {a : Nat → Nat} {c : CS} {n V : Nat} {wr : va_W}
set_option maxRecDepth 100000 in
theorem t_C_answer (hf : l.flags = pinnedFlags ++ [noTraceFlag]) (h0 : c.1 12 = nI 0) : Cth l G y_C_answer c_C_answer 3 (some .int) (rc 6 1 6 90) [.ref (a 0)] (cF G a c.1 c.2 n V wr) nS := by
  refine Cth.of rfl rfl (fun X C E hR hl => ?_)
  refine e_aload_n C d_C_answer_0 rfl ?_
  refine e_get C 0 (k := 3) in_C g267 d_C_answer_1 rfl rfl rfl rfl ?_
  refine e_get C 11 (k := 6) in_Asks g225 d_C_answer_4 rfl rfl rfl rfl ?_
  refine e_top h0 ?_
  refine e_if_ne C d_C_answer_7 (tgt := 20) (by decide) (fun h7 => ?_) (fun h7 => ?_)
  · exact absurd rfl h7
  · exact e_throwN C E (by rw [hl]; exact hf) g654 g655 g21 (tx := "no line waits") (by decide) d_C_answer_10 d_C_answer_13 d_C_answer_14 d_C_answer_16 d_C_answer_19 (Nat.le_refl _) (Nat.le_refl _) (by rw [hR]; rfl)
end THRA
