/-! THE SCRIPT'S CELL -/
def ePreX (G : EG) (bs Ls : Nat) (xs : Nat → Int32) (As : List Value) (ws : va_W) (sz : Nat) : Array Value → State → Prop := fun a U => ePre G As ws sz a U ∧ va_X bs Ls xs U U.heap ∧ bs < U.heap.size
def ConX (l : Launch) (G : EG) (y : MethodName) (cc : ByteArray) (maxL : Nat) (ret : Option FieldType) (rm : Room) (bs Ls : Nat) (xs : Nat → Int32) (As : List Value) (ws : va_W) (B : Option Value → va_W → Prop) : Prop :=
  ∀ sz : Nat, Met l y (Cond.code y cc maxL ret :: GT) rm (ePreX G bs Ls xs As ws sz) (ePost G B (va_A ws sz)) rm.cells rm.slots (va_A ws sz)
theorem va_X.vm {bs Ls : Nat} {xs : Nat → Int32} {s U : State} {H : Heap} (h : va_X bs Ls xs s H) (hal : s.vm.Alike U.vm) : va_X bs Ls xs U H := by
  obtain ⟨scr, h1, h2, h3⟩ := h
  exact ⟨scr, h1, State.isArrayOf_alike hal h2, h3⟩
theorem va_X.at {bs Ls : Nat} {xs : Nat → Int32} {s U : State} {A : Nat → Prop} {H0 H : Heap} {locs : List Loc} (h : va_X bs Ls xs s H0) (hbl : bs < H0.size) (hbA : ¬ A bs) (hS : va_S A H0 H locs) (hU : U.heap = H) (hW : s.WarmedH U.vm) : va_X bs Ls xs U U.heap ∧ bs < U.heap.size := by
  rw [hU]
  exact ⟨(h.kept (hS.2.1 bs hbl hbA)).vm hW.alike, Nat.lt_of_lt_of_le hbl hS.1⟩
theorem ePreX_blind {G : EG} {bs Ls : Nat} {xs : Nat → Int32} {As : List Value} {ws : va_W} {sz : Nat} : FrameBlind (ePreX G bs Ls xs As ws sz) := fun a U g mk q =>
  ⟨ePre_blind a U g mk q.1, va_X.vm (s := U) (U := U.calling g mk a) q.2.1 (Vm.Alike.refl U.vm), q.2.2⟩
theorem ConX.of {l : Launch} {G : EG} {y : MethodName} {rm : Room} {bs Ls : Nat} {xs : Nat → Int32} {As : List Value} {B : Option Value → va_W → Prop} {cc : ByteArray} {maxL : Nat} {ret : Option FieldType} (hy : plainName y.cls = true) (hlen : Nat.ble (lg_sl As).length maxL = true)
    (body : ∀ X : EX, EC X G y.cls cc maxL → ER X G rm.cells rm.slots B ret → va_X bs Ls xs X.s X.H0 → bs < X.H0.size → ¬ X.A bs → X.R = rm → X.l = l → EW X G maxL 0 0 0 (lv_args 0 As) [] []) : ConX l G y cc maxL ret rm bs Ls xs As [] B := by
  intro sz
  refine Met.ofW (cc := cc) (maxL := maxL) (ret := ret) hy rfl ?_
  intro p e s m args below meth c s₁ Bd hml hv
  obtain ⟨⟨rfl, hsz, hP, hK, hD0⟩, hXs, hbl⟩ := hv
  subst hsz
  have hl := lv_entry As (n := maxL) (Nat.le_of_ble_eq_true hlen)
  rw [lg_entry_eq]
  have hts := atoms_spec (ws := Cond.code y cc maxL ret :: GT) Bd.pre
  exact body (p, l, e, rm, s, m, As.toArray, below, meth, c, s.heap, va_A [] s.heap.size, MQ below (ePost G B (va_A [] s.heap.size)) As.toArray s rm.cells rm.slots (va_A [] s.heap.size))
    ⟨Bd.exec, Bd.bytes, hml, findClass_of_methodNamed Bd.named, fun w h => hts w (List.mem_cons_of_mem _ h), hK, fun q h => Or.inr h⟩ ⟨rfl, Bd.returns, Bd.notSynchronized, rfl⟩ hXs hbl (fun z => by
      rcases z with ⟨k, e0, z⟩ | z
      · cases z
      · exact absurd hbl (Nat.not_lt.mpr z)) rfl rfl s.heap [] _ hP (hD0.self) va_S.rf hl
section WR3
variable {X : EX} {G : EG} {own : String} {cc : ByteArray} {nL cells slots pc : Nat} {lv : List (Nat × Value)} {st : List Value} {ws : va_W} {B : Option Value → va_W → Prop}
theorem e_slen (C : EC X G own cc nL) {bs Ls : Nat} {xs : Nat → Int32} (hXs : va_X bs Ls xs X.s X.H0) (hbl : bs < X.H0.size) (hbA : ¬ X.A bs) (hd : decode cc pc = .ok (.arraylength, 1)) (k : EW X G nL cells slots (pc + 1) lv (.int (nI Ls) :: st) ws) : EW X G nL cells slots pc lv (.ref bs :: st) ws :=
  fun H locs ls hP hD hS hl => va_slen C.1 C.2.1 hXs hbl hbA hS hd (k H locs ls hP hD hS hl)
theorem e_sld (C : EC X G own cc nL) {bs Ls : Nat} {xs : Nat → Int32} (hXs : va_X bs Ls xs X.s X.H0) (hbl : bs < X.H0.size) (hbA : ¬ X.A bs) {i : Int32} {j : Nat} (hi : i = nI j) (hj : j < Ls) (hL : Ls < 2 ^ 31) (hd : decode cc pc = .ok (.iaload, 1)) (k : EW X G nL cells slots (pc + 1) lv (.int (xs j) :: st) ws) : EW X G nL cells slots pc lv (.int i :: .ref bs :: st) ws := by
  obtain ⟨h1, h2⟩ := e_in hi hj hL
  intro H locs ls hP hD hS hl
  refine va_sld C.1 C.2.1 hXs hbl hbA hS h1 hd ?_
  rw [h2]
  exact k H locs ls hP hD hS hl
set_option maxHeartbeats 1000000 in
theorem e_cX (C : EC X G own cc nL) {bs Ls : Nat} {xs : Nat → Int32} (hXs : va_X bs Ls xs X.s X.H0) (hbl : bs < X.H0.size) (hbA : ¬ X.A bs) {Rm : Room} (hX : X.R = Rm) {wc wr : va_W} {y : MethodName} {fr ce sl lo : Nat} {As : List Value} {bytes : ByteArray} {maxL index : Nat} {ret : Option FieldType} {st0 : List Value}
    (hM : ConX X.l G y bytes maxL ret (rc fr ce sl lo) bs Ls xs As wc B) (hc : Cond.code y bytes maxL ret ∈ GT) (hi : Cond.initialized y.cls ∈ GT) (hl : Cond.methodLink own index y ∈ GT) (hsta : Cond.static y ∈ GT) (hd : decode cc pc = .ok (.invokestatic index, 3)) (hst : st0 = As.reverse ++ st) (hy : eY y As.length = true) (hR : eR (rc fr ce sl lo) Rm maxL = true) (hs : Nat.ble (st.map fun v : Value => v.category).sum 8 = true) (h1 : cells + ce ≤ Rm.cells) (h2 : slots + sl ≤ Rm.slots)
    (kk : ∀ (r : Option Value) (u : va_W), B r u → EW X G nL (cells + ce) (slots + sl) (pc + 3) lv (r.toList ++ st) (u ++ wr)) : EW X G nL cells slots pc lv st0 (wc ++ wr) := by
  subst hst
  intro H locs ls hP hD hS hlv T hT XS
  have hPc : va_P G.1 KL wc H := fun k q h => hP k q (by rw [List.getElem?_append_left (List.getElem?_eq_some_iff.mp h).1]; exact h)
  have hDc : va_D X.A wc := ⟨fun i j p q hi hj h => hD.1 i j p q (by rw [List.getElem?_append_left (List.getElem?_eq_some_iff.mp hi).1]; exact hi) (by rw [List.getElem?_append_left (List.getElem?_eq_some_iff.mp hj).1]; exact hj) h, fun k q h => hD.2 k q (by rw [List.getElem?_append_left (List.getElem?_eq_some_iff.mp h).1]; exact h)⟩
  have hF : ∀ q, va_A wc H.size q → X.A q := by
    intro q h
    rcases h with ⟨k, e, h⟩ | h
    · exact hDc.2 k (q, e) h
    · exact C.2.2.2.2.2.2 q (Nat.le_trans hS.1 h)
  rw [← hX] at hR h1 h2
  have hw : ∀ w ∈ Cond.code y bytes maxL ret :: GT, ∀ (a' : Array Value) (U : State), X.s.WarmedH U.vm → w.before a' U = true := by
    intro w hw a' U hW
    have h : w ∈ GT := (List.mem_cons.mp hw).elim (fun e => e ▸ hc) id
    exact word_at hW (gt_good w h) (C.2.2.2.2.1 w h)
  have hB := back_of (p := X.p) (e := X.e) (below := X.below) (s := X.s) (sargs := X.args) (R := X.R) (len := 3) (W := 8) (bytes := bytes) (maxL := maxL) (ret := ret) (hM H.size) ePreX_blind rfl rfl (eR.of hR).1 (eR.of hR).2 hw List.mem_cons_self (fun a' U hW => hw _ (List.mem_cons_of_mem _ hi) a' U hW)
  obtain ⟨mk, n1⟩ := Cond.code_named (C.2.2.2.2.1 _ hc)
  obtain ⟨methM, cM, n2, -, -, -, -, -, -, n3⟩ := Cond.code_spec n1 (C.2.2.2.2.1 _ hc)
  obtain ⟨v, vm₁, ⟨U', l2, c2, s2⟩, hW1, X', ⟨g, mk', t, L, e1, e2, ⟨⟨r, u, ho, hB1, hP1, hK1, hD1⟩, hz, hk1⟩, eL, hL, ec, es⟩, hsteps⟩ :=
    XS.staticBack C.1 C.2.2.2.1 (C.2.2.2.2.1 _ hl) (C.2.2.2.2.1 _ hsta) (C.2.2.2.2.1 _ hi) n1 n2 n3 (eY.of hy).1 hB (g := F0 X.m pc ls (As.reverse ++ st)) rfl (by rw [C.2.2.1]; exact hlv.1) (Steps.refl _) (argsL := As) (rest := st) (fun sig h => (eY.of hy).2 sig h) rfl (lv_room (Nat.le_of_ble_eq_true hs)) (by rw [C.2.1]; exact hd) (fun vm₁ hW₁ => ⟨h1, h2, e_pre C hPc (hDc.weaken (fun _ _ _ _ => trivial)) (T.setVm vm₁) hT hW₁, va_X.at hXs hbl hbA hS (U := T.setVm vm₁) hT hW₁⟩)
  cases ho
  dsimp only [Pt.U, Pt.locs, Pt.cells, Pt.slots] at X' e1 e2 eL ec es hsteps
  subst eL; subst ec; subst es
  have h9 : ((T.setVm vm₁).calling g mk' As.toArray).heap = H := hT
  have hz : H.size ≤ t.heap.size := by rw [← h9]; exact hz
  have hk1 : ∀ q : Nat, q < H.size → ¬ va_A wc H.size q → t.heap[q]? = H[q]? := by
    rw [h9] at hk1
    exact hk1
  have toR : ∀ {k : Nat} {q : Nat × va_E}, wr[k]? = some q → (wc ++ wr)[wc.length + k]? = some q := fun {k q} h => by
    rw [List.getElem?_append_right (by omega), show wc.length + k - wc.length = k by omega]
    exact h
  have apart : ∀ {k : Nat} {q : Nat × va_E}, wr[k]? = some q → q.1 < H.size ∧ ¬ va_A wc H.size q.1 := by
    intro k q h
    have hlt := (hP _ q (toR h)).lt
    refine ⟨hlt, fun z => ?_⟩
    rcases z with ⟨k2, e, z⟩ | z
    · have hk2 := (List.getElem?_eq_some_iff.mp z).1
      have := hD.1 (wc.length + k) k2 q (q.1, e) (toR h) (by rw [List.getElem?_append_left hk2]; exact z) rfl
      omega
    · omega
  have hPn : va_P G.1 KL (u ++ wr) U'.heap := by
    rw [e1]
    exact va_P.app hP1 (fun k q h => (hP _ q (toR h)).kept (hk1 q.1 (apart h).1 (apart h).2))
  have hDn : va_D X.A (u ++ wr) := va_D.app (hD1.weaken (fun k q _ h => hF q.1 h)) ⟨fun i j p q hi hj h => by have := hD.1 _ _ p q (toR hi) (toR hj) h; omega, fun k q h => hD.2 _ q (toR h)⟩ (fun i j x y hx hy hxy => (apart hy).2 (by rw [← hxy]; exact hD1.2 i x hx))
  have hSn : va_S X.A X.H0 U'.heap (locs ++ L) := ⟨Nat.le_trans hS.1 (by rw [e1]; exact hz), fun q h1 h2 => by rw [e1, hk1 q (Nat.lt_of_lt_of_le h1 hS.1) (fun z => h2 (hF q z))]; exact hS.2.1 q h1 h2, fun q hq => by
    rcases List.mem_append.mp hq with h | h
    · exact hS.2.2 q h
    · exact hF _ (hL q h)⟩
  obtain ⟨t2, a1, b1⟩ := kk v u hB1 U'.heap (locs ++ L) ls hPn hDn hSn hlv U' rfl X'
  exact ⟨t2, hsteps.trans a1, b1⟩
end WR3
theorem ey_L_cell : eY y_L_cell 2 = true := by decide +kernel
theorem d_L_cell_0 : decode c_L_cell 0 = .ok (.iload_n 1, 1) := by decide +kernel
theorem d_L_cell_1 : decode c_L_cell 1 = .ok (.aload_n 0, 1) := by decide +kernel
theorem d_L_cell_2 : decode c_L_cell 2 = .ok (.arraylength, 1) := by decide +kernel
theorem d_L_cell_3 : decode c_L_cell 3 = .ok (.if_icmp .ge 9, 3) := by decide +kernel
theorem d_L_cell_6 : decode c_L_cell 6 = .ok (.aload_n 0, 1) := by decide +kernel
theorem d_L_cell_7 : decode c_L_cell 7 = .ok (.iload_n 1, 1) := by decide +kernel
theorem d_L_cell_8 : decode c_L_cell 8 = .ok (.iaload, 1) := by decide +kernel
theorem d_L_cell_9 : decode c_L_cell 9 = .ok (.goto 4, 3) := by decide +kernel
theorem d_L_cell_12 : decode c_L_cell 12 = .ok (.iconst 0, 1) := by decide +kernel
theorem d_L_cell_13 : decode c_L_cell 13 = .ok (.ireturn, 1) := by decide +kernel
set_option maxRecDepth 100000 in
theorem k_L_cell {l : Launch} {G : EG} {bs Ls j : Nat} {xs : Nat → Int32} (hL : Ls ≤ 2052) (hj : j < 2 ^ 20) : ConX l G y_L_cell c_L_cell 2 (some .int) (rz 0 0) bs Ls xs [.ref bs, .int (nI j)] [] (DI (if j < Ls then xs j else 0) []) := by
  refine ConX.of rfl rfl (fun X C E hXs hbl hbA hR hl => ?_)
  refine e_iload_n C d_L_cell_0 rfl ?_
  refine e_aload_n C d_L_cell_1 rfl ?_
  refine e_slen C hXs hbl hbA d_L_cell_2 ?_
  refine e_icmp_ge C d_L_cell_3 (tgt := 12) (by decide) (fun h3 => ?_) (fun h3 => ?_)
  · rw [nI_leI (by omega) (by omega)] at h3
    rw [if_neg (by omega)] at E
    refine e_iconst C d_L_cell_12 (v := 0) (by decide) ?_
    exact e_iret C E d_L_cell_13 (Nat.le_refl _) (Nat.le_refl _) rfl ⟨rfl, rfl⟩
  · rw [nI_leI (by omega) (by omega)] at h3
    rw [if_pos (by omega)] at E
    refine e_aload_n C d_L_cell_6 rfl ?_
    refine e_iload_n C d_L_cell_7 rfl ?_
    refine e_sld C hXs hbl hbA rfl (by omega) (by omega) d_L_cell_8 ?_
    refine e_goto C d_L_cell_9 (tgt := 13) (by decide) ?_
    exact e_iret C E d_L_cell_13 (Nat.le_refl _) (Nat.le_refl _) rfl ⟨rfl, rfl⟩
