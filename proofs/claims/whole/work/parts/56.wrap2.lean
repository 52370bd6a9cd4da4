/-! THE LAW: calls of its wrappers; cell -/
section WR2
variable {X : EX} {G : EG} {own : String} {cc : ByteArray} {nL cells slots pc : Nat} {lv : List (Nat × Value)} {st : List Value} {B : Option Value → va_W → Prop}
set_option maxHeartbeats 1000000 in
theorem e_cZ (C : EC X G own cc nL) (Z : EH X) {Rm : Room} (hX : X.R = Rm) {wc wr : va_W} {y : MethodName} {fr ce sl lo : Nat} {As : List Value} {bytes : ByteArray} {maxL index : Nat} {ret : Option FieldType} {hh : List (Nat × Nat × Nat × Nat)} {st0 : List Value}
    (hM : ConZ X.l G y bytes maxL ret hh (rc fr ce sl lo) As wc B) (hc : Cond.codeWith y bytes maxL ret hh ∈ GT) (hi : Cond.initialized y.cls ∈ GT) (hl : Cond.methodLink own index y ∈ GT) (hsta : Cond.static y ∈ GT) (hd : decode cc pc = .ok (.invokestatic index, 3)) (hst : st0 = As.reverse ++ st) (hy : eY y As.length = true) (hR : eR (rc fr ce sl lo) Rm maxL = true) (hs : Nat.ble (st.map fun v : Value => v.category).sum 8 = true) (h1 : cells + ce ≤ Rm.cells) (h2 : slots + sl ≤ Rm.slots)
    (kk : ∀ (r : Option Value) (u : va_W), B r u → EW X G nL (cells + ce) (slots + sl) (pc + 3) lv (r.toList ++ st) (u ++ wr)) : EW X G nL cells slots pc lv st0 (wc ++ wr) := by
  subst hst
  intro H locs ls hP hD hS hlv T hT XS
  have hPc : va_P G.1 KL wc H := fun k q h => hP k q (by rw [List.getElem?_append_left (List.getElem?_eq_some_iff.mp h).1]; exact h)
  have hDc : va_D X.A wc := ⟨fun i j p q hi hj h => hD.1 i j p q (by rw [List.getElem?_append_left (List.getElem?_eq_some_iff.mp hi).1]; exact hi) (by rw [List.getElem?_append_left (List.getElem?_eq_some_iff.mp hj).1]; exact hj) h, fun k q h => hD.2 k q (by rw [List.getElem?_append_left (List.getElem?_eq_some_iff.mp h).1]; exact h)⟩
  have hF : ∀ q, va_A wc H.size q → X.A q := by
    intro q h
    rcases h with ⟨k, e, h⟩ | h
    · exact hDc.2 k (q, e) h
    · exact C.2.2.2.2.2.2 q (Nat.le_trans hS.1 h)
  rw [← hX] at hR h1 h2
  have hw : ∀ w ∈ Cond.codeWith y bytes maxL ret hh :: GT, ∀ (a' : Array Value) (U : State), X.s.WarmedH U.vm → w.before a' U = true := by
    intro w hw a' U hW
    have h : w ∈ GT := (List.mem_cons.mp hw).elim (fun e => e ▸ hc) id
    exact word_at hW (gt_good w h) (C.2.2.2.2.1 w h)
  have hB := va_backW (p := X.p) (e := X.e) (below := X.below) (s := X.s) (sargs := X.args) (R := X.R) (len := 3) (W := 8) (bytes := bytes) (maxL := maxL) (ret := ret) (hh := hh) (hM H.size) ePreT_blind rfl rfl (eR.of hR).1 (eR.of hR).2 hw List.mem_cons_self (fun a' U hW => hw _ (List.mem_cons_of_mem _ hi) a' U hW)
  obtain ⟨mk, methM, cM, n1, n2, -, -, -, -, -, -, n3⟩ := Cond.codeWith_spec (C.2.2.2.2.1 _ hc)
  obtain ⟨v, vm₁, ⟨U', l2, c2, s2⟩, hW1, X', ⟨g, mk', t, L, e1, e2, ⟨⟨r, u, ho, hB1, hP1, hK1, hD1⟩, hz, hk1⟩, eL, hL, ec, es⟩, hsteps⟩ :=
    XS.staticBack C.1 C.2.2.2.1 (C.2.2.2.2.1 _ hl) (C.2.2.2.2.1 _ hsta) (C.2.2.2.2.1 _ hi) n1 n2 n3 (eY.of hy).1 hB (g := F0 X.m pc ls (As.reverse ++ st)) rfl (by rw [C.2.2.1]; exact hlv.1) (Steps.refl _) (argsL := As) (rest := st) (fun sig h => (eY.of hy).2 sig h) rfl (lv_room (Nat.le_of_ble_eq_true hs)) (by rw [C.2.1]; exact hd) (fun vm₁ hW₁ => ⟨h1, h2, e_pre C hPc (hDc.weaken (fun _ _ _ _ => trivial)) (T.setVm vm₁) hT hW₁, Z.at hS hT hW₁⟩)
  cases ho
  dsimp only [Pt.U, Pt.locs, Pt.cells, Pt.slots] at X' e1 e2 eL ec es hsteps
  subst eL; subst ec; subst es
  have h9 : ((T.setVm vm₁).calling g mk' As.toArray).heap = H := hT
  have hz : H.size ≤ t.heap.size := by rw [← h9]; exact hz
  have hk1 : ∀ q : Nat, q < H.size → ¬ va_A wc H.size q → t.heap[q]? = H[q]? := by
    rw [h9] at hk1
    exact hk1
  have toR : ∀ {k : Nat} {q : Nat × va_E}, wr[k]? = some q → (wc ++ wr)[wc.length + k]? = some q := fun {k q} h => by
    rw [List.getElem?_append_right (by omega), show wc.length + k - wc.length = k by omega]
    exact h
  have apart : ∀ {k : Nat} {q : Nat × va_E}, wr[k]? = some q → q.1 < H.size ∧ ¬ va_A wc H.size q.1 := by
    intro k q h
    have hlt := (hP _ q (toR h)).lt
    refine ⟨hlt, fun z => ?_⟩
    rcases z with ⟨k2, e, z⟩ | z
    · have hk2 := (List.getElem?_eq_some_iff.mp z).1
      have := hD.1 (wc.length + k) k2 q (q.1, e) (toR h) (by rw [List.getElem?_append_left hk2]; exact z) rfl
      omega
    · omega
  have hPn : va_P G.1 KL (u ++ wr) U'.heap := by
    rw [e1]
    exact va_P.app hP1 (fun k q h => (hP _ q (toR h)).kept (hk1 q.1 (apart h).1 (apart h).2))
  have hDn : va_D X.A (u ++ wr) := va_D.app (hD1.weaken (fun k q _ h => hF q.1 h)) ⟨fun i j p q hi hj h => by have := hD.1 _ _ p q (toR hi) (toR hj) h; omega, fun k q h => hD.2 _ q (toR h)⟩ (fun i j x y hx hy hxy => (apart hy).2 (by rw [← hxy]; exact hD1.2 i x hx))
  have hSn : va_S X.A X.H0 U'.heap (locs ++ L) := ⟨Nat.le_trans hS.1 (by rw [e1]; exact hz), fun q h1 h2 => by rw [e1, hk1 q (Nat.lt_of_lt_of_le h1 hS.1) (fun z => h2 (hF q z))]; exact hS.2.1 q h1 h2, fun q hq => by
    rcases List.mem_append.mp hq with h | h
    · exact hS.2.2 q h
    · exact hF _ (hL q h)⟩
  obtain ⟨t2, a1, b1⟩ := kk v u hB1 U'.heap (locs ++ L) ls hPn hDn hSn hlv U' rfl X'
  exact ⟨t2, hsteps.trans a1, b1⟩
end WR2
