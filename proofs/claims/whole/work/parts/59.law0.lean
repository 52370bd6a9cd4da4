/-! THE LAW: a new array of longs -/
theorem e_newaJ {X : EX} {G : EG} {own : String} {cc : ByteArray} {nL cells slots pc : Nat} {lv : List (Nat × Value)} {st : List Value} {ws : va_W} (C : EC X G own cc nL) {n : Int32} (N : Nat) (hd : decode cc pc = .ok (.newarray .long, 2)) (hn : n = nI N) (hN : N < 2 ^ 20) (h1 : cells + 1 ≤ X.R.cells) (h2 : slots + N ≤ X.R.slots)
    (kk : ∀ q : Nat, EW X G nL (cells + 1) (slots + N) (pc + 2) lv (.ref q :: st) (ws ++ [(q, aJ G.2.2.2 N (fun _ => 0))])) : EW X G nL cells slots pc lv (.int n :: st) ws := by
  subst hn
  intro H locs ls hP hD hS hl
  have hK := C.2.2.2.2.2.1.1
  refine va_newa C.1 C.2.1 (atype := .long) (ty := .long) (C.2.2.2.2.1 _ g1050) rfl hK hP hD hS C.2.2.2.2.2.2 (N' := N) (a0 := (N, .inr (.inl (fun _ => 0)))) (fun cA => by rw [vp_cell_l]; rfl) (nI_pos (by omega)) (nI_clamp (by omega)) ?_ h1 h2 hd (fun q cB H1 hKB hP hD hS => ?_)
  · show N * 8 ≤ 536870912
    omega
  · have e1 : X.s.vm.findClass ("[" ++ FieldType.long.toString) = some G.2.2.2 := (hK.2 2 (G.2.2.2, .long) rfl).2
    have e2 : X.s.vm.findClass ("[" ++ FieldType.long.toString) = some cB := (hKB.2 (TY G).length (cB, .long) (by rw [List.getElem?_append_right (Nat.le_refl _), Nat.sub_self]; rfl)).2
    have : cB = G.2.2.2 := Option.some.inj (e2.symm.trans e1)
    subst this
    exact kk q H1 locs ls hP hD hS hl
theorem e_lcmp {X : EX} {G : EG} {own : String} {cc : ByteArray} {nL cells slots pc : Nat} {lv : List (Nat × Value)} {st : List Value} {ws : va_W} (C : EC X G own cc nL) {x y : Int64} (hd : decode cc pc = .ok (.lcmp, 1)) (k : EW X G nL cells slots (pc + 1) lv (.int (lg_cmp x y) :: st) ws) : EW X G nL cells slots pc lv (.long y :: .long x :: st) ws :=
  fun H locs ls hP hD hS hl => W.lcmp C.1 C.2.1 hd (k H locs ls hP hD hS hl)
theorem lg_cmp_self (x : Int64) : lg_cmp x x = 0 := by
  have h : ¬ x < x := Int64.lt_irrefl
  simp [lg_cmp, h]
