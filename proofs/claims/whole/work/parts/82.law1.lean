/-! THE LAW: its world, its locals, its calls -/
abbrev LV (bs o : Nat) (a a2 : Nat → Nat) (i : Nat) : List (Nat × Value) := [(0, .ref bs), (1, .ref (a 0)), (2, .ref (a2 40)), (3, .ref o), (4, .int (nI i))]
abbrev LW (G : EG) (o : Nat) (a a2 : Nat → Nat) (f : Nat → Int64) (c m : CS) (S wd V kd : Nat) : va_W := ([(o, aJ G.2.2.2 1 f)] ++ wK G a c S wd V kd) ++ mF G a2 m.1 m.2
/-- what holds all along the law -/
def LPx (X : EX) (bs Ls : Nat) (xs : Nat → Int32) (i : Nat) : Prop := va_X bs Ls xs X.s X.H0 ∧ bs < X.H0.size ∧ ¬ X.A bs ∧ X.R = room_1 ∧ i + 4 ≤ Ls ∧ Ls ≤ 2052
section Law1
variable {X : EX} {G : EG} {own : String} {cc : ByteArray} {nL cells slots pc : Nat} {lv : List (Nat × Value)} {st : List Value} {ws : va_W} {a a2 : Nat → Nat} {S wd V kd o : Nat} {c m c' m' : CS} {f : Nat → Int64}
theorem cfit {bs Ls i : Nat} {xs : Nat → Int32} (P : LPx X bs Ls xs i) (hf : cells ≤ 601000 ∧ slots ≤ 7290000) : cells ≤ X.R.cells ∧ slots ≤ X.R.slots := by
  rw [P.2.2.2.1]
  exact ⟨Nat.le_trans hf.1 (by decide), Nat.le_trans hf.2 (by decide)⟩
theorem e_bool (C : EC X G own cc nL) {v : Int32} (d0 : decode cc pc = .ok (.ifCond .eq 7, 3)) (d1 : decode cc (pc + 3) = .ok (.iconst 1, 1)) (d2 : decode cc (pc + 4) = .ok (.goto 4, 3)) (d3 : decode cc (pc + 7) = .ok (.iconst 0, 1)) (k : EW X G nL cells slots (pc + 8) lv (.int (bI (!(v == 0))) :: st) ws) : EW X G nL cells slots pc lv (.int v :: st) ws := by
  refine e_if_eq C d0 (tgt := pc + 7) (by omega) (fun h => ?_) (fun h => ?_)
  · refine e_iconst C d3 (v := 0) (by decide) ?_
    rw [show (!(v == 0)) = false by simp [h]] at k
    exact k
  · refine e_iconst C d1 (v := 1) (by decide) ?_
    refine e_goto C d2 (tgt := pc + 8) (by omega) ?_
    rw [show (!(v == 0)) = true by simp [h]] at k
    exact k
theorem e_cM (C : EC X G own cc nL) (hX : X.R = room_1) {wo : va_W} {r0 : Int32} {y : MethodName} {fr lo : Nat} {As : List Value} {bytes : ByteArray} {maxL index : Nat} {ret : Option FieldType} {st0 : List Value}
    (hM : Con X.l G y bytes maxL ret (rz fr lo) (.ref (a2 40) :: As) (mF G a2 m.1 m.2) (DI r0 (mF G a2 m'.1 m'.2))) (hy0 : y.cls = R_M) (hc : Cond.code y bytes maxL ret ∈ GT) (hi : Cond.initialized y.cls ∈ GT) (hl : Cond.methodLink own index y ∈ GT) (hin : Cond.instanceMethod y ∈ GT) (hse : Cond.selects y.cls y y ∈ GT) (hd : decode cc pc = .ok (.invokevirtual index, 3)) (hst : st0 = As.reverse ++ .ref (a2 40) :: st) (hy : eY y As.length = true) (hR : eR (rz fr lo) room_1 maxL = true) (hs : Nat.ble (st.map fun v : Value => v.category).sum 8 = true) (hf : cells ≤ X.R.cells ∧ slots ≤ X.R.slots)
    (kk : EW X G nL cells slots (pc + 3) lv (.int r0 :: st) (wo ++ mF G a2 m'.1 m'.2)) : EW X G nL cells slots pc lv st0 (wo ++ mF G a2 m.1 m.2) :=
  e_comm (e_cW C hX 0 hM hc hi hl hin hse hd hst hy hR rfl (show KL[11]? = some (y.cls, T_M, 36) by rw [hy0]; rfl) hs hf (e_comm kk))
theorem e_cK (C : EC X G own cc nL) (hX : X.R = room_1) {wm : va_W} {r0 : Int32} {y : MethodName} {fr lo : Nat} {As : List Value} {bytes : ByteArray} {maxL index : Nat} {ret : Option FieldType} {st0 : List Value}
    (hM : Con X.l G y bytes maxL ret (rz fr lo) (.ref (a 0) :: As) (wK G a c S wd V kd) (DI r0 (wK G a c' S wd V kd))) (hy0 : y.cls = R_C) (hc : Cond.code y bytes maxL ret ∈ GT) (hi : Cond.initialized y.cls ∈ GT) (hl : Cond.methodLink own index y ∈ GT) (hin : Cond.instanceMethod y ∈ GT) (hse : Cond.selects y.cls y y ∈ GT) (hd : decode cc pc = .ok (.invokevirtual index, 3)) (hst : st0 = As.reverse ++ .ref (a 0) :: st) (hy : eY y As.length = true) (hR : eR (rz fr lo) room_1 maxL = true) (hs : Nat.ble (st.map fun v : Value => v.category).sum 8 = true) (hf : cells ≤ X.R.cells ∧ slots ≤ X.R.slots)
    (kk : EW X G nL cells slots (pc + 3) lv (.int r0 :: st) (([(o, aJ G.2.2.2 1 f)] ++ wK G a c' S wd V kd) ++ wm)) : EW X G nL cells slots pc lv st0 (([(o, aJ G.2.2.2 1 f)] ++ wK G a c S wd V kd) ++ wm) := by
  have k1 : EW X G nL cells slots (pc + 3) lv (.int r0 :: st) (wK G a c' S wd V kd ++ (wm ++ [(o, aJ G.2.2.2 1 f)])) := by
    refine e_eq (List.append_assoc _ _ _).symm ?_
    refine e_comm ?_
    exact e_eq (List.append_assoc _ _ _).symm kk
  refine e_eq (List.append_assoc _ _ _) ?_
  refine e_comm ?_
  refine e_eq (List.append_assoc _ _ _) ?_
  exact e_cW C hX 0 hM hc hi hl hin hse hd hst hy hR rfl (show KL[0]? = some (y.cls, T_C, 12) by rw [hy0]; rfl) hs hf k1
end Law1
