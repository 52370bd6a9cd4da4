/-! EW: the kit's rows said of surroundings in one value X, of locals lv, stack st and world ws alone. -/
/-- the surroundings of a walk, in one value: program, launch, platform, room, start, method, arguments, frames below, method's row, code, heap at the start, cells that may change, aim -/
abbrev EX : Type _ := Program × Launch × Env × Room × State × MethodId × Array Value × List Frame × Method × Code × Heap × (Nat → Prop) × (State → Prop)
abbrev EX.p (X : EX) : Program := X.1
abbrev EX.l (X : EX) : Launch := X.2.1
abbrev EX.e (X : EX) : Env := X.2.2.1
abbrev EX.R (X : EX) : Room := X.2.2.2.1
abbrev EX.s (X : EX) : State := X.2.2.2.2.1
abbrev EX.m (X : EX) : MethodId := X.2.2.2.2.2.1
abbrev EX.args (X : EX) : Array Value := X.2.2.2.2.2.2.1
abbrev EX.below (X : EX) : List Frame := X.2.2.2.2.2.2.2.1
abbrev EX.meth (X : EX) : Method := X.2.2.2.2.2.2.2.2.1
abbrev EX.c (X : EX) : Code := X.2.2.2.2.2.2.2.2.2.1
abbrev EX.H0 (X : EX) : Heap := X.2.2.2.2.2.2.2.2.2.2.1
abbrev EX.A (X : EX) : Nat → Prop := X.2.2.2.2.2.2.2.2.2.2.2.1
abbrev EX.Q (X : EX) : State → Prop := X.2.2.2.2.2.2.2.2.2.2.2.2
/-- where classes and fields lie, and the classes of int, boolean and long arrays -/
abbrev EG : Type := va_G × ClassId × ClassId × ClassId
abbrev TY (G : EG) : List (ClassId × FieldType) := [(G.2.1, .int), (G.2.2.1, .boolean), (G.2.2.2, .long)]
/-- the methods that are declared without code -/
def eDecl : List MethodName := [⟨"CacheRules$Rule", "use", "(II)V"⟩, ⟨"CacheRules$Rule", "choose", "(I[Z)I"⟩, ⟨"CacheRules$Rule", "settle", "(II[Z)V"⟩, ⟨"CacheRules$Rule", "come", "(II)V"⟩]
/-- what a state's tables hold -/
def EK (G : EG) (U : State) : Prop := va_K G.1 KL (TY G) U ∧ ∀ x ∈ eDecl, va_Nw (.declares x) U
theorem EK.moved {G : EG} {u U : State} (hvm : u.vm.Alike U.vm) (h : EK G u) : EK G U :=
  ⟨va_K.moved hvm h.1, fun x hx => va_tabs rfl (rfl : (u.setVm U.vm).vm = U.vm) (by rw [Cond.declares_setVm hvm]; exact h.2 x hx)⟩
/-- the machine goes on from pc, with these locals, this stack, this world, to the aim -/
def EW (X : EX) (G : EG) (nL cells slots pc : Nat) (lv : List (Nat × Value)) (st : List Value) (ws : va_W) : Prop :=
  ∀ (H : Heap) (locs : List Loc) (ls : Array Slot), va_P G.1 KL ws H → va_D X.A ws → va_S X.A X.H0 H locs → lv_has ls nL lv →
    W X.p X.l X.e X.R X.s X.m X.args X.below X.meth X.c H locs cells slots X.Q (F0 X.m pc ls st)
/-- what holds all along a method's walk -/
def EC (X : EX) (G : EG) (own : String) (cc : ByteArray) (nL : Nat) : Prop :=
  X.p.tables.exec = Jvm.exec ∧ X.c.code = cc ∧ X.c.maxLocals = nL ∧ X.s.vm.findClass own = some X.m.cls ∧ (∀ w ∈ GT, w.before X.args X.s = true) ∧ EK G X.s ∧ ∀ q, X.H0.size ≤ q → X.A q
/-- a local by its number -/
def lvg : List (Nat × Value) → Nat → Option Value
  | [], _ => none
  | (j, v) :: r, i => bif Nat.beq j i then some v else lvg r i
theorem lvg_mem : ∀ {lv : List (Nat × Value)} {i : Nat} {v : Value}, lvg lv i = some v → (i, v) ∈ lv
  | [], _, _, h => by cases h
  | (j, w) :: r, i, v, h => by
    unfold lvg at h
    cases hb : Nat.beq j i with
    | true =>
      rw [hb] at h
      have := Nat.eq_of_beq_eq_true hb
      subst this
      cases h
      exact List.mem_cons_self
    | false =>
      rw [hb] at h
      exact List.mem_cons_of_mem _ (lvg_mem h)
theorem lvg_at {ls : Array Slot} {nL : Nat} {lv : List (Nat × Value)} {i : Nat} {v : Value} (h : lv_has ls nL lv) (hg : lvg lv i = some v) : ls[i]? = some (.val v) := h.2.2 (i, v) (lvg_mem hg)
/-- a local set: the others as they were -/
def lvs (lv : List (Nat × Value)) (i : Nat) (v : Value) : List (Nat × Value) := (i, v) :: lv.filter (fun q => !(q.1 == i) && !(q.1 + 1 == i && q.2.category == 2))
section EV
variable {X : EX} {G : EG} {own : String} {cc : ByteArray} {nL cells slots pc : Nat} {lv : List (Nat × Value)} {st : List Value} {ws : va_W}
/-- other words for the locals: each is there -/
theorem e_lv (lv' : List (Nat × Value)) (h : lv'.map (fun q => lvg lv q.1) = lv'.map (fun q => some q.2)) (k : EW X G nL cells slots pc lv' st ws) : EW X G nL cells slots pc lv st ws := by
  intro H locs ls hP hD hS hl
  refine k H locs ls hP hD hS ⟨hl.1, hl.2.1, fun q hq => ?_⟩
  have h2 : ∀ q ∈ lv', lvg lv q.1 = some q.2 := by
    intro q hq
    obtain ⟨i, hi⟩ := List.getElem?_of_mem hq
    have h3 : (lv'.map (fun q => lvg lv q.1))[i]? = (lv'.map (fun q => some q.2))[i]? := by rw [h]
    rw [List.getElem?_map, List.getElem?_map, hi] at h3
    exact Option.some.inj h3
  exact lvg_at hl (h2 q hq)
theorem e_lv2 {lv' : List (Nat × Value)} (k : EW X G nL cells slots pc lv' st ws) (h : lv'.map (fun q => lvg lv q.1) = lv'.map (fun q => some q.2)) : EW X G nL cells slots pc lv st ws := e_lv lv' h k
/-- the same world in another order -/
theorem e_perm (is : List Nat) {ws' : va_W} (hp : is.filterMap (fun i => ws[i]?) = ws') (hn : va_nd is = true) (hm : is.map (fun i => ws[i]?) = ws'.map some) (k : EW X G nL cells slots pc lv st ws') : EW X G nL cells slots pc lv st ws :=
  fun H locs ls hP hD hS hl => k H locs ls (hP.sub is hp) (hD.sub is hn hm) hS hl
theorem e_comm {wa wb : va_W} (k : EW X G nL cells slots pc lv st (wb ++ wa)) : EW X G nL cells slots pc lv st (wa ++ wb) := by
  intro H locs ls hP hD hS hl
  have key : ∀ {k : Nat} {q : Nat × va_E}, (wb ++ wa)[k]? = some q → ∃ j, (wa ++ wb)[j]? = some q ∧ ((k < wb.length ∧ j = wa.length + k) ∨ (wb.length ≤ k ∧ j = k - wb.length ∧ j < wa.length)) := by
    intro k q h
    by_cases hk : k < wb.length
    · rw [List.getElem?_append_left hk] at h
      refine ⟨wa.length + k, ?_, Or.inl ⟨hk, rfl⟩⟩
      rw [List.getElem?_append_right (by omega), show wa.length + k - wa.length = k by omega]
      exact h
    · rw [List.getElem?_append_right (by omega)] at h
      have hl := (List.getElem?_eq_some_iff.mp h).1
      refine ⟨k - wb.length, ?_, Or.inr ⟨by omega, rfl, hl⟩⟩
      rw [List.getElem?_append_left hl]
      exact h
  refine k H locs ls (fun k q h => ?_) ⟨fun i j p q hi hj hpq => ?_, fun k q h => ?_⟩ hS hl
  · obtain ⟨j, hj, -⟩ := key h
    exact hP j q hj
  · obtain ⟨i', hi', ci⟩ := key hi
    obtain ⟨j', hj', cj⟩ := key hj
    have := hD.1 i' j' p q hi' hj' hpq
    omega
  · obtain ⟨j, hj, -⟩ := key h
    exact hD.2 j q hj
theorem e_eq {ws' : va_W} (h : ws = ws') (k : EW X G nL cells slots pc lv st ws') : EW X G nL cells slots pc lv st ws := h ▸ k
theorem e_st {st' : List Value} (h : st = st') (k : EW X G nL cells slots pc lv st' ws) : EW X G nL cells slots pc lv st ws := h ▸ k
theorem e_top {x y : Int32} (h : x = y) (k : EW X G nL cells slots pc lv (.int y :: st) ws) : EW X G nL cells slots pc lv (.int x :: st) ws := h ▸ k
theorem e_pc {pc' : Nat} (h : pc = pc') (k : EW X G nL cells slots pc' lv st ws) : EW X G nL cells slots pc lv st ws := h ▸ k
theorem e_widen {k n : Nat} (h1 : cells ≤ k) (h2 : slots ≤ n) (kk : EW X G nL k n pc lv st ws) : EW X G nL cells slots pc lv st ws := fun H locs ls hP hD hS hl => W.widen h1 h2 (kk H locs ls hP hD hS hl)

theorem e_iconst (C : EC X G own cc nL) {n : Int} {v : Int32} (hd : decode cc pc = .ok (.iconst n, 1)) (hv : Int32.ofInt n = v) (k : EW X G nL cells slots (pc + 1) lv (.int v :: st) ws) : EW X G nL cells slots pc lv st ws :=
  fun H locs ls hP hD hS hl => lv_iconst C.1 C.2.1 hd hv (k H locs ls hP hD hS hl)
theorem e_bipush (C : EC X G own cc nL) {n : Int} {v : Int32} (hd : decode cc pc = .ok (.bipush n, 2)) (hv : (Int8.ofInt n).toInt32 = v) (k : EW X G nL cells slots (pc + 2) lv (.int v :: st) ws) : EW X G nL cells slots pc lv st ws :=
  fun H locs ls hP hD hS hl => lv_bipush C.1 C.2.1 hd hv (k H locs ls hP hD hS hl)
theorem e_sipush (C : EC X G own cc nL) {n : Int} {v : Int32} (hd : decode cc pc = .ok (.sipush n, 3)) (hv : (Int16.ofInt n).toInt32 = v) (k : EW X G nL cells slots (pc + 3) lv (.int v :: st) ws) : EW X G nL cells slots pc lv st ws :=
  fun H locs ls hP hD hS hl => lv_sipush C.1 C.2.1 hd hv (k H locs ls hP hD hS hl)
theorem e_ldc (C : EC X G own cc nL) {i : Nat} {v : Int32} (hc : Jvm.Cond.constant own i v ∈ GT) (hd : decode cc pc = .ok (.ldc i, 2)) (k : EW X G nL cells slots (pc + 2) lv (.int v :: st) ws) : EW X G nL cells slots pc lv st ws :=
  fun H locs ls hP hD hS hl => lv_ldc C.1 C.2.1 C.2.2.2.1 (C.2.2.2.2.1 _ hc) hd (k H locs ls hP hD hS hl)
theorem e_ldcw (C : EC X G own cc nL) {i : Nat} {v : Int32} (hc : Jvm.Cond.constant own i v ∈ GT) (hd : decode cc pc = .ok (.ldc_w i, 3)) (k : EW X G nL cells slots (pc + 3) lv (.int v :: st) ws) : EW X G nL cells slots pc lv st ws :=
  fun H locs ls hP hD hS hl => lv_ldcw C.1 C.2.1 C.2.2.2.1 (C.2.2.2.2.1 _ hc) hd (k H locs ls hP hD hS hl)
theorem e_iload_n (C : EC X G own cc nL) {n : Fin 4} {x : Int32} (hd : decode cc pc = .ok (.iload_n n, 1)) (hg : lvg lv n.val = some (.int x)) (k : EW X G nL cells slots (pc + 1) lv (.int x :: st) ws) : EW X G nL cells slots pc lv st ws :=
  fun H locs ls hP hD hS hl => lv_iload_n C.1 C.2.1 hd rfl (lvg_at hl hg) (k H locs ls hP hD hS hl)
theorem e_iload (C : EC X G own cc nL) {i : Nat} {x : Int32} (hd : decode cc pc = .ok (.iload i, 2)) (hg : lvg lv i = some (.int x)) (k : EW X G nL cells slots (pc + 2) lv (.int x :: st) ws) : EW X G nL cells slots pc lv st ws :=
  fun H locs ls hP hD hS hl => lv_iload C.1 C.2.1 hd (lvg_at hl hg) (k H locs ls hP hD hS hl)
theorem e_aload_n (C : EC X G own cc nL) {n : Fin 4} {x : Nat} (hd : decode cc pc = .ok (.aload_n n, 1)) (hg : lvg lv n.val = some (.ref x)) (k : EW X G nL cells slots (pc + 1) lv (.ref x :: st) ws) : EW X G nL cells slots pc lv st ws :=
  fun H locs ls hP hD hS hl => lv_aload_n C.1 C.2.1 hd rfl (lvg_at hl hg) (k H locs ls hP hD hS hl)
theorem e_aload (C : EC X G own cc nL) {i : Nat} {x : Nat} (hd : decode cc pc = .ok (.aload i, 2)) (hg : lvg lv i = some (.ref x)) (k : EW X G nL cells slots (pc + 2) lv (.ref x :: st) ws) : EW X G nL cells slots pc lv st ws :=
  fun H locs ls hP hD hS hl => lv_aload C.1 C.2.1 hd (lvg_at hl hg) (k H locs ls hP hD hS hl)
theorem e_istore_n (C : EC X G own cc nL) {n : Fin 4} {x : Int32} (hd : decode cc pc = .ok (.istore_n n, 1)) (hn : Nat.blt n.val nL = true) (k : EW X G nL cells slots (pc + 1) (lvs lv n.val (.int x)) st ws) : EW X G nL cells slots pc lv (.int x :: st) ws :=
  fun H locs ls hP hD hS hl => lv_istore_n C.1 C.2.1 hd rfl hl (Nat.blt_eq.mp hn) rfl (fun ls hl => k H locs ls hP hD hS hl)
theorem e_istore (C : EC X G own cc nL) {i : Nat} {x : Int32} (hd : decode cc pc = .ok (.istore i, 2)) (hn : Nat.blt i nL = true) (k : EW X G nL cells slots (pc + 2) (lvs lv i (.int x)) st ws) : EW X G nL cells slots pc lv (.int x :: st) ws :=
  fun H locs ls hP hD hS hl => lv_istore C.1 C.2.1 hd hl (Nat.blt_eq.mp hn) rfl (fun ls hl => k H locs ls hP hD hS hl)
theorem e_astore_n (C : EC X G own cc nL) {n : Fin 4} {x : Nat} (hd : decode cc pc = .ok (.astore_n n, 1)) (hn : Nat.blt n.val nL = true) (k : EW X G nL cells slots (pc + 1) (lvs lv n.val (.ref x)) st ws) : EW X G nL cells slots pc lv (.ref x :: st) ws :=
  fun H locs ls hP hD hS hl => lv_astore_n C.1 C.2.1 hd rfl hl (Nat.blt_eq.mp hn) rfl (fun ls hl => k H locs ls hP hD hS hl)
theorem e_astore (C : EC X G own cc nL) {i : Nat} {x : Nat} (hd : decode cc pc = .ok (.astore i, 2)) (hn : Nat.blt i nL = true) (k : EW X G nL cells slots (pc + 2) (lvs lv i (.ref x)) st ws) : EW X G nL cells slots pc lv (.ref x :: st) ws :=
  fun H locs ls hP hD hS hl => lv_astore C.1 C.2.1 hd hl (Nat.blt_eq.mp hn) rfl (fun ls hl => k H locs ls hP hD hS hl)
theorem e_iinc (C : EC X G own cc nL) {i : Nat} {n : Int} {x v : Int32} (hd : decode cc pc = .ok (.iinc i n, 3)) (hg : lvg lv i = some (.int x)) (hv : x + Int32.ofInt n = v) (hn : Nat.blt i nL = true) (k : EW X G nL cells slots (pc + 3) (lvs lv i (.int v)) st ws) : EW X G nL cells slots pc lv st ws := by
  intro H locs ls hP hD hS hl
  obtain ⟨j, hj⟩ := List.getElem?_of_mem (lvg_mem hg)
  exact lv_iinc C.1 C.2.1 hd hl hj hv (Nat.blt_eq.mp hn) rfl (fun ls hl => k H locs ls hP hD hS hl)
theorem e_iadd (C : EC X G own cc nL) {x y : Int32} (hd : decode cc pc = .ok (.iadd, 1)) (k : EW X G nL cells slots (pc + 1) lv (.int (x + y) :: st) ws) : EW X G nL cells slots pc lv (.int y :: .int x :: st) ws :=
  fun H locs ls hP hD hS hl => lv_iadd C.1 C.2.1 hd (k H locs ls hP hD hS hl)
theorem e_isub (C : EC X G own cc nL) {x y : Int32} (hd : decode cc pc = .ok (.isub, 1)) (k : EW X G nL cells slots (pc + 1) lv (.int (x - y) :: st) ws) : EW X G nL cells slots pc lv (.int y :: .int x :: st) ws :=
  fun H locs ls hP hD hS hl => lv_isub C.1 C.2.1 hd (k H locs ls hP hD hS hl)
theorem e_imul (C : EC X G own cc nL) {x y : Int32} (hd : decode cc pc = .ok (.imul, 1)) (k : EW X G nL cells slots (pc + 1) lv (.int (x * y) :: st) ws) : EW X G nL cells slots pc lv (.int y :: .int x :: st) ws :=
  fun H locs ls hP hD hS hl => lv_imul C.1 C.2.1 hd (k H locs ls hP hD hS hl)
theorem e_iand (C : EC X G own cc nL) {x y : Int32} (hd : decode cc pc = .ok (.iand, 1)) (k : EW X G nL cells slots (pc + 1) lv (.int (x &&& y) :: st) ws) : EW X G nL cells slots pc lv (.int y :: .int x :: st) ws :=
  fun H locs ls hP hD hS hl => lv_iand C.1 C.2.1 hd (k H locs ls hP hD hS hl)
theorem e_ior (C : EC X G own cc nL) {x y : Int32} (hd : decode cc pc = .ok (.ior, 1)) (k : EW X G nL cells slots (pc + 1) lv (.int (x ||| y) :: st) ws) : EW X G nL cells slots pc lv (.int y :: .int x :: st) ws :=
  fun H locs ls hP hD hS hl => lv_ior C.1 C.2.1 hd (k H locs ls hP hD hS hl)
theorem e_ixor (C : EC X G own cc nL) {x y : Int32} (hd : decode cc pc = .ok (.ixor, 1)) (k : EW X G nL cells slots (pc + 1) lv (.int (x ^^^ y) :: st) ws) : EW X G nL cells slots pc lv (.int y :: .int x :: st) ws :=
  fun H locs ls hP hD hS hl => lv_ixor C.1 C.2.1 hd (k H locs ls hP hD hS hl)
theorem e_ishl (C : EC X G own cc nL) {x y : Int32} (hd : decode cc pc = .ok (.ishl, 1)) (k : EW X G nL cells slots (pc + 1) lv (.int (x <<< (y &&& 31)) :: st) ws) : EW X G nL cells slots pc lv (.int y :: .int x :: st) ws :=
  fun H locs ls hP hD hS hl => lv_ishl C.1 C.2.1 hd (k H locs ls hP hD hS hl)
theorem e_ishr (C : EC X G own cc nL) {x y : Int32} (hd : decode cc pc = .ok (.ishr, 1)) (k : EW X G nL cells slots (pc + 1) lv (.int (x >>> (y &&& 31)) :: st) ws) : EW X G nL cells slots pc lv (.int y :: .int x :: st) ws :=
  fun H locs ls hP hD hS hl => lv_ishr C.1 C.2.1 hd (k H locs ls hP hD hS hl)
theorem e_iushr (C : EC X G own cc nL) {x y v : Int32} (hd : decode cc pc = .ok (.iushr, 1)) (hv : (x.toUInt32 >>> (y.toUInt32 &&& Int32.toUInt32 31)).toInt32 = v) (k : EW X G nL cells slots (pc + 1) lv (.int v :: st) ws) : EW X G nL cells slots pc lv (.int y :: .int x :: st) ws :=
  fun H locs ls hP hD hS hl => lv_iushr C.1 C.2.1 hd hv (k H locs ls hP hD hS hl)
theorem e_idiv (C : EC X G own cc nL) {x y : Int32} (hd : decode cc pc = .ok (.idiv, 1)) (hne : ¬ y = 0) (k : EW X G nL cells slots (pc + 1) lv (.int (x / y) :: st) ws) : EW X G nL cells slots pc lv (.int y :: .int x :: st) ws :=
  fun H locs ls hP hD hS hl => lv_idiv C.1 C.2.1 hd hne (k H locs ls hP hD hS hl)
theorem e_irem (C : EC X G own cc nL) {x y : Int32} (hd : decode cc pc = .ok (.irem, 1)) (hne : ¬ y = 0) (k : EW X G nL cells slots (pc + 1) lv (.int (x - x / y * y) :: st) ws) : EW X G nL cells slots pc lv (.int y :: .int x :: st) ws :=
  fun H locs ls hP hD hS hl => lv_irem C.1 C.2.1 hd hne (k H locs ls hP hD hS hl)
theorem e_ineg (C : EC X G own cc nL) {x : Int32} (hd : decode cc pc = .ok (.ineg, 1)) (k : EW X G nL cells slots (pc + 1) lv (.int (-x) :: st) ws) : EW X G nL cells slots pc lv (.int x :: st) ws :=
  fun H locs ls hP hD hS hl => lv_ineg C.1 C.2.1 hd (k H locs ls hP hD hS hl)
theorem e_i2l (C : EC X G own cc nL) {x : Int32} {v : Int64} (hd : decode cc pc = .ok (.i2l, 1)) (hv : x.toInt64 = v) (k : EW X G nL cells slots (pc + 1) lv (.long v :: st) ws) : EW X G nL cells slots pc lv (.int x :: st) ws :=
  fun H locs ls hP hD hS hl => lv_i2l C.1 C.2.1 hd hv (k H locs ls hP hD hS hl)
theorem e_dup (C : EC X G own cc nL) {va : Value} (hd : decode cc pc = .ok (.dup, 1)) (hva : va.category = 1) (k : EW X G nL cells slots (pc + 1) lv (va :: va :: st) ws) : EW X G nL cells slots pc lv (va :: st) ws :=
  fun H locs ls hP hD hS hl => lv_dup C.1 C.2.1 hd hva (k H locs ls hP hD hS hl)
theorem e_pop (C : EC X G own cc nL) {va : Value} (hd : decode cc pc = .ok (.pop, 1)) (hva : va.category = 1) (k : EW X G nL cells slots (pc + 1) lv st ws) : EW X G nL cells slots pc lv (va :: st) ws :=
  fun H locs ls hP hD hS hl => lv_pop C.1 C.2.1 hd hva (k H locs ls hP hD hS hl)
theorem e_dup_x1 (C : EC X G own cc nL) {va vb : Value} (hd : decode cc pc = .ok (.dup_x1, 1)) (hva : va.category = 1) (hvb : vb.category = 1) (k : EW X G nL cells slots (pc + 1) lv (va :: vb :: va :: st) ws) : EW X G nL cells slots pc lv (va :: vb :: st) ws :=
  fun H locs ls hP hD hS hl => lv_dup_x1 C.1 C.2.1 hd hva hvb (k H locs ls hP hD hS hl)
theorem e_dup2 (C : EC X G own cc nL) {va vb : Value} (hd : decode cc pc = .ok (.dup2, 1)) (hva : va.category = 1) (hvb : vb.category = 1) (k : EW X G nL cells slots (pc + 1) lv (va :: vb :: va :: vb :: st) ws) : EW X G nL cells slots pc lv (va :: vb :: st) ws :=
  fun H locs ls hP hD hS hl => lv_dup2_11 C.1 C.2.1 hd hva hvb (k H locs ls hP hD hS hl)
theorem e_if_eq (C : EC X G own cc nL) {x : Int32} {off : Int} {tgt : Nat} (hd : decode cc pc = .ok (.ifCond .eq off, 3)) (ht : (pc : Int) + off = (tgt : Int)) (kt : x = 0 → EW X G nL cells slots tgt lv st ws) (kf : ¬ x = 0 → EW X G nL cells slots (pc + 3) lv st ws) : EW X G nL cells slots pc lv (.int x :: st) ws :=
  fun H locs ls hP hD hS hl => lv_if_eq C.1 C.2.1 hd ht (fun h => kt h H locs ls hP hD hS hl) (fun h => kf h H locs ls hP hD hS hl)
theorem e_icmp_eq (C : EC X G own cc nL) {x y : Int32} {off : Int} {tgt : Nat} (hd : decode cc pc = .ok (.if_icmp .eq off, 3)) (ht : (pc : Int) + off = (tgt : Int)) (kt : x = y → EW X G nL cells slots tgt lv st ws) (kf : ¬ x = y → EW X G nL cells slots (pc + 3) lv st ws) : EW X G nL cells slots pc lv (.int y :: .int x :: st) ws :=
  fun H locs ls hP hD hS hl => lv_icmp_eq C.1 C.2.1 hd ht (fun h => kt h H locs ls hP hD hS hl) (fun h => kf h H locs ls hP hD hS hl)
theorem e_if_lt (C : EC X G own cc nL) {x : Int32} {off : Int} {tgt : Nat} (hd : decode cc pc = .ok (.ifCond .lt off, 3)) (ht : (pc : Int) + off = (tgt : Int)) (kt : x < 0 → EW X G nL cells slots tgt lv st ws) (kf : ¬ x < 0 → EW X G nL cells slots (pc + 3) lv st ws) : EW X G nL cells slots pc lv (.int x :: st) ws :=
  fun H locs ls hP hD hS hl => lv_if_lt C.1 C.2.1 hd ht (fun h => kt h H locs ls hP hD hS hl) (fun h => kf h H locs ls hP hD hS hl)
theorem e_icmp_lt (C : EC X G own cc nL) {x y : Int32} {off : Int} {tgt : Nat} (hd : decode cc pc = .ok (.if_icmp .lt off, 3)) (ht : (pc : Int) + off = (tgt : Int)) (kt : x < y → EW X G nL cells slots tgt lv st ws) (kf : ¬ x < y → EW X G nL cells slots (pc + 3) lv st ws) : EW X G nL cells slots pc lv (.int y :: .int x :: st) ws :=
  fun H locs ls hP hD hS hl => lv_icmp_lt C.1 C.2.1 hd ht (fun h => kt h H locs ls hP hD hS hl) (fun h => kf h H locs ls hP hD hS hl)
theorem e_if_ge (C : EC X G own cc nL) {x : Int32} {off : Int} {tgt : Nat} (hd : decode cc pc = .ok (.ifCond .ge off, 3)) (ht : (pc : Int) + off = (tgt : Int)) (kt : 0 ≤ x → EW X G nL cells slots tgt lv st ws) (kf : ¬ 0 ≤ x → EW X G nL cells slots (pc + 3) lv st ws) : EW X G nL cells slots pc lv (.int x :: st) ws :=
  fun H locs ls hP hD hS hl => lv_if_ge C.1 C.2.1 hd ht (fun h => kt h H locs ls hP hD hS hl) (fun h => kf h H locs ls hP hD hS hl)
theorem e_icmp_ge (C : EC X G own cc nL) {x y : Int32} {off : Int} {tgt : Nat} (hd : decode cc pc = .ok (.if_icmp .ge off, 3)) (ht : (pc : Int) + off = (tgt : Int)) (kt : y ≤ x → EW X G nL cells slots tgt lv st ws) (kf : ¬ y ≤ x → EW X G nL cells slots (pc + 3) lv st ws) : EW X G nL cells slots pc lv (.int y :: .int x :: st) ws :=
  fun H locs ls hP hD hS hl => lv_icmp_ge C.1 C.2.1 hd ht (fun h => kt h H locs ls hP hD hS hl) (fun h => kf h H locs ls hP hD hS hl)
theorem e_if_gt (C : EC X G own cc nL) {x : Int32} {off : Int} {tgt : Nat} (hd : decode cc pc = .ok (.ifCond .gt off, 3)) (ht : (pc : Int) + off = (tgt : Int)) (kt : 0 < x → EW X G nL cells slots tgt lv st ws) (kf : ¬ 0 < x → EW X G nL cells slots (pc + 3) lv st ws) : EW X G nL cells slots pc lv (.int x :: st) ws :=
  fun H locs ls hP hD hS hl => lv_if_gt C.1 C.2.1 hd ht (fun h => kt h H locs ls hP hD hS hl) (fun h => kf h H locs ls hP hD hS hl)
theorem e_icmp_gt (C : EC X G own cc nL) {x y : Int32} {off : Int} {tgt : Nat} (hd : decode cc pc = .ok (.if_icmp .gt off, 3)) (ht : (pc : Int) + off = (tgt : Int)) (kt : y < x → EW X G nL cells slots tgt lv st ws) (kf : ¬ y < x → EW X G nL cells slots (pc + 3) lv st ws) : EW X G nL cells slots pc lv (.int y :: .int x :: st) ws :=
  fun H locs ls hP hD hS hl => lv_icmp_gt C.1 C.2.1 hd ht (fun h => kt h H locs ls hP hD hS hl) (fun h => kf h H locs ls hP hD hS hl)
theorem e_if_le (C : EC X G own cc nL) {x : Int32} {off : Int} {tgt : Nat} (hd : decode cc pc = .ok (.ifCond .le off, 3)) (ht : (pc : Int) + off = (tgt : Int)) (kt : x ≤ 0 → EW X G nL cells slots tgt lv st ws) (kf : ¬ x ≤ 0 → EW X G nL cells slots (pc + 3) lv st ws) : EW X G nL cells slots pc lv (.int x :: st) ws :=
  fun H locs ls hP hD hS hl => lv_if_le C.1 C.2.1 hd ht (fun h => kt h H locs ls hP hD hS hl) (fun h => kf h H locs ls hP hD hS hl)
theorem e_icmp_le (C : EC X G own cc nL) {x y : Int32} {off : Int} {tgt : Nat} (hd : decode cc pc = .ok (.if_icmp .le off, 3)) (ht : (pc : Int) + off = (tgt : Int)) (kt : x ≤ y → EW X G nL cells slots tgt lv st ws) (kf : ¬ x ≤ y → EW X G nL cells slots (pc + 3) lv st ws) : EW X G nL cells slots pc lv (.int y :: .int x :: st) ws :=
  fun H locs ls hP hD hS hl => lv_icmp_le C.1 C.2.1 hd ht (fun h => kt h H locs ls hP hD hS hl) (fun h => kf h H locs ls hP hD hS hl)
theorem e_if_ne (C : EC X G own cc nL) {x : Int32} {off : Int} {tgt : Nat} (hd : decode cc pc = .ok (.ifCond .ne off, 3)) (ht : (pc : Int) + off = (tgt : Int)) (kt : ¬ x = 0 → EW X G nL cells slots tgt lv st ws) (kf : x = 0 → EW X G nL cells slots (pc + 3) lv st ws) : EW X G nL cells slots pc lv (.int x :: st) ws :=
  fun H locs ls hP hD hS hl => lv_if_ne C.1 C.2.1 hd ht (fun h => kt h H locs ls hP hD hS hl) (fun h => kf h H locs ls hP hD hS hl)
theorem e_icmp_ne (C : EC X G own cc nL) {x y : Int32} {off : Int} {tgt : Nat} (hd : decode cc pc = .ok (.if_icmp .ne off, 3)) (ht : (pc : Int) + off = (tgt : Int)) (kt : ¬ x = y → EW X G nL cells slots tgt lv st ws) (kf : x = y → EW X G nL cells slots (pc + 3) lv st ws) : EW X G nL cells slots pc lv (.int y :: .int x :: st) ws :=
  fun H locs ls hP hD hS hl => lv_icmp_ne C.1 C.2.1 hd ht (fun h => kt h H locs ls hP hD hS hl) (fun h => kf h H locs ls hP hD hS hl)
theorem e_goto (C : EC X G own cc nL) {off : Int} {tgt : Nat} (hd : decode cc pc = .ok (.goto off, 3)) (ht : (pc : Int) + off = (tgt : Int)) (k : EW X G nL cells slots tgt lv st ws) : EW X G nL cells slots pc lv st ws :=
  fun H locs ls hP hD hS hl => lv_goto C.1 C.2.1 hd ht (k H locs ls hP hD hS hl)
theorem e_tableOut (C : EC X G own cc nL) {dflt lo hi : Int} {offs : Array Int} {len : Nat} {x : Int32} {tgt : Nat} (hd : decode cc pc = .ok (.tableswitch dflt lo hi offs, len)) (h : x.toInt < lo ∨ hi < x.toInt) (ht : (pc : Int) + dflt = (tgt : Int)) (k : EW X G nL cells slots tgt lv st ws) : EW X G nL cells slots pc lv (.int x :: st) ws :=
  fun H locs ls hP hD hS hl => lv_tableOut C.1 C.2.1 hd h ht (k H locs ls hP hD hS hl)
theorem e_tableIn (C : EC X G own cc nL) {dflt lo hi : Int} {offs : Array Int} {len : Nat} {x : Int32} {off : Int} {tgt : Nat} (hd : decode cc pc = .ok (.tableswitch dflt lo hi offs, len)) (h1 : ¬ x.toInt < lo) (h2 : ¬ hi < x.toInt) (ho : offs[(x.toInt - lo).toNat]? = some off) (ht : (pc : Int) + off = (tgt : Int)) (k : EW X G nL cells slots tgt lv st ws) : EW X G nL cells slots pc lv (.int x :: st) ws :=
  fun H locs ls hP hD hS hl => lv_tableIn C.1 C.2.1 hd h1 h2 ho ht (k H locs ls hP hD hS hl)
theorem e_lookup (C : EC X G own cc nL) {dflt : Int} {ps : Array (Int × Int)} {len : Nat} {x : Int32} {off : Int} {tgt : Nat} (hd : decode cc pc = .ok (.lookupswitch dflt ps, len)) (hp : (ps.toList.zip (ps.toList.drop 1)).all (fun (a, next) => a.1 < next.1) = true) (ho : Op.lookupswitch.offset ps.toList dflt x.toInt = off) (ht : (pc : Int) + off = (tgt : Int)) (k : EW X G nL cells slots tgt lv st ws) : EW X G nL cells slots pc lv (.int x :: st) ws :=
  fun H locs ls hP hD hS hl => lv_lookup C.1 C.2.1 hd hp ho ht (k H locs ls hP hD hS hl)
/-- an int array, a boolean array, a long array, at a cell -/
abbrev aI (cA : ClassId) (n : Nat) (f : Nat → Int32) : va_E := .inl (cA, n, .inl f)
abbrev aJ (cA : ClassId) (n : Nat) (f : Nat → Int64) : va_E := .inl (cA, n, .inr (.inl f))
abbrev ob (ci : Nat) (fs : List Value) : va_E := .inr (ci, fs)
theorem e_in {i : Int32} {j n : Nat} (hi : i = nI j) (hj : j < n) (hn : n < 2 ^ 31) : vp_in i n ∧ i.toNatClampNeg = j := by
  subst hi
  exact ⟨vp_in_nI hj hn, nI_clamp (by omega)⟩
theorem e_iald (C : EC X G own cc nL) (q0 t0 : Nat) {a : Nat} {cA : ClassId} {n : Nat} {f : Nat → Int32} {i : Int32} (hd : decode cc pc = .ok (.iaload, 1)) (ha : ws[q0]? = some (a, aI cA n f)) (ht : (TY G)[t0]? = some (cA, .int)) (j : Nat) (hi : i = nI j) (hj : j < n) (hn : n < 2 ^ 31)
    (k : EW X G nL cells slots (pc + 1) lv (.int (f j) :: st) ws) : EW X G nL cells slots pc lv (.int i :: .ref a :: st) ws := by
  obtain ⟨h1, h2⟩ := e_in hi hj hn
  intro H locs ls hP hD hS hl
  have h := k H locs ls hP hD hS hl
  rw [← h2] at h
  exact va_iald C.1 C.2.1 C.2.2.2.2.2.1.1 hP q0 t0 ha ht h1 hd h
theorem e_zald (C : EC X G own cc nL) (q0 t0 : Nat) {a : Nat} {cA : ClassId} {n : Nat} {f : Nat → Int32} {i : Int32} (hd : decode cc pc = .ok (.baload, 1)) (ha : ws[q0]? = some (a, aI cA n f)) (ht : (TY G)[t0]? = some (cA, .boolean)) (j : Nat) (hi : i = nI j) (hj : j < n) (hn : n < 2 ^ 31)
    (k : EW X G nL cells slots (pc + 1) lv (.int (f j) :: st) ws) : EW X G nL cells slots pc lv (.int i :: .ref a :: st) ws := by
  obtain ⟨h1, h2⟩ := e_in hi hj hn
  intro H locs ls hP hD hS hl
  have h := k H locs ls hP hD hS hl
  rw [← h2] at h
  exact va_zald C.1 C.2.1 C.2.2.2.2.2.1.1 hP q0 t0 ha ht h1 hd h
theorem e_lald (C : EC X G own cc nL) (q0 t0 : Nat) {a : Nat} {cA : ClassId} {n : Nat} {f : Nat → Int64} {i : Int32} (hd : decode cc pc = .ok (.laload, 1)) (ha : ws[q0]? = some (a, aJ cA n f)) (ht : (TY G)[t0]? = some (cA, .long)) (j : Nat) (hi : i = nI j) (hj : j < n) (hn : n < 2 ^ 31)
    (k : EW X G nL cells slots (pc + 1) lv (.long (f j) :: st) ws) : EW X G nL cells slots pc lv (.int i :: .ref a :: st) ws := by
  obtain ⟨h1, h2⟩ := e_in hi hj hn
  intro H locs ls hP hD hS hl
  have h := k H locs ls hP hD hS hl
  rw [← h2] at h
  exact va_lald C.1 C.2.1 C.2.2.2.2.2.1.1 hP q0 t0 ha ht h1 hd h
theorem e_iast (C : EC X G own cc nL) (q0 t0 : Nat) {a : Nat} {cA : ClassId} {n : Nat} {f : Nat → Int32} {i x : Int32} (hd : decode cc pc = .ok (.iastore, 1)) (ha : ws[q0]? = some (a, aI cA n f)) (ht : (TY G)[t0]? = some (cA, .int)) (j : Nat) (hi : i = nI j) (hj : j < n) (hn : n < 2 ^ 31)
    (k : EW X G nL cells slots (pc + 1) lv st (ws.set q0 (a, aI cA n (upd f j x)))) : EW X G nL cells slots pc lv (.int x :: .int i :: .ref a :: st) ws := by
  obtain ⟨h1, h2⟩ := e_in hi hj hn
  intro H locs ls hP hD hS hl
  refine va_iast C.1 C.2.1 C.2.2.2.2.2.1.1 hP hD hS q0 t0 ha ht h1 hd fun H1 locs1 hP hD hS => ?_
  rw [h2] at hP hD
  exact k H1 locs1 ls hP hD hS hl
theorem e_zast (C : EC X G own cc nL) (q0 t0 : Nat) {a : Nat} {cA : ClassId} {n : Nat} {f : Nat → Int32} {i x x' : Int32} (hd : decode cc pc = .ok (.bastore, 1)) (ha : ws[q0]? = some (a, aI cA n f)) (ht : (TY G)[t0]? = some (cA, .boolean)) (j : Nat) (hi : i = nI j) (hj : j < n) (hn : n < 2 ^ 31) (hx : vp_nar .boolean x = x')
    (k : EW X G nL cells slots (pc + 1) lv st (ws.set q0 (a, aI cA n (upd f j x')))) : EW X G nL cells slots pc lv (.int x :: .int i :: .ref a :: st) ws := by
  obtain ⟨h1, h2⟩ := e_in hi hj hn
  subst hx
  intro H locs ls hP hD hS hl
  refine va_zast C.1 C.2.1 C.2.2.2.2.2.1.1 hP hD hS q0 t0 ha ht h1 hd fun H1 locs1 hP hD hS => ?_
  rw [h2] at hP hD
  exact k H1 locs1 ls hP hD hS hl
theorem e_last (C : EC X G own cc nL) (q0 t0 : Nat) {a : Nat} {cA : ClassId} {n : Nat} {f : Nat → Int64} {i : Int32} {x : Int64} (hd : decode cc pc = .ok (.lastore, 1)) (ha : ws[q0]? = some (a, aJ cA n f)) (ht : (TY G)[t0]? = some (cA, .long)) (j : Nat) (hi : i = nI j) (hj : j < n) (hn : n < 2 ^ 31)
    (k : EW X G nL cells slots (pc + 1) lv st (ws.set q0 (a, aJ cA n (vp_updL f j x)))) : EW X G nL cells slots pc lv (.long x :: .int i :: .ref a :: st) ws := by
  obtain ⟨h1, h2⟩ := e_in hi hj hn
  intro H locs ls hP hD hS hl
  refine va_last C.1 C.2.1 C.2.2.2.2.2.1.1 hP hD hS q0 t0 ha ht h1 hd fun H1 locs1 hP hD hS => ?_
  rw [h2] at hP hD
  exact k H1 locs1 ls hP hD hS hl
theorem e_alen (C : EC X G own cc nL) (q0 t0 : Nat) {a : Nat} {cA : ClassId} {ty : FieldType} {x : vp_A} (hd : decode cc pc = .ok (.arraylength, 1)) (ha : ws[q0]? = some (a, .inl (cA, x))) (ht : (TY G)[t0]? = some (cA, ty))
    (k : EW X G nL cells slots (pc + 1) lv (.int (nI x.1) :: st) ws) : EW X G nL cells slots pc lv (.ref a :: st) ws :=
  fun H locs ls hP hD hS hl => va_alen C.1 C.2.1 C.2.2.2.2.2.1.1 hP q0 t0 ha ht rfl hd (k H locs ls hP hD hS hl)
/-- fields -/
theorem e_get (C : EC X G own cc nL) (q0 : Nat) {Cn : String} {T : u_T} {N ci index k a : Nat} {fs : List Value} {v : Value} (hin : ∀ w ∈ u_ws Cn T N, w ∈ GT) (hf : Cond.fieldLink own index (T k).1 (T k).2.1 (T k).2.2.1 ∈ GT) (hd : decode cc pc = .ok (.getfield index, 3)) (he : ws[q0]? = some (a, ob ci fs)) (hc : KL[ci]? = some (Cn, T, N)) (hk : Nat.blt k N = true) (hv : fs[k]? = some v)
    (kk : EW X G nL cells slots (pc + 3) lv (v :: st) ws) : EW X G nL cells slots pc lv (.ref a :: st) ws :=
  fun H locs ls hP hD hS hl => va_get C.1 C.2.1 C.2.2.2.2.1 hin C.2.2.2.1 C.2.2.2.2.2.1.1 hP q0 he hc k (Nat.blt_eq.mp hk) (C.2.2.2.2.1 _ hf) (fun _ h => h) hv hd (kk H locs ls hP hD hS hl)
/-- a field that is inherited: javac names it through the lower class -/
theorem e_getI (C : EC X G own cc nL) (q0 : Nat) {Cn ref : String} {T : u_T} {N ci index k a : Nat} {fs : List Value} {v : Value} (hin : ∀ w ∈ u_ws Cn T N, w ∈ GT) (hf : Cond.fieldLink own index ref (T k).2.1 (T k).2.2.1 ∈ GT) (hs : Cond.sameField ref (T k).1 (T k).2.1 (T k).2.2.1 ∈ GT) (hd : decode cc pc = .ok (.getfield index, 3)) (he : ws[q0]? = some (a, ob ci fs)) (hc : KL[ci]? = some (Cn, T, N)) (hk : Nat.blt k N = true) (hv : fs[k]? = some v)
    (kk : EW X G nL cells slots (pc + 3) lv (v :: st) ws) : EW X G nL cells slots pc lv (.ref a :: st) ws :=
  fun H locs ls hP hD hS hl => va_get C.1 C.2.1 C.2.2.2.2.1 hin C.2.2.2.1 C.2.2.2.2.2.1.1 hP q0 he hc k (Nat.blt_eq.mp hk) (C.2.2.2.2.1 _ hf) (fun x h => u_same (C.2.2.2.2.1 _ hs) x h) hv hd (kk H locs ls hP hD hS hl)
theorem e_put (C : EC X G own cc nL) (q0 : Nat) {Cn : String} {T : u_T} {ty0 : Nat → FieldType} {N ci index k a : Nat} {fs : List Value} {v : Value} {ty : FieldType} (hin : ∀ w ∈ u_ws Cn T N, w ∈ GT) (hty : ∀ k, k < N → parseFieldDescriptor (T k).2.2.1 = some (ty0 k)) (hnm : ∀ a, a < N → ∀ b, b < N → a ≠ b → (T a).2.1 ≠ (T b).2.1) (hf : Cond.fieldLink own index (T k).1 (T k).2.1 (T k).2.2.1 ∈ GT) (hd : decode cc pc = .ok (.putfield index, 3)) (he : ws[q0]? = some (a, ob ci fs)) (hc : KL[ci]? = some (Cn, T, N)) (hk : Nat.blt k N = true) (hfin : (T k).2.2.2 = false) (hl0 : Nat.blt k fs.length = true) (hy : ty0 k = ty) (hn : narrow ty v = v) (hfit : fits ty v = true)
    (kk : EW X G nL cells slots (pc + 3) lv st (ws.set q0 (a, ob ci (fs.set k v)))) : EW X G nL cells slots pc lv (v :: .ref a :: st) ws :=
  fun H locs ls hP hD hS hl => va_put C.1 C.2.1 C.2.2.2.2.1 hin ty0 hty hnm C.2.2.2.1 C.2.2.2.2.2.1.1 hP hD hS q0 he hc k (Nat.blt_eq.mp hk) (C.2.2.2.2.1 _ hf) (fun _ h => h) hfin (by rw [hty k (Nat.blt_eq.mp hk), hy]) hn hfit (Nat.blt_eq.mp hl0) hd (fun H1 locs1 hP hD hS => kk H1 locs1 ls hP hD hS hl)
theorem e_putF (C : EC X G own cc nL) (hi : X.meth.name = "<init>") (q0 : Nat) {Cn : String} {T : u_T} {ty0 : Nat → FieldType} {N ci index k a : Nat} {fs : List Value} {v : Value} {ty : FieldType} (hin : ∀ w ∈ u_ws Cn T N, w ∈ GT) (hty : ∀ k, k < N → parseFieldDescriptor (T k).2.2.1 = some (ty0 k)) (hnm : ∀ a, a < N → ∀ b, b < N → a ≠ b → (T a).2.1 ≠ (T b).2.1) (hf : Cond.fieldLink own index (T k).1 (T k).2.1 (T k).2.2.1 ∈ GT) (hd : decode cc pc = .ok (.putfield index, 3)) (he : ws[q0]? = some (a, ob ci fs)) (hc : KL[ci]? = some (Cn, T, N)) (hk : Nat.blt k N = true) (hfin : (T k).2.2.2 = true) (hdecl : (T k).1 = own) (hl0 : Nat.blt k fs.length = true) (hy : ty0 k = ty) (hn : narrow ty v = v) (hfit : fits ty v = true)
    (kk : EW X G nL cells slots (pc + 3) lv st (ws.set q0 (a, ob ci (fs.set k v)))) : EW X G nL cells slots pc lv (v :: .ref a :: st) ws :=
  fun H locs ls hP hD hS hl => va_putF C.1 C.2.1 C.2.2.2.2.1 hin ty0 hty hnm C.2.2.2.1 C.2.2.2.2.2.1.1 hP hD hS q0 he hc k (Nat.blt_eq.mp hk) (C.2.2.2.2.1 _ hf) (fun _ h => h) hfin hi hdecl (by rw [hty k (Nat.blt_eq.mp hk), hy]) hn hfit (Nat.blt_eq.mp hl0) hd (fun H1 locs1 hP hD hS => kk H1 locs1 ls hP hD hS hl)
/-- a new object, at the world's end -/
theorem e_new (C : EC X G own cc nL) {Cn : String} {T : u_T} {ty0 : Nat → FieldType} {N ci index : Nat} (fs : List Value) (hin : ∀ w ∈ u_ws Cn T N, w ∈ GT) (hty : ∀ k, k < N → parseFieldDescriptor (T k).2.2.1 = some (ty0 k)) (hcl : Cond.classLink own index Cn ∈ GT) (hinst : Cond.instantiable Cn N ∈ GT) (hini : Cond.initialized Cn ∈ GT) (hd : decode cc pc = .ok (.new index, 3)) (hc : KL[ci]? = some (Cn, T, N)) (hfs : ∀ j, j < N → defaultValue (ty0 j) = vp_V fs j) (h1 : cells + 1 ≤ X.R.cells) (h2 : slots + N ≤ X.R.slots)
    (kk : ∀ q : Nat, EW X G nL (cells + 1) (slots + N) (pc + 3) lv (.ref q :: st) (ws ++ [(q, ob ci fs)])) : EW X G nL cells slots pc lv st ws :=
  fun H locs ls hP hD hS hl => va_new C.1 C.2.1 C.2.2.2.2.1 hin ty0 hty C.2.2.2.1 (C.2.2.2.2.1 _ hcl) (C.2.2.2.2.1 _ hinst) (C.2.2.2.2.1 _ hini) C.2.2.2.2.2.1.1 hP hD hS C.2.2.2.2.2.2 hc hfs h1 h2 hd (fun q H1 hP hD hS => kk q H1 locs ls hP hD hS hl)
/-- a new array of ints or booleans (tys[t0] names its class), at the world's end -/
theorem e_newa (C : EC X G own cc nL) (t0 : Nat) {atype : ArrayType} {ty : FieldType} {cA : ClassId} (harr : Cond.arrayClass ty ∈ GT) (hty : newarray.typeOf atype = ty) (ht : (TY G)[t0]? = some (cA, ty)) (hp : ∀ x : ClassId, va_RA X.s x ty → X.s.vm.findClass ("[" ++ ty.toString) = some x) (hz : defaultValue ty = .int 0) (hcb : componentBytes ty ≤ 4) {n : Int32} (N : Nat) (hd : decode cc pc = .ok (.newarray atype, 2)) (hn : n = nI N) (hN : N < 2 ^ 20) (h1 : cells + 1 ≤ X.R.cells) (h2 : slots + N ≤ X.R.slots)
    (kk : ∀ q : Nat, EW X G nL (cells + 1) (slots + N) (pc + 2) lv (.ref q :: st) (ws ++ [(q, aI cA N (fun _ => 0))])) : EW X G nL cells slots pc lv (.int n :: st) ws := by
  subst hn
  intro H locs ls hP hD hS hl
  have hK := C.2.2.2.2.2.1.1
  refine va_newa C.1 C.2.1 (by rw [hty]; exact C.2.2.2.2.1 _ harr) hty hK hP hD hS C.2.2.2.2.2.2 (N' := N) (a0 := (N, .inl (fun _ => 0))) (fun cA => by rw [vp_cell_i, hz]) (nI_pos (by omega)) (nI_clamp (by omega)) ?_ h1 h2 hd (fun q cB H1 hKB hP hD hS => ?_)
  · calc N * componentBytes ty ≤ N * 4 := Nat.mul_le_mul_left _ hcb
      _ ≤ 536870912 := by omega
  · have e1 := hp _ (hK.2 t0 _ ht).2
    have e2 := hp _ (hKB.2 (TY G).length (cB, ty) (by rw [List.getElem?_append_right (Nat.le_refl _), Nat.sub_self]; rfl)).2
    have : cB = cA := Option.some.inj (e2.symm.trans e1)
    subst this
    exact kk q H1 locs ls hP hD hS hl
end EV
/-! CONTRACTS: from the world ws, called with As, the method gives back r and the world u, with B r u; what lies outside stays. -/
def ePre (G : EG) (As : List Value) (ws : va_W) (sz : Nat) : Array Value → State → Prop := va_Pc As (fun U => U.heap.size = sz ∧ va_P G.1 KL ws U.heap ∧ EK G U ∧ va_D (fun _ => True) ws)
def ePost (G : EG) (B : Option Value → va_W → Prop) (A : Nat → Prop) : Array Value → State → Outcome → State → Prop := fun _ st oc t =>
  (∃ (r : Option Value) (u : va_W), oc = .returned r ∧ B r u ∧ va_P G.1 KL u t.heap ∧ EK G t ∧ va_D A u) ∧ va_F A st t
def Con (l : Launch) (G : EG) (y : MethodName) (cc : ByteArray) (maxL : Nat) (ret : Option FieldType) (rm : Room) (As : List Value) (ws : va_W) (B : Option Value → va_W → Prop) : Prop :=
  ∀ sz : Nat, Met l y (Cond.code y cc maxL ret :: GT) rm (ePre G As ws sz) (ePost G B (va_A ws sz)) rm.cells rm.slots (va_A ws sz)
/-- the aim of a walk is a contract's end -/
def ER (X : EX) (G : EG) (mc ms : Nat) (B : Option Value → va_W → Prop) (ret : Option FieldType) : Prop :=
  X.H0 = X.s.heap ∧ X.meth.sig.returnType = ret ∧ X.meth.locks = false ∧ X.Q = MQ X.below (ePost G B X.A) X.args X.s mc ms X.A
theorem Con.of {l : Launch} {G : EG} {y : MethodName} {rm : Room} {As : List Value} {ws : va_W} {B : Option Value → va_W → Prop} {cc : ByteArray} {maxL : Nat} {ret : Option FieldType} (hy : plainName y.cls = true) (hlen : Nat.ble (lg_sl As).length maxL = true)
    (body : ∀ X : EX, EC X G y.cls cc maxL → ER X G rm.cells rm.slots B ret → X.R = rm → X.l = l → X.meth.name = y.name → EW X G maxL 0 0 0 (lv_args 0 As) [] ws) : Con l G y cc maxL ret rm As ws B := by
  intro sz
  refine Met.ofW (cc := cc) (maxL := maxL) (ret := ret) hy rfl ?_
  intro p e s m args below meth c s₁ Bd hml hv
  obtain ⟨rfl, hsz, hP, hK, hD0⟩ := hv
  subst hsz
  have hl := lv_entry As (n := maxL) (Nat.le_of_ble_eq_true hlen)
  rw [lg_entry_eq]
  have hts := atoms_spec (ws := Cond.code y cc maxL ret :: GT) Bd.pre
  exact body (p, l, e, rm, s, m, As.toArray, below, meth, c, s.heap, va_A ws s.heap.size, MQ below (ePost G B (va_A ws s.heap.size)) As.toArray s rm.cells rm.slots (va_A ws s.heap.size))
    ⟨Bd.exec, Bd.bytes, hml, findClass_of_methodNamed Bd.named, fun w h => hts w (List.mem_cons_of_mem _ h), hK, fun q h => Or.inr h⟩ ⟨rfl, Bd.returns, Bd.notSynchronized, rfl⟩ rfl rfl (name_of_methodNamed Bd.named Bd.method).1 s.heap [] _ hP (hD0.self) va_S.rf hl
section EVR
variable {X : EX} {G : EG} {own : String} {cc : ByteArray} {nL cells slots pc mc ms : Nat} {lv : List (Nat × Value)} {st : List Value} {ws : va_W} {B : Option Value → va_W → Prop}
theorem e_iret (C : EC X G own cc nL) {ty : FieldType} (E : ER X G mc ms B (some ty)) {r : Int32} (hd : decode cc pc = .ok (.ireturn, 1)) (h1 : cells ≤ mc) (h2 : slots ≤ ms) (hn : narrow ty (.int r) = .int r) (hB : B (some (.int r)) ws) : EW X G nL cells slots pc lv [.int r] ws := by
  intro H locs ls hP hD hS hl
  obtain ⟨e0, e1, e2, e3⟩ := E
  rw [e3]
  refine W.widen h1 h2 ?_
  rw [e0] at hS
  exact W.zret C.1 C.2.1 e1 hn (fun t ht hW => ⟨⟨_, ws, rfl, hB, by rw [ht]; exact hP, EK.moved hW.alike C.2.2.2.2.2.1, hD⟩, hS.F ht⟩) hS.2.2 hd e2
theorem e_vret (C : EC X G own cc nL) (E : ER X G mc ms B none) (hd : decode cc pc = .ok (.return_, 1)) (h1 : cells ≤ mc) (h2 : slots ≤ ms) (hB : B none ws) : EW X G nL cells slots pc lv [] ws := by
  intro H locs ls hP hD hS hl
  obtain ⟨e0, e1, e2, e3⟩ := E
  rw [e3]
  refine W.widen h1 h2 ?_
  rw [e0] at hS
  exact W.vret C.1 C.2.1 e1 (fun t ht hW => ⟨⟨_, ws, rfl, hB, by rw [ht]; exact hP, EK.moved hW.alike C.2.2.2.2.2.1, hD⟩, hS.F ht⟩) hS.2.2 hd e2
theorem e_aret (C : EC X G own cc nL) {rt : FieldType} (E : ER X G mc ms B (some rt)) {a : Nat} (hd : decode cc pc = .ok (.areturn, 1)) (hrt : (∃ n, rt = .object n) ∨ ∃ t, rt = .array t) (h1 : cells ≤ mc) (h2 : slots ≤ ms) (hB : B (some (.ref a)) ws) : EW X G nL cells slots pc lv [.ref a] ws := by
  intro H locs ls hP hD hS hl
  obtain ⟨e0, e1, e2, e3⟩ := E
  rw [e3]
  refine W.widen h1 h2 ?_
  rw [e0] at hS
  exact W.aret C.1 C.2.1 e1 hrt (Or.inr ⟨a, rfl⟩) (fun t ht hW => ⟨⟨_, ws, rfl, hB, by rw [ht]; exact hP, EK.moved hW.alike C.2.2.2.2.2.1, hD⟩, hS.F ht⟩) hS.2.2 hd e2
/-- the callee's cells stand first; behind the call what it left stands in their place, the rest is as it was -/
theorem e_run {wc wr : va_W} {st0 : List Value} {a : Array Value} {mc ms : Nat}
    (hr : ∀ (H : Heap) (locs : List Loc) (ls : Array Slot), va_P G.1 KL wc H → va_D (fun _ => True) wc → ls.size = nL → va_Run X.p X.l X.e X.R X.s X.m X.args X.below X.meth X.c H locs cells slots mc ms (F0 X.m pc ls st0) st (ePost G B (va_A wc H.size) a) (va_A wc H.size))
    (hA : ∀ q, X.H0.size ≤ q → X.A q)
    (kk : ∀ (r : Option Value) (u : va_W), B r u → EW X G nL (cells + mc) (slots + ms) (pc + 3) lv (r.toList ++ st) (u ++ wr)) : EW X G nL cells slots pc lv st0 (wc ++ wr) := by
  intro H locs ls hP hD hS hl
  have hPc : va_P G.1 KL wc H := fun k q h => hP k q (by rw [List.getElem?_append_left (List.getElem?_eq_some_iff.mp h).1]; exact h)
  have hDc : va_D X.A wc := ⟨fun i j p q hi hj h => hD.1 i j p q (by rw [List.getElem?_append_left (List.getElem?_eq_some_iff.mp hi).1]; exact hi) (by rw [List.getElem?_append_left (List.getElem?_eq_some_iff.mp hj).1]; exact hj) h, fun k q h => hD.2 k q (by rw [List.getElem?_append_left (List.getElem?_eq_some_iff.mp h).1]; exact h)⟩
  have toR : ∀ {k : Nat} {q : Nat × va_E}, wr[k]? = some q → (wc ++ wr)[wc.length + k]? = some q := fun {k q} h => by
    rw [List.getElem?_append_right (by omega), show wc.length + k - wc.length = k by omega]
    exact h
  have hF : ∀ q, va_A wc H.size q → X.A q := by
    intro q h
    rcases h with ⟨k, e, h⟩ | h
    · exact hDc.2 k (q, e) h
    · exact hA q (Nat.le_trans hS.1 h)
  intro T hT Y
  obtain ⟨v, st₀, t, T', L, h0, Y', hL, e1, e2, ⟨⟨r, u, hv, hB, hP1, hK1, hD1⟩, hz, hk⟩, go⟩ := hr H locs ls hPc (hDc.weaken (fun _ _ _ _ => trivial)) hl.1 T hT Y
  cases hv
  rw [h0] at hz hk
  have apart : ∀ {k : Nat} {q : Nat × va_E}, wr[k]? = some q → q.1 < H.size ∧ ¬ va_A wc H.size q.1 := by
    intro k q h
    have hlt := (hP _ q (toR h)).lt
    refine ⟨hlt, fun z => ?_⟩
    rcases z with ⟨k2, e, z⟩ | z
    · have hk2 := (List.getElem?_eq_some_iff.mp z).1
      have := hD.1 (wc.length + k) k2 q (q.1, e) (toR h) (by rw [List.getElem?_append_left hk2]; exact z) rfl
      omega
    · omega
  have hPn : va_P G.1 KL (u ++ wr) T'.heap := by
    rw [e1]
    exact va_P.app hP1 (fun k q h => (hP _ q (toR h)).kept (hk q.1 (apart h).1 (apart h).2))
  have hDn : va_D X.A (u ++ wr) := va_D.app (hD1.weaken (fun k q _ h => hF q.1 h)) ⟨fun i j p q hi hj h => by have := hD.1 _ _ p q (toR hi) (toR hj) h; omega, fun k q h => hD.2 _ q (toR h)⟩ (fun i j x y hx hy hxy => (apart hy).2 (by rw [← hxy]; exact hD1.2 i x hx))
  have hSn : va_S X.A X.H0 T'.heap (locs ++ L) := ⟨Nat.le_trans hS.1 (by rw [e1]; exact hz), fun q h1 h2 => by rw [e1, hk q (Nat.lt_of_lt_of_le h1 hS.1) (fun z => h2 (hF q z))]; exact hS.2.1 q h1 h2, fun q hq => by
    rcases List.mem_append.mp hq with h | h
    · exact hS.2.2 q h
    · exact hF _ (hL q h)⟩
  obtain ⟨t2, a1, b1⟩ := kk v u hB T'.heap (locs ++ L) ls hPn hDn hSn hl T' rfl Y'
  exact ⟨t2, go t2 a1, b1⟩
theorem ePre_blind {As : List Value} {ws : va_W} {sz : Nat} : FrameBlind (ePre G As ws sz) := fun a U g mk q => by
  obtain ⟨q0, q1, qP, qK, qD⟩ := q
  exact ⟨q0, q1, qP, EK.moved (u := U) (U := U.calling g mk a) (Vm.Alike.refl U.vm) qK, qD⟩
theorem e_pre (C : EC X G own cc nL) {As : List Value} {ws : va_W} {H : Heap} (hP : va_P G.1 KL ws H) (hD : va_D (fun _ => True) ws) : ∀ U : State, U.heap = H → X.s.WarmedH U.vm → ePre G As ws H.size As.toArray U := fun U hU hW => ⟨rfl, by rw [hU], by rw [hU]; exact hP, EK.moved hW.alike C.2.2.2.2.2.1, hD⟩
/-- what every call asks of the callee's words -/
theorem e_words {s : State} {args : Array Value} (hts : ∀ w ∈ GT, w.before args s = true) {y : MethodName} {cc : ByteArray} {maxL : Nat} {ret : Option FieldType} (hc : Cond.code y cc maxL ret ∈ GT) : ∀ w ∈ Cond.code y cc maxL ret :: GT, ∀ (a' : Array Value) (U : State), s.WarmedH U.vm → w.before a' U = true := by
  intro w hw a' U hW
  have h : w ∈ GT := (List.mem_cons.mp hw).elim (fun e => e ▸ hc) id
  exact word_at hW (gt_good w h) (hts w h)
/-- what a method is, decided by program: its class isn't one of the two, and it takes n -/
def eY (y : MethodName) (n : Nat) : Bool := !(y.cls == "java/lang/invoke/MethodHandle") && !(y.cls == "java/lang/invoke/VarHandle") && ((parseMethodDescriptor y.desc).map (fun d => d.parameters.length) == some n)
theorem eY.of {y : MethodName} {n : Nat} (h : eY y n = true) : (y.cls ≠ "java/lang/invoke/MethodHandle" ∧ y.cls ≠ "java/lang/invoke/VarHandle") ∧ ∀ sig, parseMethodDescriptor y.desc = some sig → n = sig.parameters.length := by
  simp only [eY, Bool.and_eq_true, Bool.not_eq_true', beq_eq_false_iff_ne, beq_iff_eq, ne_eq] at h
  refine ⟨h.1, fun sig hs => ?_⟩
  have h2 := h.2
  rw [hs] at h2
  exact (Option.some.inj h2).symm
def eR (rm R : Room) (maxL : Nat) : Bool := Nat.ble (rm.frames + 1) R.frames && Nat.ble (8 + (maxL + 11) + rm.locals) R.locals
theorem eR.of {rm R : Room} {maxL : Nat} (h : eR rm R maxL = true) : rm.frames + 1 ≤ R.frames ∧ 8 + (maxL + 11) + rm.locals ≤ R.locals := by
  simp only [eR, Bool.and_eq_true] at h
  exact ⟨Nat.le_of_ble_eq_true h.1, Nat.le_of_ble_eq_true h.2⟩
theorem e_cb (C : EC X G own cc nL) {y : MethodName} {rm : Room} {bytes : ByteArray} {maxL n index : Nat} {ret : Option FieldType} (hc : Cond.code y bytes maxL ret ∈ GT) (hi : Cond.initialized y.cls ∈ GT) (hl : Cond.methodLink own index y ∈ GT) (hy : eY y n = true) (hR : eR rm X.R maxL = true) :
    CallB X.R X.s X.args own index y bytes maxL ret (Cond.code y bytes maxL ret :: GT) rm rm.cells rm.slots n :=
  ⟨rfl, rfl, (eR.of hR).1, (eR.of hR).2, e_words C.2.2.2.2.1 hc, List.mem_cons_self, C.2.2.2.2.1 _ hc, C.2.2.2.2.1 _ hi, (eY.of hy).1, (eY.of hy).2, C.2.2.2.2.1 _ hl⟩
/-- a virtual call of a method of the receiver's own class -/
theorem e_callV (C : EC X G own cc nL) {wc wr : va_W} {y : MethodName} {rm : Room} (As : List Value) {bytes : ByteArray} {maxL index b ci : Nat} (q0 : Nat) {ret : Option FieldType} {T : u_T} {N : Nat} {fs : List Value}
    (hM : Con X.l G y bytes maxL ret rm (.ref b :: As) wc B) (hc : Cond.code y bytes maxL ret ∈ GT) (hi : Cond.initialized y.cls ∈ GT) (hl : Cond.methodLink own index y ∈ GT) (hin : Cond.instanceMethod y ∈ GT) (hse : Cond.selects y.cls y y ∈ GT) (hd : decode cc pc = .ok (.invokevirtual index, 3)) (hy : eY y As.length = true) (hR : eR rm X.R maxL = true) (hk : KL[ci]? = some (y.cls, T, N)) (he : wc[q0]? = some (b, ob ci fs)) (hs : Nat.ble (st.map fun v : Value => v.category).sum 8 = true) (hf : cells + rm.cells ≤ X.R.cells ∧ slots + rm.slots ≤ X.R.slots)
    (kk : ∀ (r : Option Value) (u : va_W), B r u → EW X G nL (cells + rm.cells) (slots + rm.slots) (pc + 3) lv (r.toList ++ st) (u ++ wr)) : EW X G nL cells slots pc lv (As.reverse ++ .ref b :: st) (wc ++ wr) :=
  e_run (fun H locs ls hP hD hz => va_runV (As := As) (rest := st) (C := y.cls) ⟨C.1, C.2.1, C.2.2.1, C.2.2.2.1, C.2.2.2.2.1⟩ (hM H.size) ⟨e_cb C hc hi hl hy hR, C.2.2.2.2.1 _ hin, C.2.2.2.2.1 _ hse⟩ ⟨ePre_blind, va_recv C.2.2.2.2.2.1.1 hP hk he, e_pre C hP hD⟩ rfl rfl hz rfl (lv_room (Nat.le_of_ble_eq_true hs)) hd hf) C.2.2.2.2.2.2 kk
theorem e_callS (C : EC X G own cc nL) {wc wr : va_W} {y : MethodName} {rm : Room} (As : List Value) {bytes : ByteArray} {maxL index : Nat} {ret : Option FieldType}
    (hM : Con X.l G y bytes maxL ret rm As wc B) (hc : Cond.code y bytes maxL ret ∈ GT) (hi : Cond.initialized y.cls ∈ GT) (hl : Cond.methodLink own index y ∈ GT) (hst : Cond.static y ∈ GT) (hd : decode cc pc = .ok (.invokestatic index, 3)) (hy : eY y As.length = true) (hR : eR rm X.R maxL = true) (hs : Nat.ble (st.map fun v : Value => v.category).sum 8 = true) (hf : cells + rm.cells ≤ X.R.cells ∧ slots + rm.slots ≤ X.R.slots)
    (kk : ∀ (r : Option Value) (u : va_W), B r u → EW X G nL (cells + rm.cells) (slots + rm.slots) (pc + 3) lv (r.toList ++ st) (u ++ wr)) : EW X G nL cells slots pc lv (As.reverse ++ st) (wc ++ wr) :=
  e_run (fun H locs ls hP hD hz => va_runS (As := As) (rest := st) ⟨C.1, C.2.1, C.2.2.1, C.2.2.2.1, C.2.2.2.2.1⟩ (hM H.size) ⟨e_cb C hc hi hl hy hR, C.2.2.2.2.1 _ hst⟩ ⟨ePre_blind, e_pre C hP hD⟩ rfl rfl hz rfl (lv_room (Nat.le_of_ble_eq_true hs)) hd hf) C.2.2.2.2.2.2 kk
theorem e_callI (C : EC X G own cc nL) {wc wr : va_W} {y : MethodName} {rm : Room} (As : List Value) {bytes : ByteArray} {maxL index b : Nat}
    (hM : Con X.l G y bytes maxL none rm (.ref b :: As) wc B) (hc : Cond.code y bytes maxL none ∈ GT) (hi : Cond.initialized y.cls ∈ GT) (hl : Cond.methodLink own index y ∈ GT) (hin : Cond.instanceMethod y ∈ GT) (hd : decode cc pc = .ok (.invokespecial index, 3)) (hy : eY y As.length = true) (hyn : y.name = "<init>") (hR : eR rm X.R maxL = true) (hs : Nat.ble (st.map fun v : Value => v.category).sum 8 = true) (hf : cells + rm.cells ≤ X.R.cells ∧ slots + rm.slots ≤ X.R.slots)
    (kk : ∀ (r : Option Value) (u : va_W), B r u → EW X G nL (cells + rm.cells) (slots + rm.slots) (pc + 3) lv (r.toList ++ st) (u ++ wr)) : EW X G nL cells slots pc lv (As.reverse ++ .ref b :: st) (wc ++ wr) :=
  e_run (fun H locs ls hP hD hz => va_runI (As := As) (rest := st) ⟨C.1, C.2.1, C.2.2.1, C.2.2.2.1, C.2.2.2.2.1⟩ (hM H.size) ⟨e_cb C hc hi hl hy hR, hyn, C.2.2.2.2.1 _ hin⟩ ⟨ePre_blind, e_pre C hP hD⟩ rfl rfl hz rfl (lv_room (Nat.le_of_ble_eq_true hs)) hd hf) C.2.2.2.2.2.2 kk
/-- a call of a method that the class Rule declares, answered by the receiver's class -/
theorem e_callU (C : EC X G own cc nL) {wc wr : va_W} {x y : MethodName} {rm : Room} (As : List Value) {bytes : ByteArray} {maxL index b ci : Nat} (q0 : Nat) {ret : Option FieldType} {T : u_T} {N : Nat} {fs : List Value}
    (hM : Con X.l G y bytes maxL ret rm (.ref b :: As) wc B) (hc : Cond.code y bytes maxL ret ∈ GT) (hi : Cond.initialized y.cls ∈ GT) (hl : Cond.methodLink own index x ∈ GT) (hsm : Cond.sameMethod x.cls x.cls x.name x.desc ∈ GT) (hde : x ∈ eDecl) (hin : Cond.instanceMethod y ∈ GT) (hse : Cond.selects y.cls x y ∈ GT) (hd : decode cc pc = .ok (.invokevirtual index, 3)) (hy : eY x As.length = true) (hR : eR rm X.R maxL = true) (hk : KL[ci]? = some (y.cls, T, N)) (he : wc[q0]? = some (b, ob ci fs)) (hs : Nat.ble (st.map fun v : Value => v.category).sum 8 = true) (hf : cells + rm.cells ≤ X.R.cells ∧ slots + rm.slots ≤ X.R.slots)
    (kk : ∀ (r : Option Value) (u : va_W), B r u → EW X G nL (cells + rm.cells) (slots + rm.slots) (pc + 3) lv (r.toList ++ st) (u ++ wr)) : EW X G nL cells slots pc lv (As.reverse ++ .ref b :: st) (wc ++ wr) :=
  e_run (fun H locs ls hP hD hz => va_runU (As := As) (rest := st) (C := y.cls) (owner := x.cls) (x := x) ⟨C.1, C.2.1, C.2.2.1, C.2.2.2.1, C.2.2.2.2.1⟩ (hM H.size)
    ⟨⟨rfl, rfl, (eR.of hR).1, (eR.of hR).2, e_words C.2.2.2.2.1 hc, List.mem_cons_self⟩, C.2.2.2.2.1 _ hc, C.2.2.2.2.1 _ hi, (eY.of hy).1, (eY.of hy).2, C.2.2.2.2.1 _ hl, C.2.2.2.2.1 _ hsm, va_Decl.abs (C.2.2.2.2.2.1.2 x hde), C.2.2.2.2.1 _ hse, C.2.2.2.2.1 _ hin⟩
    ⟨ePre_blind, va_recv C.2.2.2.2.2.1.1 hP hk he, e_pre C hP hD⟩ rfl rfl hz rfl (lv_room (Nat.le_of_ble_eq_true hs)) hd hf) C.2.2.2.2.2.2 kk
/-- a room that makes nothing -/
abbrev rz (fr lo : Nat) : Room := { frames := fr, cells := 0, slots := 0, locals := lo }
/-- one answer, one world behind -/
abbrev DI (r0 : Int32) (W' : va_W) : Option Value → va_W → Prop := fun r u => r = some (.int r0) ∧ u = W'
abbrev DV (W' : va_W) : Option Value → va_W → Prop := fun r u => r = none ∧ u = W'
theorem e_cV (C : EC X G own cc nL) {Rm : Room} (hX : X.R = Rm) {wc : va_W} {y : MethodName} {fr lo : Nat} {As : List Value} {bytes : ByteArray} {maxL index b ci : Nat} (q0 : Nat) {ret : Option FieldType} {T : u_T} {N : Nat} {fs st0 : List Value}
    (hM : Con X.l G y bytes maxL ret (rz fr lo) (.ref b :: As) wc B) (hc : Cond.code y bytes maxL ret ∈ GT) (hi : Cond.initialized y.cls ∈ GT) (hl : Cond.methodLink own index y ∈ GT) (hin : Cond.instanceMethod y ∈ GT) (hse : Cond.selects y.cls y y ∈ GT) (hd : decode cc pc = .ok (.invokevirtual index, 3)) (hst : st0 = As.reverse ++ .ref b :: st) (hy : eY y As.length = true) (hR : eR (rz fr lo) Rm maxL = true) (he : wc[q0]? = some (b, ob ci fs)) (hk : KL[ci]? = some (y.cls, T, N)) (hs : Nat.ble (st.map fun v : Value => v.category).sum 8 = true) (hf : cells ≤ X.R.cells ∧ slots ≤ X.R.slots)
    (kk : ∀ (r : Option Value) (u : va_W), B r u → EW X G nL cells slots (pc + 3) lv (r.toList ++ st) u) : EW X G nL cells slots pc lv st0 wc := by
  subst hst
  have h := e_callV (wr := []) (cells := cells) (slots := slots) (lv := lv) C As q0 hM hc hi hl hin hse hd hy (by rw [hX]; exact hR) hk he hs hf (fun r u hB => by rw [List.append_nil]; exact kk r u hB)
  rw [List.append_nil] at h
  exact h
theorem e_cVi (C : EC X G own cc nL) {Rm : Room} (hX : X.R = Rm) {wc W' : va_W} {r0 : Int32} {y : MethodName} {fr lo : Nat} {As : List Value} {bytes : ByteArray} {maxL index b ci : Nat} (q0 : Nat) {ret : Option FieldType} {T : u_T} {N : Nat} {fs st0 : List Value}
    (hM : Con X.l G y bytes maxL ret (rz fr lo) (.ref b :: As) wc (DI r0 W')) (hc : Cond.code y bytes maxL ret ∈ GT) (hi : Cond.initialized y.cls ∈ GT) (hl : Cond.methodLink own index y ∈ GT) (hin : Cond.instanceMethod y ∈ GT) (hse : Cond.selects y.cls y y ∈ GT) (hd : decode cc pc = .ok (.invokevirtual index, 3)) (hst : st0 = As.reverse ++ .ref b :: st) (hy : eY y As.length = true) (hR : eR (rz fr lo) Rm maxL = true) (he : wc[q0]? = some (b, ob ci fs)) (hk : KL[ci]? = some (y.cls, T, N)) (hs : Nat.ble (st.map fun v : Value => v.category).sum 8 = true) (hf : cells ≤ X.R.cells ∧ slots ≤ X.R.slots)
    (kk : EW X G nL cells slots (pc + 3) lv (.int r0 :: st) W') : EW X G nL cells slots pc lv st0 wc :=
  e_cV C hX q0 hM hc hi hl hin hse hd hst hy hR he hk hs hf (fun r u hB => by obtain ⟨rfl, rfl⟩ := hB; exact kk)
theorem e_cVv (C : EC X G own cc nL) {Rm : Room} (hX : X.R = Rm) {wc W' : va_W} {y : MethodName} {fr lo : Nat} {As : List Value} {bytes : ByteArray} {maxL index b ci : Nat} (q0 : Nat) {ret : Option FieldType} {T : u_T} {N : Nat} {fs st0 : List Value}
    (hM : Con X.l G y bytes maxL ret (rz fr lo) (.ref b :: As) wc (DV W')) (hc : Cond.code y bytes maxL ret ∈ GT) (hi : Cond.initialized y.cls ∈ GT) (hl : Cond.methodLink own index y ∈ GT) (hin : Cond.instanceMethod y ∈ GT) (hse : Cond.selects y.cls y y ∈ GT) (hd : decode cc pc = .ok (.invokevirtual index, 3)) (hst : st0 = As.reverse ++ .ref b :: st) (hy : eY y As.length = true) (hR : eR (rz fr lo) Rm maxL = true) (he : wc[q0]? = some (b, ob ci fs)) (hk : KL[ci]? = some (y.cls, T, N)) (hs : Nat.ble (st.map fun v : Value => v.category).sum 8 = true) (hf : cells ≤ X.R.cells ∧ slots ≤ X.R.slots)
    (kk : EW X G nL cells slots (pc + 3) lv st W') : EW X G nL cells slots pc lv st0 wc :=
  e_cV C hX q0 hM hc hi hl hin hse hd hst hy hR he hk hs hf (fun r u hB => by obtain ⟨rfl, rfl⟩ := hB; exact kk)
theorem e_cSi (C : EC X G own cc nL) {Rm : Room} (hX : X.R = Rm) {wc W' : va_W} {r0 : Int32} {y : MethodName} {fr lo : Nat} {As : List Value} {bytes : ByteArray} {maxL index : Nat} {ret : Option FieldType} {st0 : List Value}
    (hM : Con X.l G y bytes maxL ret (rz fr lo) As wc (DI r0 W')) (hc : Cond.code y bytes maxL ret ∈ GT) (hi : Cond.initialized y.cls ∈ GT) (hl : Cond.methodLink own index y ∈ GT) (hsta : Cond.static y ∈ GT) (hd : decode cc pc = .ok (.invokestatic index, 3)) (hst : st0 = As.reverse ++ st) (hy : eY y As.length = true) (hR : eR (rz fr lo) Rm maxL = true) (hs : Nat.ble (st.map fun v : Value => v.category).sum 8 = true) (hf : cells ≤ X.R.cells ∧ slots ≤ X.R.slots)
    (kk : EW X G nL cells slots (pc + 3) lv (.int r0 :: st) W') : EW X G nL cells slots pc lv st0 wc := by
  subst hst
  have h := e_callS (wr := []) (cells := cells) (slots := slots) (lv := lv) C As hM hc hi hl hsta hd hy (by rw [hX]; exact hR) hs hf (fun r u hB => by rw [List.append_nil]; obtain ⟨rfl, rfl⟩ := hB; exact kk)
  rw [List.append_nil] at h
  exact h
end EVR
