/-! THROWS: the ground. The walk's base set down anew where it stands; the statics stay; what the throwers need of a state. -/
theorem rebase {p : Program} {l : Launch} {e : Env} {R : Room} {s : State} {m : MethodId} {args : Array Value} {below : List Frame} {meth : Method} {c : Code} {T : State} {locs : List Loc} {cells slots : Nat} (X : Stand p l e R s m args below meth c T locs cells slots) {k n : Nat} (h1 : cells + k ≤ R.cells) (h2 : slots + n ≤ R.slots) :
    Stand p l e { R with cells := k, slots := n } ({ s with heap := T.heap, slotsUsed := T.slotsUsed } : State) m args below meth c T [] 0 0 := by
  refine ⟨X.admits, X.cas, X.clock, X.frames, ?_, X.hears, X.method, X.code, X.here, X.tail, X.warmed, X.limits, X.bytes, ?_⟩
  · have h := X.room
    have hz := X.heapSize
    have hu := X.used
    have hb := X.book
    simp only [State.hasRoom, Bool.and_eq_true, decide_eq_true_eq] at h ⊢
    obtain ⟨⟨⟨⟨a1, a2⟩, a3⟩, a4⟩, -⟩ := h
    refine ⟨⟨⟨⟨a1, a2⟩, ?_⟩, ?_⟩, hb⟩
    · show T.heap.size + k ≤ _
      omega
    · show T.slotsUsed + n ≤ _
      omega
  · refine ⟨X.same.1, Nat.le_refl _, Nat.le_refl _, ?_, ?_, fun a c0 h => ⟨c0, h, rfl, rfl, fun _ _ => rfl⟩⟩
    · show T.slotsUsed = T.slotsUsed + ((T.heap.toList.drop T.heap.size).map (·.slots.size)).sum
      rw [List.drop_eq_nil_of_le (Nat.le_of_eq (Array.length_toList))]
      rfl
    · show ((T.heap.toList.drop T.heap.size).map (·.slots.size)).sum ≤ 0
      rw [List.drop_eq_nil_of_le (Nat.le_of_eq (Array.length_toList))]
      exact Nat.le_refl _
theorem st_move {cl n d : String} {s U : State} {A A' : Array Value} (hal : s.vm.Alike U.vm) (hh : ∀ (q : Nat) (cell : Cell), s.heap[q]? = some cell → cell.vm.isStatics = true → U.heap[q]? = some cell) (h : (Cond.isRef (.static cl n d)).before A s = true) : (Cond.isRef (.static cl n d)).before A' U = true := by
  have key : ∀ v, (Term.static cl n d).eval A s none [] s = some v → (Term.static cl n d).eval A' U none [] U = some v := by
    intro v hv
    simp only [Term.eval, State.fieldNamed?, Option.bind_eq_bind, Option.bind_eq_some_iff] at hv
    obtain ⟨⟨c1, k1, sl⟩, ⟨⟨c2, k2, i2, f2⟩, hf, hv0⟩, a1, ha1, st1, hst, hv2⟩ := hv
    dsimp only at hv0 hv2 ha1
    split at hv0
    · rename_i hs1
      cases hv0
      split at hv2
      · rename_i his
        obtain ⟨k', hi', ek⟩ := State.fieldFound?_setVm (s := s) hal hf
        have hf' : U.fieldFound? cl n d = some (_, k', i2, f2) := hi'
        have hs' : k'.statics = some a1 := by rw [ek]; exact ha1
        have hc' := hh _ _ hst his
        simp only [Term.eval, State.fieldNamed?, hf', Option.bind_eq_bind, Option.bind_some, hs1, if_true, Option.pure_def, hs', hc', his]
        exact hv2
      · cases hv2
    · cases hv0
  simp only [Cond.before, Cond.holds, Cond.value] at h ⊢
  cases hv : (Term.static cl n d).eval A s none [] s with
  | none => rw [hv] at h; simp at h
  | some v =>
    rw [hv] at h
    rw [key v hv]
    exact h
theorem ls_move {o n d : String} {s U : State} {A A' : Array Value} (hal : s.vm.Alike U.vm) (hh : ∀ (q : Nat) (cell : Cell), s.heap[q]? = some cell → cell.vm.isStatics = true → U.heap[q]? = some cell) (h : (Cond.laysStatic o n d).before A s = true) : (Cond.laysStatic o n d).before A' U = true := by
  simp only [Cond.before, Cond.holds, Cond.value] at h ⊢
  cases hc : s.vm.findClass o with
  | none => rw [hc] at h; simp at h
  | some c =>
    cases hf : s.fieldFound? o n d with
    | none => rw [hc, hf] at h; simp at h
    | some q =>
      obtain ⟨c', k, i, f⟩ := q
      rw [hc, hf] at h
      obtain ⟨k', hi', ek⟩ := State.fieldFound?_setVm (s := s) hal hf
      have hf' : U.fieldFound? o n d = some (c', k', i, f) := hi'
      have hc' : U.vm.findClass o = some c := by rw [hal.findClass]; exact hc
      rw [hc', hf']
      dsimp only at h ⊢
      have e1 : k'.statics = k.statics := by rw [ek]
      have e2 : k'.staticTypes = k.staticTypes := by rw [ek]
      rw [e1, e2]
      cases hs : k.statics with
      | none => rw [hs] at h; simp at h
      | some a =>
        rw [hs] at h
        simp only [Option.bind_some] at h ⊢
        cases hx : s.heap[a]? with
        | none => rw [hx] at h; simp at h
        | some cell =>
          rw [hx] at h
          have his : cell.vm.isStatics = true := by
            cases hv : cell.vm.isStatics with
            | true => rfl
            | false => rw [Option.map_some, hv] at h; simp at h
          rw [hh a cell hx his]
          exact h
def tN0 : String := "java/lang/Throwable"
def tNames : List String := ["java/lang/RuntimeException", "java/lang/Exception"]
/-- words of the tables that are none of GT's -/
def tW : List Cond := [.declares ⟨"java/lang/RuntimeException", "<init>", "(Ljava/lang/String;)V"⟩, .declares ⟨"java/lang/Exception", "<init>", "(Ljava/lang/String;)V"⟩, .declares ⟨"java/lang/Throwable", "<init>", "(Ljava/lang/String;)V"⟩, .castable "java/lang/IndexOutOfBoundsException" "java/lang/IndexOutOfBoundsException", .castable "java/lang/UnsupportedOperationException" "java/lang/UnsupportedOperationException", .castable "java/util/NoSuchElementException" "java/util/NoSuchElementException", .castable "java/lang/IllegalArgumentException" "java/lang/IllegalArgumentException"]
def tR : List (String × String) := [("UNASSIGNED_STACK", "[Ljava/lang/StackTraceElement;"), ("SUPPRESSED_SENTINEL", "Ljava/util/List;")]
def tS : List (Nat × String) := [(92, "no such part"), (113, "too many asks or lines wait"), (126, "no line waits"), (142, "no such ask or what"), (185, "no such way"), (193, "no such what"), (195, "no such catching row"), (199, "no such set"), (212, "a store has 1 to 64 lines")]
/-- what the throwers need of a state -/
def EZ (U : State) : Prop := (∀ w ∈ tW, va_Nw w U) ∧ (∀ x ∈ tR, va_Nw (.isRef (.static "java/lang/Throwable" x.1 x.2)) U ∧ va_Nw (.laysStatic "java/lang/Throwable" x.1 x.2) U) ∧ (∀ x ∈ tS, ∃ q, vk_R "CacheRules" x.1 x.2 q U) ∧ va_Nw (.not (.castable "java/lang/UnsupportedOperationException" "java/lang/IndexOutOfBoundsException")) U
theorem tW_moved {s U : State} (hW : s.WarmedH U.vm) (h : ∀ w ∈ tW, va_Nw w s) : ∀ w ∈ tW, va_Nw w U := by
  intro w hw
  have h0 := h w hw
  simp only [tW, List.mem_cons, List.not_mem_nil, or_false] at hw
  rcases hw with rfl | rfl | rfl | rfl | rfl | rfl | rfl
  · exact va_Nw.warmD hW h0
  · exact va_Nw.warmD hW h0
  · exact va_Nw.warmD hW h0
  · exact va_Nw.warmC hW h0
  · exact va_Nw.warmC hW h0
  · exact va_Nw.warmC hW h0
  · exact va_Nw.warmC hW h0
theorem nc_move {a b : String} {s U : State} (hW : s.WarmedH U.vm) (h : va_Nw (.not (.castable a b)) s) : va_Nw (.not (.castable a b)) U := by
  have h1 : (Cond.not (.castable a b)).before #[] (s.setVm U.vm) = true := Cond.castAtom_setVm hW.alike _ rfl h
  exact h1
theorem EZ.moved {s U : State} (hW : s.WarmedH U.vm) (hh : ∀ (q : Nat) (cell : Cell), s.heap[q]? = some cell → cell.vm.isStatics = true → U.heap[q]? = some cell) (h : EZ s) : EZ U :=
  ⟨tW_moved hW h.1, fun x hx => ⟨st_move hW.alike hh (h.2.1 x hx).1, ls_move hW.alike hh (h.2.1 x hx).2⟩, fun x hx => by
    obtain ⟨q, hq⟩ := h.2.2.1 x hx
    exact ⟨q, hq.warm hW⟩, nc_move hW h.2.2.2⟩
theorem tW_tab : ∀ w ∈ tW, w.onTables = true := by decide
def tA (ic : Nat) (cls : String) : List Cond := Jvm.Bundle.ownAtoms "CacheRules" ic cls tNames
def tRw : List Cond := tR.map (fun x => .isRef (.static "java/lang/Throwable" x.1 x.2)) ++ tR.map (fun x => .laysStatic "java/lang/Throwable" x.1 x.2)
theorem tA_IOOBE : ∀ w ∈ tA 94 "java/lang/IndexOutOfBoundsException", w ∈ GT ∨ w ∈ tW ∨ w ∈ tRw := by decide +kernel
theorem tA_UOE : ∀ w ∈ tA 115 "java/lang/UnsupportedOperationException", w ∈ GT ∨ w ∈ tW ∨ w ∈ tRw := by decide +kernel
theorem tA_IAE : ∀ w ∈ tA 214 "java/lang/IllegalArgumentException", w ∈ GT ∨ w ∈ tW ∨ w ∈ tRw := by decide +kernel
