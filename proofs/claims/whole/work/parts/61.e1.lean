/-! PURE: first and last, shifts -/
theorem fst1_none {P : Nat → Bool} : ∀ {m k : Nat}, fst1 P k m = none ↔ ∀ j, k ≤ j → j < k + m → P j = false
  | 0, k => ⟨fun _ j h1 h2 => by omega, fun _ => rfl⟩
  | m + 1, k => by
    unfold fst1
    by_cases hp : P k = true
    · rw [if_pos hp]
      constructor
      · intro h; cases h
      · intro h; rw [h k (Nat.le_refl _) (by omega)] at hp; cases hp
    · rw [if_neg hp, fst1_none]
      have hp : P k = false := by simpa using hp
      constructor
      · intro h j h1 h2
        by_cases hj : j = k
        · subst hj; exact hp
        · exact h j (by omega) (by omega)
      · intro h j h1 h2
        exact h j (by omega) (by omega)
theorem fst1_min {P : Nat → Bool} : ∀ {m k j : Nat}, fst1 P k m = some j → ∀ i, k ≤ i → i < j → P i = false
  | 0, _, _, h => by cases h
  | m + 1, k, j, h => by
    unfold fst1 at h
    intro i h1 h2
    by_cases hp : P k = true
    · rw [if_pos hp] at h
      cases h
      omega
    · rw [if_neg hp] at h
      by_cases hi : i = k
      · subst hi; simpa using hp
      · exact fst1_min h i (by omega) h2
theorem fst1_of {P : Nat → Bool} {m k j : Nat} (h1 : k ≤ j) (h2 : j < k + m) (hp : P j = true) (hm : ∀ i, k ≤ i → i < j → P i = false) : fst1 P k m = some j := by
  cases h : fst1 P k m with
  | none => rw [fst1_none.mp h j h1 h2] at hp; cases hp
  | some i =>
    have h3 := fst1_some h
    rcases Nat.lt_trichotomy i j with q | q | q
    · rw [hm i h3.1 q] at h3; exact absurd h3.2.2 (by decide)
    · rw [q]
    · rw [fst1_min h j h1 q] at hp; cases hp
theorem fst1_cong {P Q : Nat → Bool} : ∀ {m k : Nat}, (∀ j, k ≤ j → j < k + m → P j = Q j) → fst1 P k m = fst1 Q k m
  | 0, _, _ => rfl
  | m + 1, k, h => by
    unfold fst1
    rw [h k (Nat.le_refl _) (by omega), fst1_cong (fun j h1 h2 => h j (by omega) (by omega))]
theorem fst1_sh (Q : Nat → Bool) (o : Nat) : ∀ m k : Nat, fst1 Q (o + k) m = (fst1 (fun w => Q (o + w)) k m).map (fun w => o + w)
  | 0, _ => rfl
  | m + 1, k => by
    unfold fst1
    by_cases hp : Q (o + k) = true
    · rw [if_pos hp, if_pos hp]; rfl
    · rw [if_neg hp, if_neg hp]
      exact fst1_sh Q o m (k + 1)
theorem fst1_o (Q : Nat → Bool) (o m : Nat) : fst1 Q o m = (fst1 (fun w => Q (o + w)) 0 m).map (fun w => o + w) := fst1_sh Q o m 0
theorem lstG_none {P : Nat → Bool} : ∀ {m k : Nat} {b : Option Nat}, (∀ j, k ≤ j → j < k + m → P j = false) → lstG P b k m = b
  | 0, _, _, _ => rfl
  | m + 1, k, b, h => by
    unfold lstG
    rw [if_neg (by rw [h k (Nat.le_refl _) (by omega)]; decide)]
    exact lstG_none (fun j h1 h2 => h j (by omega) (by omega))
/-- where there is one at most, the last is the first -/
theorem lstG_fst {P : Nat → Bool} : ∀ {m k : Nat}, (∀ i j, k ≤ i → i < k + m → k ≤ j → j < k + m → P i = true → P j = true → i = j) → lstG P none k m = fst1 P k m
  | 0, _, _ => rfl
  | m + 1, k, h => by
    unfold lstG fst1
    by_cases hp : P k = true
    · rw [if_pos hp, if_pos hp]
      refine lstG_none (fun j h1 h2 => ?_)
      cases hj : P j with
      | false => rfl
      | true =>
        have := h k j (Nat.le_refl _) (by omega) (by omega) (by omega) hp hj
        omega
    · rw [if_neg hp, if_neg hp]
      exact lstG_fst (fun i j h1 h2 h3 h4 => h i j (by omega) (by omega) (by omega) (by omega))
theorem pickB_sh {lk lk' : Nat → Bool} {bt bt' : Nat → Nat → Bool} {o N : Nat} (hl : ∀ w, w < N → lk w = lk' (o + w)) (hb : ∀ i j, i < N → j < N → bt i j = bt' (o + i) (o + j)) : ∀ (m k : Nat) (b : Option Nat), k + m ≤ N → (∀ j, b = some j → j < N) → pickB lk' bt' (b.map (fun w => o + w)) (o + k) m = (pickB lk bt b k m).map (fun w => o + w)
  | 0, _, _, _, _ => rfl
  | m + 1, k, b, hk, hbk => by
    unfold pickB
    rw [← hl k (by omega)]
    by_cases h : lk k = true
    · rw [if_pos h, if_pos h]
      exact pickB_sh hl hb m (k + 1) b (by omega) hbk
    · rw [if_neg h, if_neg h]
      cases b with
      | none => exact pickB_sh hl hb m (k + 1) (some k) (by omega) (fun j hj => by cases hj; omega)
      | some i =>
        have hi := hbk i rfl
        dsimp only [Option.map]
        rw [← hb k i (by omega) hi]
        by_cases h2 : bt k i = true
        · rw [if_pos h2, if_pos h2]
          exact pickB_sh hl hb m (k + 1) (some k) (by omega) (fun j hj => by cases hj; omega)
        · rw [if_neg h2, if_neg h2]
          exact pickB_sh hl hb m (k + 1) (some i) (by omega) (fun j hj => by cases hj; omega)
theorem pickB_0 {lk lk' : Nat → Bool} {bt bt' : Nat → Nat → Bool} {o N : Nat} (hl : ∀ w, w < N → lk w = lk' (o + w)) (hb : ∀ i j, i < N → j < N → bt i j = bt' (o + i) (o + j)) : pickB lk' bt' none o N = (pickB lk bt none 0 N).map (fun w => o + w) :=
  pickB_sh hl hb N 0 none (by omega) (fun j hj => by cases hj)
/-- one that is free is found -/
theorem pickB_is {lk : Nat → Bool} {bt : Nat → Nat → Bool} : ∀ {m k : Nat} {b : Option Nat}, (b.isSome = true ∨ ∃ w, k ≤ w ∧ w < k + m ∧ lk w = false) → (pickB lk bt b k m).isSome = true
  | 0, k, b, h => by
    rcases h with h | ⟨w, h1, h2, _⟩
    · exact h
    · omega
  | m + 1, k, b, h => by
    unfold pickB
    refine pickB_is ?_
    by_cases hl : lk k = true
    · rw [if_pos hl]
      rcases h with h | ⟨w, h1, h2, h3⟩
      · exact Or.inl h
      · by_cases hw : w = k
        · subst hw; rw [h3] at hl; cases hl
        · exact Or.inr ⟨w, by omega, by omega, h3⟩
    · rw [if_neg hl]
      left
      cases b with
      | none => rfl
      | some j => dsimp only; split <;> rfl
theorem cntU_sh {lk lk' : Nat → Bool} {o N : Nat} (hl : ∀ w, w < N → lk w = lk' (o + w)) : ∀ (m k c : Nat), k + m ≤ N → cntU lk' c (o + k) m = cntU lk c k m
  | 0, _, _, _ => rfl
  | m + 1, k, c, hk => by
    unfold cntU
    rw [← hl k (by omega)]
    exact cntU_sh hl m (k + 1) _ (by omega)
theorem nthU_sh {lk lk' : Nat → Bool} {o N : Nat} (hl : ∀ w, w < N → lk w = lk' (o + w)) : ∀ (m k t : Nat), k + m ≤ N → nthU lk' t (o + k) m = (nthU lk t k m).map (fun w => o + w)
  | 0, _, _, _ => rfl
  | m + 1, k, t, hk => by
    unfold nthU
    rw [← hl k (by omega)]
    by_cases h : lk k = true
    · rw [if_pos h, if_pos h]
      exact nthU_sh hl m (k + 1) t (by omega)
    · rw [if_neg h, if_neg h]
      by_cases h0 : t = 0
      · rw [if_pos h0, if_pos h0]; rfl
      · rw [if_neg h0, if_neg h0]
        exact nthU_sh hl m (k + 1) (t - 1) (by omega)
theorem cntU_ge (lk : Nat → Bool) : ∀ (m k c : Nat), c ≤ cntU lk c k m
  | 0, _, _ => Nat.le_refl _
  | m + 1, k, c => by
    unfold cntU
    refine Nat.le_trans ?_ (cntU_ge lk m (k + 1) _)
    split <;> omega
theorem cntU_add (lk : Nat → Bool) : ∀ (m k c : Nat), cntU lk c k m = c + cntU lk 0 k m
  | 0, _, _ => rfl
  | m + 1, k, c => by
    unfold cntU
    by_cases h : lk k = true
    · rw [if_pos h, if_pos h]; exact cntU_add lk m (k + 1) c
    · rw [if_neg h, if_neg h, cntU_add lk m (k + 1) (c + 1), cntU_add lk m (k + 1) (0 + 1)]; omega
theorem cntU_pos {lk : Nat → Bool} : ∀ {m k : Nat}, (∃ w, k ≤ w ∧ w < k + m ∧ lk w = false) → cntU lk 0 k m ≠ 0
  | 0, k, ⟨w, h1, h2, _⟩ => by omega
  | m + 1, k, ⟨w, h1, h2, h3⟩ => by
    unfold cntU
    by_cases h : lk k = true
    · rw [if_pos h]
      have hw : w ≠ k := fun e => by rw [e, h] at h3; cases h3
      exact cntU_pos ⟨w, by omega, by omega, h3⟩
    · rw [if_neg h]
      have := cntU_ge lk m (k + 1) (0 + 1)
      omega
theorem nthU_is {lk : Nat → Bool} : ∀ {m k t : Nat}, t < cntU lk 0 k m → (nthU lk t k m).isSome = true
  | 0, _, t, h => by
    have h : t < 0 := h
    omega
  | m + 1, k, t, h => by
    unfold cntU at h
    unfold nthU
    by_cases hl : lk k = true
    · rw [if_pos hl] at h ⊢
      exact nthU_is h
    · rw [if_neg hl] at h ⊢
      by_cases h0 : t = 0
      · rw [if_pos h0]; rfl
      · rw [if_neg h0]
        rw [cntU_add] at h
        exact nthU_is (by omega)
/-- the first without a mark, or the first that is free -/
theorem rndC_eq (lk mk : Nat → Bool) (wy : Nat → Nat) : ∀ (m k : Nat) (b : Option Nat), rndC lk mk wy b k m = match fst1 (fun j => !lk (wy j) && !mk (wy j)) k m with
    | some j => some (wy j)
    | none => match b with
      | some i => some i
      | none => (fst1 (fun j => !lk (wy j)) k m).map wy
  | 0, k, b => by cases b <;> rfl
  | m + 1, k, b => by
    unfold rndC fst1
    cases h1 : lk (wy k) with
    | true =>
      simp only [if_true, Bool.not_true, Bool.false_and, Bool.false_eq_true, if_false]
      exact rndC_eq lk mk wy m (k + 1) b
    | false =>
      cases h2 : mk (wy k) with
      | true =>
        simp only [if_true, Bool.not_true, Bool.and_false, Bool.false_eq_true, if_false, Bool.not_false]
        rw [rndC_eq lk mk wy m (k + 1) _]
        cases fst1 (fun j => !lk (wy j) && !mk (wy j)) (k + 1) m with
        | some j => rfl
        | none => cases b <;> rfl
      | false => simp only [Bool.not_false, Bool.and_true, if_true, Bool.false_eq_true, if_false]
