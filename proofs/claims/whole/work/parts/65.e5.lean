/-! rule 6 -/
theorem trC_eq {T : Int32} {g : Nat → Int32} {b0 P : Nat} (hP : P ≤ 8) (h : ∀ n, 1 ≤ n → n < 8 → bitN T n = tb (g (b0 + n))) : ∀ (t node : Nat), 1 ≤ node → trC T P t node = trM g b0 P t node
  | 0, _, _ => rfl
  | t + 1, node, hn => by
    unfold trC trM
    by_cases h1 : node < P
    · rw [if_pos h1, if_pos h1, h node hn (by omega)]
      exact trC_eq hP h t _ (by omega)
    · rw [if_neg h1, if_neg h1]
theorem bitN_1 (T : Int32) (n : Nat) : bitN T n ≤ 1 := by
  unfold bitN
  omega
theorem trC_lt {T : Int32} {P : Nat} : ∀ (t node : Nat), node < 2 * P → trC T P t node < 2 * P
  | 0, _, h => h
  | t + 1, node, h => by
    unfold trC
    have := bitN_1 T node
    split
    · exact trC_lt t _ (by omega)
    · exact h
theorem trC_ge {T : Int32} {P : Nat} : ∀ (t node : Nat), P ≤ node * 2 ^ t → P ≤ trC T P t node
  | 0, node, h => by
    have : node * 2 ^ 0 = node := by rw [Nat.pow_zero, Nat.mul_one]
    rw [this] at h
    exact h
  | t + 1, node, h => by
    unfold trC
    split
    · refine trC_ge t _ (Nat.le_trans h ?_)
      rw [Nat.pow_succ, Nat.mul_comm (2 ^ t) 2, ← Nat.mul_assoc, Nat.mul_comm node 2]
      exact Nat.mul_le_mul_right _ (by omega)
    · omega
theorem twO_fst {lk : Nat → Bool} {wd P N : Nat} : ∀ (m k t j : Nat), fst1 (fun k => decide ((N + k) % P < wd) && !lk ((N + k) % P)) k m = some j → m ≤ t → twO lk wd P t ((N + k) % P) = some ((N + j) % P)
  | 0, _, _, _, h, _ => by cases h
  | m + 1, k, 0, _, _, h => by omega
  | m + 1, k, t + 1, j, h, ht => by
    unfold fst1 at h
    unfold twO
    by_cases hp : (decide ((N + k) % P < wd) && !lk ((N + k) % P)) = true
    · rw [if_pos hp] at h
      cases h
      simp only [Bool.and_eq_true, decide_eq_true_eq, Bool.not_eq_true'] at hp
      rw [if_pos hp]
    · rw [if_neg hp] at h
      rw [if_neg]
      · rw [Nat.mod_add_mod]
        exact twO_fst m (k + 1) t j h (by omega)
      · intro q
        refine hp ?_
        simp only [Bool.and_eq_true, decide_eq_true_eq, Bool.not_eq_true']
        exact q
/-! rule 8 -/
theorem mxA_ge {lk : Nat → Bool} {g : Nat → Int32} : ∀ (q k : Nat) (y : Int32), y ≤ mxA lk g y k q
  | 0, _, y => Int32.le_refl y
  | q + 1, k, y => by
    unfold mxA
    refine Int32.le_trans ?_ (mxA_ge q (k + 1) _)
    split
    · rename_i h
      rw [Int32.le_iff_toInt_le] at h ⊢
      omega
    · exact Int32.le_refl y
theorem mxA_l {lk : Nat → Bool} {g : Nat → Int32} {y : Int32} {k : Nat} (q : Nat) (h : lk k = true ∨ g k ≤ y) : mxA lk g y k (q + 1) = mxA lk g y (k + 1) q := by
  conv => lhs; unfold mxA
  rw [if_neg]
  intro z
  rcases h with h | h
  · rw [h] at z; cases z.1
  · exact z.2 h
theorem mxA_g {lk : Nat → Bool} {g : Nat → Int32} {y : Int32} {k : Nat} (q : Nat) (h : lk k = false) (h2 : ¬ g k ≤ y) : mxA lk g y k (q + 1) = mxA lk g (g k) (k + 1) q := by
  conv => lhs; unfold mxA
  rw [if_pos ⟨h, h2⟩]
theorem fst_l {P : Nat → Bool} {k q : Nat} (h : P k = false) : fst1 P k (q + 1) = fst1 P (k + 1) q := by
  conv => lhs; unfold fst1
  rw [h, if_neg (by decide)]
theorem fst_g {P : Nat → Bool} {k q : Nat} (h : P k = true) : fst1 P k (q + 1) = some k := by
  unfold fst1
  rw [if_pos h]
theorem pick_age {lk : Nat → Bool} {g : Nat → Int32} : ∀ (q k j : Nat), pickB lk (fun x y => !decide (g x ≤ g y)) (some j) k q = if mxA lk g (g j) k q = g j then some j else fst1 (fun i => !lk i && (g i == mxA lk g (g j) k q)) k q
  | 0, k, j => by
    show some j = _
    rw [if_pos]
    rfl
  | q + 1, k, j => by
    unfold pickB
    cases hl : lk k with
    | true =>
      rw [if_pos rfl, mxA_l q (Or.inl hl), pick_age q (k + 1) j, fst_l (by rw [hl]; rfl)]
    | false =>
      rw [if_neg (by decide)]
      dsimp only
      by_cases hb : g k ≤ g j
      · rw [if_neg (by simp [hb]), mxA_l q (Or.inr hb), pick_age q (k + 1) j]
        by_cases hM : mxA lk g (g j) (k + 1) q = g j
        · rw [if_pos hM, if_pos hM]
        · rw [if_neg hM, if_neg hM, fst_l]
          rw [hl]
          simp only [Bool.not_false, Bool.true_and, beq_eq_false_iff_ne, ne_eq]
          intro z
          have h1 := mxA_ge (lk := lk) (g := g) q (k + 1) (g j)
          rw [← z] at h1 hM
          rw [Int32.le_iff_toInt_le] at h1 hb
          exact hM (Int32.toInt_inj.mp (by omega))
      · rw [if_pos (by simp [hb]), mxA_g q hl hb, pick_age q (k + 1) k]
        have h1 := mxA_ge (lk := lk) (g := g) q (k + 1) (g k)
        have hne : ¬ mxA lk g (g k) (k + 1) q = g j := by
          intro e
          rw [e] at h1
          exact hb h1
        rw [if_neg hne]
        by_cases hM : mxA lk g (g k) (k + 1) q = g k
        · rw [if_pos hM, fst_g (by rw [hl, hM]; simp)]
        · rw [if_neg hM, fst_l]
          rw [hl]
          simp only [Bool.not_false, Bool.true_and, beq_eq_false_iff_ne, ne_eq]
          exact fun z => hM z.symm
theorem pick_age0 {lk : Nat → Bool} {g : Nat → Int32} : ∀ (q k : Nat), (∀ i, k ≤ i → i < k + q → 0 ≤ g i) → pickB lk (fun x y => !decide (g x ≤ g y)) none k q = fst1 (fun i => !lk i && (g i == mxA lk g 0 k q)) k q
  | 0, _, _ => rfl
  | q + 1, k, hg => by
    unfold pickB
    cases hl : lk k with
    | true =>
      rw [if_pos rfl, mxA_l q (Or.inl hl), pick_age0 q (k + 1) (fun i i1 i2 => hg i (by omega) (by omega)), fst_l (by rw [hl]; rfl)]
    | false =>
      rw [if_neg (by decide)]
      dsimp only
      have h0 := hg k (Nat.le_refl _) (by omega)
      have e : mxA lk g 0 k (q + 1) = mxA lk g (g k) (k + 1) q := by
        by_cases hz : g k ≤ 0
        · rw [mxA_l q (Or.inr hz)]
          congr 1
          rw [Int32.le_iff_toInt_le] at hz h0
          exact Int32.toInt_inj.mp (by omega)
        · exact mxA_g q hl hz
      rw [e, pick_age q (k + 1) k]
      by_cases hM : mxA lk g (g k) (k + 1) q = g k
      · rw [if_pos hM, fst_g (by rw [hl, hM]; simp)]
      · rw [if_neg hM, fst_l]
        rw [hl]
        simp only [Bool.not_false, Bool.true_and, beq_eq_false_iff_ne, ne_eq]
        exact fun z => hM z.symm
theorem mxA_max {lk : Nat → Bool} {g : Nat → Int32} : ∀ (q k : Nat) (y : Int32) (i : Nat), k ≤ i → i < k + q → lk i = false → g i ≤ mxA lk g y k q
  | 0, k, y, i, h1, h2, _ => by omega
  | q + 1, k, y, i, h1, h2, h3 => by
    unfold mxA
    by_cases he : i = k
    · subst he
      refine Int32.le_trans ?_ (mxA_ge q (i + 1) _)
      by_cases hb : g i ≤ y
      · rw [if_neg (fun z => z.2 hb)]; exact hb
      · rw [if_pos ⟨h3, hb⟩]; exact Int32.le_refl _
    · exact mxA_max q (k + 1) _ i (by omega) (by omega) h3
theorem mxA_sh {lk lk' : Nat → Bool} {g g' : Nat → Int32} {o N : Nat} (hl : ∀ w, w < N → lk w = lk' (o + w)) (hg : ∀ w, w < N → g w = g' (o + w)) : ∀ (m k : Nat) (y : Int32), k + m ≤ N → mxA lk' g' y (o + k) m = mxA lk g y k m
  | 0, _, _, _ => rfl
  | m + 1, k, y, hk => by
    unfold mxA
    rw [← hl k (by omega), ← hg k (by omega)]
    exact mxA_sh hl hg m (k + 1) _ (by omega)
theorem add3 (x y : Int32) : x + (3 - y) = 3 ↔ x = y := by
  constructor
  · intro h
    have h2 : x + (3 - y) - (3 - y) = 3 - (3 - y) := by rw [h]
    rw [Int32.add_sub_cancel] at h2
    rw [h2]
    apply Int32.toBitVec_inj.mp
    simp only [Int32.toBitVec_sub]
    generalize y.toBitVec = b
    bv_omega
  · intro h
    subst h
    apply Int32.toBitVec_inj.mp
    simp only [Int32.toBitVec_sub, Int32.toBitVec_add]
    generalize x.toBitVec = b
    bv_omega
