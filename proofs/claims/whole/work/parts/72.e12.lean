/-! ASKS TIED -/
/-- the lines that wait, each once, in their order -/
def DL (g : Nat → Int32) : Nat → List Int32
  | 0 => []
  | n + 1 => if g n ∈ DL g n then DL g n else DL g n ++ [g n]
theorem DL_mem (g : Nat → Int32) (y : Int32) : ∀ n, y ∈ DL g n ↔ ∃ i, i < n ∧ g i = y
  | 0 => by
    constructor
    · intro h
      cases h
    · rintro ⟨i, h, _⟩
      omega
  | n + 1 => by
    have ih := DL_mem g y n
    unfold DL
    by_cases h : g n ∈ DL g n
    · rw [if_pos h, ih]
      constructor
      · rintro ⟨i, h1, h2⟩
        exact ⟨i, by omega, h2⟩
      · rintro ⟨i, h1, h2⟩
        by_cases he : i = n
        · obtain ⟨j, j1, j2⟩ := (DL_mem g (g n) n).mp h
          exact ⟨j, j1, by rw [j2, ← he, h2]⟩
        · exact ⟨i, by omega, h2⟩
    · rw [if_neg h, List.mem_append, ih, List.mem_singleton]
      constructor
      · rintro (⟨i, h1, h2⟩ | h2)
        · exact ⟨i, by omega, h2⟩
        · exact ⟨n, by omega, h2.symm⟩
      · rintro ⟨i, h1, h2⟩
        by_cases he : i = n
        · right; rw [← he, h2]
        · left; exact ⟨i, by omega, h2⟩
theorem DL_nodup (g : Nat → Int32) : ∀ n, (DL g n).Nodup
  | 0 => List.nodup_nil
  | n + 1 => by
    unfold DL
    by_cases h : g n ∈ DL g n
    · rw [if_pos h]; exact DL_nodup g n
    · rw [if_neg h, List.nodup_append]
      refine ⟨DL_nodup g n, by simp, ?_⟩
      intro a ha b hb
      rw [List.mem_singleton] at hb
      rw [hb]
      intro e
      rw [e] at ha
      exact h ha
theorem DL_cong {g h : Nat → Int32} : ∀ {n : Nat}, (∀ i, i < n → g i = h i) → DL g n = DL h n
  | 0, _ => rfl
  | n + 1, e => by
    unfold DL
    rw [DL_cong (n := n) (fun i hi => e i (by omega)), e n (by omega)]
theorem DL_len (g : Nat → Int32) : ∀ n, (DL g n).length = lnN g n
  | 0 => rfl
  | n + 1 => by
    unfold DL lnN
    have e : frB g n = true ↔ ¬ g n ∈ DL g n := by
      unfold frB
      rw [Option.isNone_iff_eq_none, fst1_none, DL_mem]
      constructor
      · rintro h ⟨i, h1, h2⟩
        have := h i (by omega) (by omega)
        simp [h2] at this
      · intro h j _ j2
        rw [beq_eq_false_iff_ne]
        exact fun e => h ⟨j, by omega, e⟩
    by_cases h : g n ∈ DL g n
    · rw [if_pos h, if_neg (fun z => e.mp z h), DL_len g n]
      rfl
    · rw [if_neg h, if_pos (e.mpr h), List.length_append, DL_len g n]
      rfl
theorem DL_head (g : Nat → Int32) : ∀ n, ∃ l, DL g (n + 1) = g 0 :: l
  | 0 => ⟨[], by simp [DL]⟩
  | n + 1 => by
    obtain ⟨l, hl⟩ := DL_head g n
    rw [DL, hl]
    split
    · exact ⟨l, rfl⟩
    · exact ⟨l ++ [g (n + 1)], rfl⟩
theorem fst_mem {g : Nat → Int32} {n : Nat} {x : Int32} : (fst1 (fun k => g k == x) 0 n).isSome = true ↔ ∃ i, i < n ∧ g i = x := by
  cases h : fst1 (fun k => g k == x) 0 n with
  | none =>
    constructor
    · intro z; cases z
    · rintro ⟨i, h1, h2⟩
      have := fst1_none.mp h i (by omega) (by omega)
      simp [h2] at this
  | some k =>
    have := fst1_some h
    simp only [beq_iff_eq] at this
    exact ⟨fun _ => ⟨k, by omega, this.2.2⟩, fun _ => rfl⟩
/-! the first line's asks taken out -/
theorem tk_hi (x : Int32) (p q r : Nat → Int32) : ∀ k, ∀ j, k ≤ j → (tk x p q r k).1 j = p j ∧ (tk x p q r k).2.1 j = q j
  | 0, _, _ => ⟨rfl, rfl⟩
  | k + 1, j, hj => by
    have ih := tk_hi x p q r k j (by omega)
    have hl := tk_le x p q r k
    unfold tk
    split
    · exact ih
    · dsimp only
      rw [pk_un (by omega), pk_un (by omega)]
      exact ih
theorem tk_y {x : Int32} {p q r : Nat → Int32} {k : Nat} (he : (tk x p q r k).1 k = x) : tk x p q r (k + 1) = ((tk x p q r k).1, (tk x p q r k).2.1, upd (tk x p q r k).2.2.1 (tk x p q r k).2.2.2.2 ((tk x p q r k).2.1 k), (tk x p q r k).2.2.2.1, (tk x p q r k).2.2.2.2 + 1) := by
  conv => lhs; unfold tk
  rw [if_pos he]
theorem tk_n {x : Int32} {p q r : Nat → Int32} {k : Nat} (he : ¬ (tk x p q r k).1 k = x) : tk x p q r (k + 1) = (upd (tk x p q r k).1 (tk x p q r k).2.2.2.1 ((tk x p q r k).1 k), upd (tk x p q r k).2.1 (tk x p q r k).2.2.2.1 ((tk x p q r k).2.1 k), (tk x p q r k).2.2.1, (tk x p q r k).2.2.2.1 + 1, (tk x p q r k).2.2.2.2) := by
  conv => lhs; unfold tk
  rw [if_neg he]
theorem tk_dn (x : Int32) (p q r : Nat → Int32) (k : Nat) : ∀ i, ∀ j, j < (tk x p q r k).2.2.2.2 → (tk x p q r (k + i)).2.2.1 j = (tk x p q r k).2.2.1 j ∧ (tk x p q r k).2.2.2.2 ≤ (tk x p q r (k + i)).2.2.2.2
  | 0, _, _ => ⟨rfl, Nat.le_refl _⟩
  | i + 1, j, hj => by
    have ih := tk_dn x p q r k i j hj
    rw [show k + (i + 1) = k + i + 1 by omega]
    by_cases he : (tk x p q r (k + i)).1 (k + i) = x
    · rw [tk_y he]
      dsimp only
      rw [pk_un (by omega)]
      exact ⟨ih.1, by omega⟩
    · rw [tk_n he]
      exact ih
theorem tk_mono (x : Int32) (p q r : Nat → Int32) (k : Nat) : ∀ i, (tk x p q r k).2.2.2.2 ≤ (tk x p q r (k + i)).2.2.2.2
  | 0 => Nat.le_refl _
  | i + 1 => by
    have ih := tk_mono x p q r k i
    rw [show k + (i + 1) = k + i + 1 by omega]
    refine Nat.le_trans ih ?_
    by_cases he : (tk x p q r (k + i)).1 (k + i) = x
    · rw [tk_y he]
      exact Nat.le_succ _
    · rw [tk_n he]
      exact Nat.le_refl _
theorem tk_DL (x : Int32) (p q r : Nat → Int32) : ∀ k, DL (tk x p q r k).1 (tk x p q r k).2.2.2.1 = (DL p k).filter (fun y => !(y == x))
  | 0 => rfl
  | k + 1 => by
    have ih := tk_DL x p q r k
    have hh := (tk_hi x p q r k k (Nat.le_refl _)).1
    conv => rhs; unfold DL
    by_cases he : (tk x p q r k).1 k = x
    · have e : tk x p q r (k + 1) = ((tk x p q r k).1, (tk x p q r k).2.1, upd (tk x p q r k).2.2.1 (tk x p q r k).2.2.2.2 ((tk x p q r k).2.1 k), (tk x p q r k).2.2.2.1, (tk x p q r k).2.2.2.2 + 1) := by
        conv => lhs; unfold tk
        rw [if_pos he]
      rw [e]
      dsimp only
      rw [ih]
      rw [hh] at he
      split
      · rfl
      · rw [List.filter_append, he]
        simp
    · have e : tk x p q r (k + 1) = (upd (tk x p q r k).1 (tk x p q r k).2.2.2.1 ((tk x p q r k).1 k), upd (tk x p q r k).2.1 (tk x p q r k).2.2.2.1 ((tk x p q r k).2.1 k), (tk x p q r k).2.2.1, (tk x p q r k).2.2.2.1 + 1, (tk x p q r k).2.2.2.2) := by
        conv => lhs; unfold tk
        rw [if_neg he]
      rw [e]
      dsimp only
      rw [hh] at he ⊢
      conv => lhs; unfold DL
      rw [pk_us, DL_cong (h := (tk x p q r k).1) (fun i hi => pk_un (by omega)), ih]
      have em : p k ∈ (DL p k).filter (fun y => !(y == x)) ↔ p k ∈ DL p k := by
        rw [List.mem_filter]
        simp [he]
      by_cases hm : p k ∈ DL p k
      · rw [if_pos (em.mpr hm), if_pos hm]
      · rw [if_neg (fun z => hm (em.mp z)), if_neg hm, List.filter_append]
        congr 1
        simp [he]
/-- asks and answers -/
def zA (c m : CS) : Prop := ∃ n lc d, n ≤ 16 ∧ lc ≤ 4 ∧ d ≤ 16 ∧ c.1 11 = nI n ∧ m.1 25 = nI n ∧ c.1 12 = nI lc ∧ c.1 13 = nI d ∧ m.1 28 = nI d ∧ (∀ k, k < n → c.2 12 k = m.2 26 k ∧ c.2 13 k = m.2 27 k) ∧ (∀ k, k < d → c.2 15 k = m.2 29 k ∧ c.2 16 k = m.2 30 k) ∧ DL (m.2 26) n = (List.range lc).map (c.2 14)
def zQ (m : CS) : Prop := ∀ j, ∃ p, p < 4 ∧ m.2 27 j = nI p
def REL (S wd V kd N : Nat) (c m : CS) : Prop := REL0 S wd V kd N c m ∧ zA c m ∧ PT c ∧ zQ m
section AskT
variable {S wd V kd N : Nat} {c m : CS}
theorem REL.th (h : REL S wd V kd N c m) (v : Int32) : REL S wd V kd N c (upd m.1 0 v, m.2) := ⟨h.1.th v, h.2.1, h.2.2⟩
theorem REL.mono {N' : Nat} (h : REL S wd V kd N c m) (hN : N ≤ N') : REL S wd V kd N' c m := ⟨h.1.mono hN, h.2⟩
theorem zA_of {c' m' : CS} (h : zA c m) (h1 : ∀ k, 11 ≤ k → k ≤ 13 → c'.1 k = c.1 k) (h2 : ∀ k, 12 ≤ k → k ≤ 16 → c'.2 k = c.2 k) (h25 : m'.1 25 = m.1 25) (h28 : m'.1 28 = m.1 28) (hm : ∀ k, 24 < k → k < 32 → m'.2 k = m.2 k) : zA c' m' := by
  unfold zA at *
  rw [h1 11 (by omega) (by omega), h1 12 (by omega) (by omega), h1 13 (by omega) (by omega), h2 12 (by omega) (by omega), h2 13 (by omega) (by omega), h2 14 (by omega) (by omega), h2 15 (by omega) (by omega), h2 16 (by omega) (by omega), h25, h28, hm 26 (by omega) (by omega), hm 27 (by omega) (by omega), hm 29 (by omega) (by omega), hm 30 (by omega) (by omega)]
  exact h
theorem access_tie (h : REL S wd V kd N c m) (hN : N < 2 ^ 30) (x : Int32) {p : Nat} (hp : p < 4) (wt : Int32) : ∃ m', aoM S wd V kd m x p wt = some (m', pfK S wd V kd c x p wt) ∧ REL S wd V kd (N + 1) (pfS S wd V kd c x p wt) m' := by
  obtain ⟨h0, hA, hP, hQ⟩ := h
  have hk := h0.2.1.1.2.2.2.2.2.2.2
  obtain ⟨m', e, h1⟩ := acc_tie h0 hN x hp wt
  have ka := pfS_asks S wd V kd c x p wt
  have kb := aoM_MK hk e
  refine ⟨m', e, h1, ?_, ?_, ?_⟩
  · exact zA_of hA (fun k k1 k2 => ka.1 k (by omega)) (fun k k1 k2 => ka.2 k (by omega)) (kb.1 25 (by omega) (by omega) (by omega) (by omega)) (kb.1 28 (by omega) (by omega) (by omega) (by omega)) kb.2
  · refine ⟨?_, ?_⟩
    · rw [ka.2 13 (by omega)]; exact hP.1
    · rw [ka.2 15 (by omega)]; exact hP.2
  · unfold zQ
    rw [kb.2 27 (by omega) (by omega)]
    exact hQ
/-- keys of the asks changed alone -/
theorem REL0_asks {c' m' : CS} (h : REL0 S wd V kd N c m) (hc1 : ∀ k, (k < 11 ∨ 13 < k) → c'.1 k = c.1 k) (hc2 : ∀ k, (k < 12 ∨ 16 < k) → c'.2 k = c.2 k) (hm1 : ∀ k, k ≠ 0 → k ≠ 25 → k ≠ 28 → m'.1 k = m.1 k) (hm2 : ∀ k, (k < 25 ∨ 31 < k) → m'.2 k = m.2 k) : REL0 S wd V kd N c' m' := by
  obtain ⟨hCI, hMI, hT, hK, hH, hKi⟩ := h
  have hk := hMI.1.2.2.2.2.2.2.2
  have hA : RA c c' := ⟨⟨hc1 6 (by omega), hc1 7 (by omega), hc1 8 (by omega), hc1 16 (by omega), hc1 17 (by omega), hc1 18 (by omega), hc1 19 (by omega)⟩, hc2 22 (by omega), hc2 23 (by omega), hc2 24 (by omega)⟩
  refine ⟨⟨hA.rc hCI.1, ?_, ?_, ?_⟩, ⟨?_, ?_, ?_, ?_, ?_, ?_⟩, ?_, ?_, ?_, ?_⟩
  · obtain ⟨z, z1, z2, z3⟩ := hCI.2.1
    exact ⟨z, (hc1 9 (by omega)).trans z1, (hc1 10 (by omega)).trans z2, z3⟩
  · rw [hc2 5 (by omega)]; exact hCI.2.2.1
  · rw [hc2 10 (by omega)]; exact hCI.2.2.2
  · exact hMI.1.of (hm1 1 (by omega) (by omega) (by omega)) (hm1 2 (by omega) (by omega) (by omega)) (hm1 3 (by omega) (by omega) (by omega)) (hm1 4 (by omega) (by omega) (by omega))
  · exact MR_of hk hMI.2.1 (hm1 20 (by omega) (by omega) (by omega)) (fun h => by rw [hm2 16 (by omega)]; exact h) (hm2 18 (by omega)) (hm2 35 (by omega))
  · rw [hm1 21 (by omega) (by omega) (by omega)]; exact hMI.2.2.1
  · rw [hm1 31 (by omega) (by omega) (by omega)]; exact hMI.2.2.2.1
  · rw [hm2 10 (by omega)]; exact hMI.2.2.2.2.1
  · rw [hm2 24 (by omega)]; exact hMI.2.2.2.2.2
  · exact hT.of (fun k k1 _ => hc1 k (by omega)) (fun k k1 => hc2 k (by omega)) (hm1 5 (by omega) (by omega) (by omega)) (hm1 6 (by omega) (by omega) (by omega)) (hm1 21 (by omega) (by omega) (by omega)) (fun k k1 => hm2 k (by omega)) (fun k _ _ => congrFun (hm2 34 (by omega)) k)
  · exact TK_of hk hK hA (hm1 12 (by omega) (by omega) (by omega)) (hm1 20 (by omega) (by omega) (by omega)) (fun k k1 k2 => hm2 k (by omega))
  · exact zH_of hH (hc1 14 (by omega)) (hc1 15 (by omega)) (hc2 18 (by omega)) (hc2 19 (by omega)) (hm1 31 (by omega) (by omega) (by omega)) (hm2 32 (by omega)) (hm2 33 (by omega))
  · unfold zK at *
    rw [hc1 2 (by omega), hc2 20 (by omega), hm2 34 (by omega)]
    exact hKi
theorem wts_eq {n lc : Nat} (hD : DL (m.2 26) n = (List.range lc).map (c.2 14)) (x : Int32) : wts c.2 lc x = wtM m n x := by
  rw [Bool.eq_iff_iff]
  unfold wts wtM
  rw [fst_mem, fst_mem, ← DL_mem (m.2 26) x n, hD, List.mem_map]
  constructor
  · rintro ⟨i, h1, h2⟩
    exact ⟨i, List.mem_range.mpr h1, h2⟩
  · rintro ⟨i, h1, h2⟩
    exact ⟨i, List.mem_range.mp h1, h2⟩
theorem DL_lc {n lc : Nat} (hD : DL (m.2 26) n = (List.range lc).map (c.2 14)) : lnN (m.2 26) n = lc := by
  rw [← DL_len, hD, List.length_map, List.length_range]
theorem ask_tie (h : REL S wd V kd N c m) (x : Int32) {p n lc : Nat} (hp : p < 4) (hA : AD c.1 n lc) (hr : roomA c.2 n lc x = true) : REL S wd V kd N (asS c x p) (as2 m n x p) := by
  obtain ⟨h0, ⟨n', lc', d, a1, a2, a3, a4, a5, a6, a7, a8, a9, a10, a11⟩, hP, hQ⟩ := h
  have eA := nA_eq hA
  have en : n' = n := by
    have := a4.symm.trans hA.1
    rw [nI_eq (by omega) (by have := hA.2.2; omega)] at this
    exact this
  have el : lc' = lc := by
    have := a6.symm.trans hA.2.1
    rw [nI_eq (by omega) (by have := hA.2.2; omega)] at this
    exact this
  subst en
  subst el
  have hw := wts_eq a11 x
  have hr2 : n' < 16 ∧ (lc' < 4 ∨ wts c.2 lc' x = true) := by
    unfold roomA at hr
    simpa using hr
  have hD2 : DL (upd (m.2 26) n' x) (n' + 1) = if x ∈ DL (m.2 26) n' then DL (m.2 26) n' else DL (m.2 26) n' ++ [x] := by
    conv => lhs; unfold DL
    rw [pk_us, DL_cong (h := m.2 26) (fun i hi => pk_un (by omega))]
  have hmem : wts c.2 lc' x = true ↔ x ∈ DL (m.2 26) n' := by
    rw [hw, DL_mem]
    unfold wtM
    exact fst_mem
  have eS : asS c x p = (adV c.1 c.2 n' lc' x, adF c.2 n' lc' x (nI p)) := by
    unfold asS
    rw [eA.1, eA.2]
  have hd : ∀ k, k < n' + 1 → upd (c.2 12) n' x k = upd (m.2 26) n' x k ∧ upd (c.2 13) n' (nI p) k = upd (m.2 27) n' (nI p) k := by
    intro k hk
    by_cases he : k = n'
    · rw [he]
      refine ⟨?_, ?_⟩ <;> rw [pk_us, pk_us]
    · rw [pk_un he, pk_un he, pk_un he, pk_un he]
      exact a9 k (by omega)
  rw [eS]
  cases hwt : wts c.2 lc' x with
  | true =>
    have e1 : adV c.1 c.2 n' lc' x = upd c.1 11 (nI (n' + 1)) := by unfold adV; rw [hwt]; rfl
    have e2 : adF c.2 n' lc' x (nI p) = up2 (up2 c.2 12 (upd (c.2 12) n' x)) 13 (upd (c.2 13) n' (nI p)) := by unfold adF; rw [hwt]; rfl
    rw [e1, e2]
    refine ⟨REL0_asks h0 (fun k k1 => pk_un (by omega)) (fun k k1 => ?_) (fun k k1 k2 _ => ?_) (fun k k1 => ?_), ⟨n' + 1, lc', d, by omega, a2, a3, rfl, rfl, a6, a7, a8, hd, a10, ?_⟩, ⟨PT_up hP.1 _ ⟨p, hp, rfl⟩, hP.2⟩, PT_up hQ _ ⟨p, hp, rfl⟩⟩
    · show up2 (up2 c.2 12 _) 13 _ k = c.2 k
      rw [up2_n _ (by omega), up2_n _ (by omega)]
    · show upd (upd m.1 0 0) 25 _ k = m.1 k
      rw [pk_un k2, pk_un k1]
    · show up2 (up2 m.2 26 _) 27 _ k = m.2 k
      rw [up2_n _ (by omega), up2_n _ (by omega)]
    · show DL (upd (m.2 26) n' x) (n' + 1) = _
      rw [hD2, if_pos (hmem.mp hwt), a11]
      rfl
  | false =>
    have hlc4 : lc' < 4 := by
      rcases hr2.2 with z | z
      · exact z
      · rw [hwt] at z; cases z
    have e1 : adV c.1 c.2 n' lc' x = upd (upd c.1 12 (nI (lc' + 1))) 11 (nI (n' + 1)) := by unfold adV; rw [hwt]; rfl
    have e2 : adF c.2 n' lc' x (nI p) = up2 (up2 (up2 c.2 14 (upd (c.2 14) lc' x)) 12 (upd (c.2 12) n' x)) 13 (upd (c.2 13) n' (nI p)) := by unfold adF; rw [hwt]; rfl
    rw [e1, e2]
    refine ⟨REL0_asks h0 (fun k k1 => ?_) (fun k k1 => ?_) (fun k k1 k2 _ => ?_) (fun k k1 => ?_), ⟨n' + 1, lc' + 1, d, by omega, by omega, a3, rfl, rfl, rfl, a7, a8, hd, a10, ?_⟩, ⟨PT_up hP.1 _ ⟨p, hp, rfl⟩, hP.2⟩, PT_up hQ _ ⟨p, hp, rfl⟩⟩
    · show upd (upd c.1 12 _) 11 _ k = c.1 k
      rw [pk_un (by omega), pk_un (by omega)]
    · show up2 (up2 (up2 c.2 14 _) 12 _) 13 _ k = c.2 k
      rw [up2_n _ (by omega), up2_n _ (by omega), up2_n _ (by omega)]
    · show upd (upd m.1 0 0) 25 _ k = m.1 k
      rw [pk_un k2, pk_un k1]
    · show up2 (up2 m.2 26 _) 27 _ k = m.2 k
      rw [up2_n _ (by omega), up2_n _ (by omega)]
    · show DL (upd (m.2 26) n' x) (n' + 1) = (List.range (lc' + 1)).map (upd (c.2 14) lc' x)
      rw [hD2, if_neg (fun z => by rw [← hmem, hwt] at z; cases z), a11, List.range_succ, List.map_append]
      congr 1
      · refine List.map_congr_left (fun i hi => ?_)
        have := List.mem_range.mp hi
        rw [pk_un (by omega)]
      · show [x] = [upd (c.2 14) lc' x lc']
        rw [pk_us]
/-- one ask after the other: what ties class and reference on the way -/
theorem ans_loop {x : Int32} {n D : Nat} {p q r : Nat → Int32} (hn : n ≤ 16) (hD : (tk x p q r n).2.2.2.2 = D) : ∀ (i k N : Nat) (c2 m2 : CS), k + i = n → N + i < 2 ^ 30 → REL0 S wd V kd N c2 m2 → c2.2 15 = (tk x p q r n).2.2.1 → (∀ j, ∃ u, u < 4 ∧ (tk x p q r n).2.2.1 j = nI u) → zQ m2 → (∀ j, j < n → m2.2 26 j = (tk x p q r k).1 j ∧ m2.2 27 j = (tk x p q r k).2.1 j) → (∀ j, j < (tk x p q r k).2.2.2.2 → m2.2 29 j = (tk x p q r n).2.2.1 j ∧ m2.2 30 j = c2.2 16 j) → m2.1 28 = nI (tk x p q r k).2.2.2.2 →
    ∃ m', anM S wd V kd x i k (tk x p q r k).2.2.2.1 (tk x p q r k).2.2.2.2 m2 = some (m', (tk x p q r n).2.2.2.1, D) ∧ REL0 S wd V kd (N + i) (anL S wd V kd x c2 (tk x p q r k).2.2.2.2 (D - (tk x p q r k).2.2.2.2)) m' ∧ (∀ j, 11 ≤ j → j ≤ 13 → (anL S wd V kd x c2 (tk x p q r k).2.2.2.2 (D - (tk x p q r k).2.2.2.2)).1 j = c2.1 j) ∧ (∀ j, 12 ≤ j → j ≤ 15 → (anL S wd V kd x c2 (tk x p q r k).2.2.2.2 (D - (tk x p q r k).2.2.2.2)).2 j = c2.2 j) ∧ zQ m' ∧ (∀ j, j < n → m'.2 26 j = (tk x p q r n).1 j ∧ m'.2 27 j = (tk x p q r n).2.1 j) ∧ (∀ j, j < D → m'.2 29 j = (tk x p q r n).2.2.1 j ∧ m'.2 30 j = (anL S wd V kd x c2 (tk x p q r k).2.2.2.2 (D - (tk x p q r k).2.2.2.2)).2 16 j) ∧ m'.1 28 = nI D ∧ m'.1 0 = m2.1 0
  | 0, k, N, c2, m2, hk, hN, h0, h15, hPT, hQ, hA, hB, h28 => by
    obtain rfl : k = n := by omega
    rw [hD, Nat.sub_self]
    rw [hD] at hB h28
    exact ⟨m2, rfl, h0, fun _ _ _ => rfl, fun _ _ _ => rfl, hQ, hA, hB, h28, rfl⟩
  | i + 1, k, N, c2, m2, hk, hN, h0, h15, hPT, hQ, hA, hB, h28 => by
    have hle := tk_le x p q r k
    have hkd := h0.2.1.1.2.2.2.2.2.2.2
    by_cases he : (tk x p q r k).1 k = x
    · have e : tk x p q r (k + 1) = ((tk x p q r k).1, (tk x p q r k).2.1, upd (tk x p q r k).2.2.1 (tk x p q r k).2.2.2.2 ((tk x p q r k).2.1 k), (tk x p q r k).2.2.2.1, (tk x p q r k).2.2.2.2 + 1) := by
        conv => lhs; unfold tk
        rw [if_pos he]
      have hmo : (tk x p q r k).2.2.2.2 + 1 ≤ D := by
        have hmo0 := tk_mono x p q r (k + 1) i
        rw [show k + 1 + i = n by omega, hD, e] at hmo0
        exact hmo0
      have hdn : (tk x p q r n).2.2.1 (tk x p q r k).2.2.2.2 = (tk x p q r k).2.1 k := by
        have hdn0 := (tk_dn x p q r (k + 1) i (tk x p q r k).2.2.2.2 (by rw [e]; exact Nat.lt_succ_self _)).1
        rw [show k + 1 + i = n by omega, e] at hdn0
        rw [hdn0]
        exact pk_us
      obtain ⟨u, hu, eu⟩ := hPT (tk x p q r k).2.2.2.2
      generalize hd : (tk x p q r k).2.2.2.2 = d at *
      generalize ht : (tk x p q r k).2.2.2.1 = t at *
      have e27 : m2.2 27 k = nI u := by rw [(hA k (by omega)).2, ← hdn, eu]
      have hcl : (m2.2 27 k).toNatClampNeg = u := by rw [e27]; exact nI_clamp (by omega)
      have h1 : REL0 S wd V kd N c2 (an1 m2 d k) := REL0_asks h0 (fun _ _ => rfl) (fun _ _ => rfl) (fun _ _ _ _ => rfl) (fun k k1 => up2_n _ (by omega))
      obtain ⟨m3, q1, q2⟩ := acc_tie h1 (by omega) x hu 0
      have kb := aoM_MK hkd q1
      have ka := pfS_asks S wd V kd c2 x u 0
      have hc15 : c2.2 15 d = nI u := by rw [h15, eu]
      have hsub : D - d = D - (d + 1) + 1 := by omega
      have eL : anL S wd V kd x c2 d (D - d) = anL S wd V kd x ((pfS S wd V kd c2 x u 0).1, up2 (pfS S wd V kd c2 x u 0).2 16 (upd ((pfS S wd V kd c2 x u 0).2 16) d (pfK S wd V kd c2 x u 0))) (d + 1) (D - (d + 1)) := by
        rw [hsub]
        exact anL_step hc15 hu _
      have eM : anM S wd V kd x (i + 1) k t d m2 = anM S wd V kd x i (k + 1) t (d + 1) (an2 m3 d (pfK S wd V kd c2 x u 0)) := by
        conv => lhs; unfold anM
        rw [if_pos (by rw [(hA k (by omega)).1]; exact he), hcl, q1]
        rfl
      have h3 : REL0 S wd V kd (N + 1) ((pfS S wd V kd c2 x u 0).1, up2 (pfS S wd V kd c2 x u 0).2 16 (upd ((pfS S wd V kd c2 x u 0).2 16) d (pfK S wd V kd c2 x u 0))) (an2 m3 d (pfK S wd V kd c2 x u 0)) := REL0_asks q2 (fun _ _ => rfl) (fun k k1 => up2_n _ (by omega)) (fun k _ _ k3 => pk_un k3) (fun k k1 => up2_n _ (by omega))
      have ih := ans_loop hn hD i (k + 1) (N + 1) _ _ (by omega) (by omega) h3 (by
          show (pfS S wd V kd c2 x u 0).2 15 = _
          rw [ka.2 15 (by omega)]
          exact h15) hPT (by
          unfold zQ
          show ∀ j, ∃ p, p < 4 ∧ m3.2 27 j = nI p
          rw [kb.2 27 (by omega) (by omega)]
          exact hQ) (by
          rw [e]
          intro j hj
          show m3.2 26 j = _ ∧ m3.2 27 j = _
          rw [kb.2 26 (by omega) (by omega), kb.2 27 (by omega) (by omega)]
          exact hA j hj) (by
          rw [e]
          intro j hj
          have hj : j < d + 1 := hj
          show m3.2 29 j = _ ∧ upd (m3.2 30) d (pfK S wd V kd c2 x u 0) j = upd ((pfS S wd V kd c2 x u 0).2 16) d (pfK S wd V kd c2 x u 0) j
          rw [kb.2 29 (by omega) (by omega), kb.2 30 (by omega) (by omega), ka.2 16 (by omega)]
          show upd (m2.2 29) d (m2.2 27 k) j = _ ∧ upd (m2.2 30) d _ j = _
          by_cases hjd : j = d
          · rw [hjd, pk_us, pk_us, pk_us, e27, eu]
            exact ⟨rfl, rfl⟩
          · rw [pk_un hjd, pk_un hjd, pk_un hjd]
            exact hB j (by omega)) (by
          rw [e]
          rfl)
      rw [e] at ih
      dsimp only at ih
      obtain ⟨m', i1, i2, i3, i4, i5, i6, i7, i8, i9⟩ := ih
      rw [eL, eM]
      refine ⟨m', i1, by rw [show N + (i + 1) = N + 1 + i by omega]; exact i2, ?_, ?_, i5, i6, i7, i8, i9.trans (kb.1 0 (by omega) (by omega) (by omega) (by omega))⟩
      · intro k k1 k2
        rw [i3 k k1 k2]
        exact ka.1 k (by omega)
      · intro k k1 k2
        rw [i4 k k1 k2]
        show up2 _ 16 _ k = _
        rw [up2_n _ (by omega)]
        exact ka.2 k (by omega)
    · have e : tk x p q r (k + 1) = (upd (tk x p q r k).1 (tk x p q r k).2.2.2.1 ((tk x p q r k).1 k), upd (tk x p q r k).2.1 (tk x p q r k).2.2.2.1 ((tk x p q r k).2.1 k), (tk x p q r k).2.2.1, (tk x p q r k).2.2.2.1 + 1, (tk x p q r k).2.2.2.2) := by
        conv => lhs; unfold tk
        rw [if_neg he]
      have hAk := hA k (by omega)
      have eM : anM S wd V kd x (i + 1) k (tk x p q r k).2.2.2.1 (tk x p q r k).2.2.2.2 m2 = anM S wd V kd x i (k + 1) ((tk x p q r k).2.2.2.1 + 1) (tk x p q r k).2.2.2.2 (an3 m2 (tk x p q r k).2.2.2.1 k) := by
        conv => lhs; unfold anM
        rw [if_neg (by rw [hAk.1]; exact he)]
      have h3 : REL0 S wd V kd (N + 1) c2 (an3 m2 (tk x p q r k).2.2.2.1 k) := REL0.mono (REL0_asks h0 (fun _ _ => rfl) (fun _ _ => rfl) (fun _ _ _ _ => rfl) (fun j j1 => by
        show up2 (up2 m2.2 26 _) 27 _ j = m2.2 j
        rw [up2_n _ (by omega), up2_n _ (by omega)])) (by omega)
      have ih := ans_loop hn hD i (k + 1) (N + 1) c2 _ (by omega) (by omega) h3 h15 hPT (PT_up hQ _ (hQ k)) (by
          rw [e]
          intro j hj
          show upd (m2.2 26) (tk x p q r k).2.2.2.1 (m2.2 26 k) j = upd (tk x p q r k).1 (tk x p q r k).2.2.2.1 ((tk x p q r k).1 k) j ∧ upd (m2.2 27) (tk x p q r k).2.2.2.1 (m2.2 27 k) j = upd (tk x p q r k).2.1 (tk x p q r k).2.2.2.1 ((tk x p q r k).2.1 k) j
          rw [hAk.1, hAk.2]
          by_cases hjt : j = (tk x p q r k).2.2.2.1
          · rw [← hjt]
            refine ⟨?_, ?_⟩ <;> rw [pk_us, pk_us]
          · rw [pk_un hjt, pk_un hjt, pk_un hjt, pk_un hjt]
            exact hA j hj) (by
          rw [e]
          exact hB) (by
          rw [e]
          exact h28)
      rw [e] at ih
      dsimp only at ih
      obtain ⟨m', i1, i2, i3, i4, i5, i6, i7, i8, i9⟩ := ih
      rw [eM]
      exact ⟨m', i1, by rw [show N + (i + 1) = N + 1 + i by omega]; exact i2, i3, i4, i5, i6, i7, i8, i9⟩
end AskT
