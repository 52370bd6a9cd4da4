/-! rule 5: the hand goes round -/
theorem wfh_z {wd h0 : Nat} (h : h0 < wd) : wfh wd h0 0 = h0 := by
  unfold wfh
  rw [if_pos (by omega)]
  rfl
theorem wfh_s {wd h0 k : Nat} (h : h0 < wd) (hk : k + 1 < wd) : (wfh wd h0 k + 1) % wd = wfh wd h0 (k + 1) := by
  unfold wfh
  by_cases h1 : h0 + k + 1 < wd
  · rw [if_pos (by omega), if_pos (by omega), Nat.mod_eq_of_lt (by omega)]
    omega
  · by_cases h2 : h0 + k < wd
    · rw [if_pos h2, if_neg (by omega), show h0 + k + 1 = wd by omega, Nat.mod_self]
      omega
    · rw [if_neg h2, if_neg (by omega), Nat.mod_eq_of_lt (by omega)]
      omega
theorem wfh_e {wd h0 k : Nat} (h : h0 < wd) (hk : k + 1 = wd) : (wfh wd h0 k + 1) % wd = h0 := by
  unfold wfh
  by_cases h2 : h0 + k < wd
  · obtain rfl : h0 = 0 := by omega
    rw [if_pos h2, show 0 + k + 1 = wd by omega, Nat.mod_self]
  · rw [if_neg h2, Nat.mod_eq_of_lt (by omega)]
    omega
theorem wfh_inj {wd h0 i j : Nat} (h : h0 < wd) (hi : i < wd) (hj : j < wd) (e : wfh wd h0 i = wfh wd h0 j) : i = j := by
  unfold wfh at e
  split at e <;> split at e <;> omega
theorem wfh_sur {wd h0 u : Nat} (h : h0 < wd) (hu : u < wd) : ∃ i, i < wd ∧ wfh wd h0 i = u := by
  by_cases h1 : h0 ≤ u
  · exact ⟨u - h0, by omega, by unfold wfh; rw [if_pos (by omega)]; omega⟩
  · exact ⟨u + wd - h0, by omega, by unfold wfh; rw [if_neg (by omega)]; omega⟩
section Hand
variable {lk lk' mk : Nat → Bool} {wd h0 b0 : Nat}
theorem hnd_A (hh : h0 < wd) (hlk : ∀ u, u < wd → lk u = lk' u) : ∀ (m k t j : Nat) (g1 g2 : Nat → Int32), k + m = wd → fst1 (fun i => !lk (wfh wd h0 i) && !mk (wfh wd h0 i)) k m = some j → m ≤ t → (∀ i, k ≤ i → i < wd → (g2 (wfh wd h0 i) = 0 ↔ mk (wfh wd h0 i) = false)) → (∀ u, u < wd → g1 (b0 + u) = g2 u) →
    ∃ g2', hndO lk' wd t g2 (wfh wd h0 k) = some (g2', wfh wd h0 j) ∧ ∀ u, u < wd → rndS lk (wfh wd h0) false (wfh wd h0 j) b0 g1 k m (b0 + u) = g2' u
  | 0, k, t, j, g1, g2, hk, hf, ht, hg, hu => by cases hf
  | m + 1, k, 0, j, g1, g2, hk, hf, ht, hg, hu => by omega
  | m + 1, k, t + 1, j, g1, g2, hk, hf, ht, hg, hu => by
    have hwl := wfh_lt hh (show k < wd by omega)
    have hl2 := hlk _ hwl
    have hgk := hg k (Nat.le_refl _) (by omega)
    unfold fst1 at hf
    by_cases hp : (!lk (wfh wd h0 k) && !mk (wfh wd h0 k)) = true
    · rw [if_pos hp] at hf
      cases hf
      simp only [Bool.and_eq_true, Bool.not_eq_true'] at hp
      refine ⟨g2, ?_, ?_⟩
      · unfold hndO
        rw [if_pos ⟨by rw [← hl2]; exact hp.1, hgk.mpr hp.2⟩]
      · intro u hu2
        unfold rndS
        rw [if_pos ⟨rfl, rfl⟩]
        exact hu u hu2
    · rw [if_neg hp] at hf
      have hj := fst1_some hf
      have hne : wfh wd h0 k ≠ wfh wd h0 j := fun e => by have := wfh_inj hh (by omega) (by omega) e; omega
      unfold hndO rndS
      have n1 : ¬ (lk' (wfh wd h0 k) = false ∧ g2 (wfh wd h0 k) = 0) := by
        intro q
        refine hp ?_
        rw [hl2, q.1, hgk.mp q.2]
        rfl
      have n2 : ¬ (wfh wd h0 k = wfh wd h0 j ∧ false = false) := fun q => hne q.1
      rw [if_neg n1, if_neg n2, wfh_s hh (by omega), ← hl2]
      · refine hnd_A hh hlk m (k + 1) t j _ _ (by omega) hf (by omega) ?_ ?_
        · intro i i1 i2
          have hni : wfh wd h0 i ≠ wfh wd h0 k := fun e => by have := wfh_inj hh (by omega) (by omega) e; omega
          split
          · exact hg i (by omega) i2
          · rw [pk_un hni]; exact hg i (by omega) i2
        · intro u hu2
          split
          · exact hu u hu2
          · by_cases he : u = wfh wd h0 k
            · rw [he, pk_us, pk_us]
            · rw [pk_un (by omega), pk_un he]; exact hu u hu2
theorem hnd_B (w : Nat) (hh : h0 < wd) (hlk : ∀ u, u < wd → lk u = lk' u) : ∀ (m k t : Nat) (g1 g2 : Nat → Int32), k + m = wd → fst1 (fun i => !lk (wfh wd h0 i) && !mk (wfh wd h0 i)) k m = none → (∀ i, k ≤ i → i < wd → (g2 (wfh wd h0 i) = 0 ↔ mk (wfh wd h0 i) = false)) → (∀ u, u < wd → g1 (b0 + u) = g2 u) →
    ∃ g2', hndO lk' wd (t + m) g2 (if k < wd then wfh wd h0 k else h0) = hndO lk' wd t g2' h0 ∧ (∀ u, u < wd → rndS lk (wfh wd h0) true w b0 g1 k m (b0 + u) = g2' u) ∧ (∀ i, k ≤ i → i < wd → lk (wfh wd h0 i) = false → g2' (wfh wd h0 i) = 0) ∧ ∀ i, i < k → i < wd → g2' (wfh wd h0 i) = g2 (wfh wd h0 i)
  | 0, k, t, g1, g2, hk, hf, hg, hu => by
    refine ⟨g2, ?_, hu, fun i i1 i2 => by omega, fun i _ _ => rfl⟩
    rw [if_neg (by omega)]
    rfl
  | m + 1, k, t, g1, g2, hk, hf, hg, hu => by
    have hwl := wfh_lt hh (show k < wd by omega)
    have hl2 := hlk _ hwl
    have hgk := hg k (Nat.le_refl _) (by omega)
    unfold fst1 at hf
    by_cases hp : (!lk (wfh wd h0 k) && !mk (wfh wd h0 k)) = true
    · rw [if_pos hp] at hf
      cases hf
    · rw [if_neg hp] at hf
      have hinj : ∀ i, i < wd → i ≠ k → wfh wd h0 i ≠ wfh wd h0 k := fun i i1 i2 e => i2 (wfh_inj hh i1 (by omega) e)
      obtain ⟨g2', q1, q2, q3, q4⟩ := hnd_B w hh hlk m (k + 1) t (if lk (wfh wd h0 k) = true then g1 else upd g1 (b0 + wfh wd h0 k) 0) (if lk (wfh wd h0 k) = true then g2 else upd g2 (wfh wd h0 k) 0) (by omega) hf (by
          intro i i1 i2
          split
          · exact hg i (by omega) i2
          · rw [pk_un (hinj i i2 (by omega))]; exact hg i (by omega) i2) (by
          intro u hu2
          split
          · exact hu u hu2
          · by_cases he : u = wfh wd h0 k
            · rw [he, pk_us, pk_us]
            · rw [pk_un (by omega), pk_un he]; exact hu u hu2)
      refine ⟨g2', ?_, ?_, ?_, ?_⟩
      · rw [← q1, if_pos (show k < wd by omega), show t + (m + 1) = t + m + 1 by omega]
        conv => lhs; unfold hndO
        rw [if_neg, ← hl2]
        · congr 1
          by_cases hk2 : k + 1 < wd
          · rw [if_pos hk2, wfh_s hh hk2]
          · rw [if_neg hk2, wfh_e hh (by omega)]
        · intro q
          refine hp ?_
          rw [hl2, q.1, hgk.mp q.2]
          rfl
      · intro u hu2
        unfold rndS
        rw [if_neg (fun q => by cases q.2)]
        exact q2 u hu2
      · intro i i1 i2 i3
        by_cases he : i = k
        · subst he
          rw [q4 i (by omega) i2, if_neg (by rw [i3]; decide), pk_us]
        · exact q3 i (by omega) i2 i3
      · intro i i1 i2
        rw [q4 i (by omega) i2]
        split
        · rfl
        · rw [pk_un (hinj i i2 (by omega))]
theorem hnd_C (hh : h0 < wd) : ∀ (m k t j : Nat) (g : Nat → Int32), k + m = wd → fst1 (fun i => !lk (wfh wd h0 i)) k m = some j → m ≤ t → (∀ i, k ≤ i → i < wd → lk (wfh wd h0 i) = false → g (wfh wd h0 i) = 0) → hndO lk wd t g (wfh wd h0 k) = some (g, wfh wd h0 j)
  | 0, _, _, _, _, _, hf, _, _ => by cases hf
  | m + 1, k, 0, _, _, _, _, ht, _ => by omega
  | m + 1, k, t + 1, j, g, hk, hf, ht, hg => by
    unfold fst1 at hf
    unfold hndO
    cases hl : lk (wfh wd h0 k) with
    | false =>
      rw [hl, if_pos (by decide)] at hf
      cases hf
      rw [if_pos ⟨rfl, hg k (Nat.le_refl _) (by omega) hl⟩]
    | true =>
      rw [hl, if_neg (by decide)] at hf
      have hj := fst1_some hf
      rw [if_neg (fun q => by cases q.1), if_pos rfl, wfh_s hh (by omega)]
      exact hnd_C hh m (k + 1) t j g (by omega) hf (by omega) (fun i i1 i2 => hg i (by omega) i2)
theorem rndS_out (whole : Bool) (w : Nat) (hh : h0 < wd) {i : Nat} (hi : i < b0 ∨ b0 + wd ≤ i) : ∀ (m k : Nat) (g : Nat → Int32), k + m ≤ wd → rndS lk (wfh wd h0) whole w b0 g k m i = g i
  | 0, _, _, _ => rfl
  | m + 1, k, g, hk => by
    unfold rndS
    have hwl := wfh_lt hh (show k < wd by omega)
    split
    · rfl
    · rw [rndS_out whole w hh hi m (k + 1) _ (by omega)]
      split
      · rfl
      · rw [pk_un (by omega)]
end Hand
/-- what the hand finds, and what it leaves -/
theorem hand_tie {lk lk' mk : Nat → Bool} {wd h0 b0 t : Nat} (h8 : wd ≤ 8) (ht : 16 ≤ t) (hh : h0 < wd) (hlk : ∀ u, u < wd → lk u = lk' u) {g1 g2 : Nat → Int32} (hg : ∀ u, u < wd → (g2 u = 0 ↔ mk u = false)) (hu : ∀ u, u < wd → g1 (b0 + u) = g2 u) (hfr : ∃ u, u < wd ∧ lk u = false) :
    ∃ w g2', w < wd ∧ rndC lk mk (wfh wd h0) none 0 wd = some w ∧ hndO lk' wd t g2 h0 = some (g2', w) ∧ ∀ u, u < wd → rndS lk (wfh wd h0) (mk w) w b0 g1 0 wd (b0 + u) = g2' u := by
  rw [rndC_eq]
  have hgi : ∀ i, 0 ≤ i → i < wd → (g2 (wfh wd h0 i) = 0 ↔ mk (wfh wd h0 i) = false) := fun i _ i2 => hg _ (wfh_lt hh i2)
  cases hf : fst1 (fun j => !lk (wfh wd h0 j) && !mk (wfh wd h0 j)) 0 wd with
  | some j =>
    have hj := fst1_some hf
    simp only [Bool.and_eq_true, Bool.not_eq_true'] at hj
    obtain ⟨g2', q1, q2⟩ := hnd_A (b0 := b0) hh hlk wd 0 t j g1 g2 (by omega) hf (by omega) hgi hu
    rw [wfh_z hh] at q1
    exact ⟨wfh wd h0 j, g2', wfh_lt hh (by omega), rfl, q1, by rw [hj.2.2.2]; exact q2⟩
  | none =>
    obtain ⟨u, hu1, hu2⟩ := hfr
    obtain ⟨i, hi1, hi2⟩ := wfh_sur hh hu1
    cases hf2 : fst1 (fun j => !lk (wfh wd h0 j)) 0 wd with
    | none =>
      have := fst1_none.mp hf2 i (by omega) (by omega)
      rw [hi2, hu2] at this
      cases this
    | some j =>
      have hj := fst1_some hf2
      simp only [Bool.not_eq_true'] at hj
      have hm : mk (wfh wd h0 j) = true := by
        have := fst1_none.mp hf j (by omega) (by omega)
        rw [hj.2.2] at this
        simpa using this
      obtain ⟨g2', q1, q2, q3, -⟩ := hnd_B (b0 := b0) (wfh wd h0 j) hh hlk wd 0 (t - wd) g1 g2 (by omega) hf hgi hu
      rw [show t - wd + wd = t by omega, if_pos (by omega), wfh_z hh] at q1
      refine ⟨wfh wd h0 j, g2', wfh_lt hh (by omega), rfl, ?_, by rw [hm]; exact q2⟩
      rw [q1]
      have := hnd_C (lk := lk') hh wd 0 (t - wd) j g2' (by omega) (by rw [← hf2]; exact (fst1_cong (fun i _ i2 => by rw [hlk _ (wfh_lt hh (by omega))]))) (by omega) (fun i i1 i2 i3 => q3 i i1 i2 (by rw [hlk _ (wfh_lt hh i2)]; exact i3))
      rw [wfh_z hh] at this
      exact this
