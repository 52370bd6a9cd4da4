/-- the picks of class and reference are one -/
def PKT (S wd kd N : Nat) (c m : CS) (s : Nat) (mv : Bool) : Prop := ∃ w m', w < wd ∧ rChoose wd kd c s = some w ∧ pkS wd kd m s mv = some (m', 8 * s + w) ∧ (mv = true → TK S wd kd N (rSettle wd kd c s w) m') ∧ (mv = false → TK S wd kd N c m')
section Picks
variable {S wd N : Nat} {c m : CS} {s : Nat} {mv : Bool}
theorem pick3 (h : TK S wd 3 N c m) (hl : ∀ w, w < wd → lkd c.2 wd s w = lkM m.2 (8 * s + w)) (hf : ∃ w, w < wd ∧ lkd c.2 wd s w = false) : PKT S wd 3 N c m s mv := by
  have h : c.1 19 = m.1 20 := h
  obtain ⟨u, hu1, hu2⟩ := hf
  have e1 : cntU (lkM m.2) 0 (8 * s) wd = cntU (lkd c.2 wd s) 0 0 wd := cntU_sh hl wd 0 0 (by omega)
  have hp := cntU_pos (lk := lkd c.2 wd s) (m := wd) (k := 0) ⟨u, by omega, by omega, hu2⟩
  have e2 : nthU (lkM m.2) ((m.1 20).toNatClampNeg / 65536 % cntU (lkM m.2) 0 (8 * s) wd) (8 * s) wd = (nthU (lkd c.2 wd s) ((c.1 19).toNatClampNeg / 65536 % cntU (lkd c.2 wd s) 0 0 wd) 0 wd).map (fun w => 8 * s + w) := by
    rw [e1, h]
    exact nthU_sh hl wd 0 _ (by omega)
  have his := nthU_is (lk := lkd c.2 wd s) (m := wd) (k := 0) (t := (c.1 19).toNatClampNeg / 65536 % cntU (lkd c.2 wd s) 0 0 wd) (Nat.mod_lt _ (by omega))
  obtain ⟨w, hw⟩ := Option.isSome_iff_exists.mp his
  rw [hw] at e2
  refine ⟨w, ((if mv then upd m.1 20 (lcg (m.1 20)) else m.1, m.2)), (nthU_lt (N := wd) (by omega) hw).1, ?_, ?_, ?_, ?_⟩
  · show chC c.2 wd s (c.1 19).toNatClampNeg = _
    unfold chC
    rw [if_neg hp]
    exact hw
  · show (if cntU (lkM m.2) 0 (8 * s) wd = 0 then none else (nthU (lkM m.2) ((m.1 20).toNatClampNeg / 65536 % cntU (lkM m.2) 0 (8 * s) wd) (8 * s) wd).map _) = _
    rw [if_neg (by rw [e1]; exact hp), e2]
    rfl
  · intro e
    subst e
    show (1103515245 * c.1 19 + 12345) &&& 2147483647 = lcg (m.1 20)
    rw [h]
    rfl
  · intro e
    subst e
    exact h
theorem pick5 (h8 : wd ≤ 8) (hs : s < S) (h : TK S wd 5 N c m) {h0 : Nat} (hh0 : h0 < wd) (hh : m.2 18 s = nI h0) (hl : ∀ w, w < wd → lkd c.2 wd s w = lkM m.2 (8 * s + w)) (hf : ∃ w, w < wd ∧ lkd c.2 wd s w = false) : PKT S wd 5 N c m s mv := by
  obtain ⟨h1, h2⟩ := h
  have hhc : (c.2 23 s).toNatClampNeg = h0 := by rw [h2 s hs, hh]; exact nI_clamp (by omega)
  have hhm : (m.2 18 s).toNatClampNeg = h0 := by rw [hh]; exact nI_clamp (by omega)
  obtain ⟨w, g2, hw, q1, q2, q3⟩ := hand_tie (lk := lkd c.2 wd s) (lk' := fun w => lkM m.2 (8 * s + w)) (mk := mkd c.2 wd s) (b0 := s * wd) (t := 17) h8 (by omega) hh0 hl (g1 := c.2 22) (g2 := cpM (m.2 16) (8 * s) (m.2 35) wd)
    (by
      intro u hu
      unfold cpM mkd
      rw [if_pos hu, h1 s u hs hu]
      simp)
    (by
      intro u hu
      unfold cpM
      rw [if_pos hu]
      exact h1 s u hs hu) hf
  refine ⟨w, (m.1, if mv then up2 (up2 (up2 m.2 35 g2) 16 (cbM g2 (8 * s) (m.2 16) wd)) 18 (upd (m.2 18) s (nI ((w + 1) % wd))) else up2 m.2 35 g2), hw, ?_, ?_, ?_, ?_⟩
  · show rndC _ _ (wfh wd (c.2 23 s).toNatClampNeg) none 0 wd = _
    rw [hhc]
    exact q1
  · show (hndO _ wd 17 _ (m.2 18 s).toNatClampNeg).map _ = _
    rw [hhm, q2]
    rfl
  · intro e
    subst e
    refine ⟨?_, ?_⟩
    · show TI S wd (rndS (lkd c.2 wd s) (wfh wd (c.2 23 s).toNatClampNeg) (mkd c.2 wd s w) w (s * wd) (c.2 22) 0 wd) (cbM g2 (8 * s) (m.2 16) wd)
      rw [hhc]
      intro s' w' hs' hw'
      by_cases he : s' = s
      · subst he
        rw [q3 w' hw']
        unfold cbM
        rw [if_pos (by omega)]
        congr 1
        omega
      · rw [rndS_out _ _ hh0 (i := s' * wd + w') ?_ _ _ _ (by omega)]
        · unfold cbM
          rw [if_neg (by omega)]
          exact h1 s' w' hs' hw'
        · rcases Nat.lt_or_ge (s' * wd + w') (s * wd) with z | z
          · exact Or.inl z
          · right
            rcases Nat.lt_or_ge (s' * wd + w') (s * wd + wd) with y | y
            · have : s' * wd + w' = s * wd + (s' * wd + w' - s * wd) := by omega
              exact absurd (slot_inj hw' (by omega) this).1 he
            · exact y
    · intro s' hs'
      show upd (c.2 23) s (nI (nxt wd w)) s' = upd (m.2 18) s (nI ((w + 1) % wd)) s'
      have e : nxt wd w = (w + 1) % wd := by
        unfold nxt
        split
        · rw [Nat.mod_eq_of_lt (by omega)]
        · rw [show w + 1 = wd by omega, Nat.mod_self]
      rw [e]
      by_cases he : s' = s
      · rw [he, pk_us, pk_us]
      · rw [pk_un he, pk_un he]
        exact h2 s' hs'
  · intro e
    subst e
    exact ⟨h1, h2⟩
theorem pick6 (h1w : 1 ≤ wd) (h8 : wd ≤ 8) (hs : s < S) (h : TK S wd 6 N c m) (hl : ∀ w, w < wd → lkd c.2 wd s w = lkM m.2 (8 * s + w)) (hf : ∃ w, w < wd ∧ lkd c.2 wd s w = false) : PKT S wd 6 N c m s mv := by
  have hP := lvN_8 wd
  have hPw := lvN_ge h8
  have hbits := fun n => (show ∀ s n, s < S → 1 ≤ n → n < 8 → bitN (c.2 22 s) n = tb (m.2 19 (8 * s + n)) from h) s n hs
  have eN := trC_eq (T := c.2 22 s) (g := m.2 19) (b0 := 8 * s) hP.2 hbits 4 1 (Nat.le_refl _)
  have g1 := trC_ge (T := c.2 22 s) (P := lvN wd) 4 1 (by omega)
  have g2 := trC_lt (T := c.2 22 s) (P := lvN wd) 4 1 (by omega)
  obtain ⟨u, hu1, hu2⟩ := hf
  generalize hN : trC (c.2 22 s) (lvN wd) 4 1 = Nd at *
  generalize hPe : lvN wd = P at *
  have hex : ∃ k, k < P ∧ (Nd + k) % P = u := by
    by_cases hlt : Nd - P ≤ u
    · refine ⟨u - (Nd - P), by omega, ?_⟩
      rw [show Nd + (u - (Nd - P)) = u + P by omega, Nat.add_mod_right, Nat.mod_eq_of_lt (by omega)]
    · refine ⟨u + P - (Nd - P), by omega, ?_⟩
      rw [show Nd + (u + P - (Nd - P)) = u + P + P by omega, Nat.add_mod_right, Nat.add_mod_right, Nat.mod_eq_of_lt (by omega)]
  obtain ⟨k, hk1, hk2⟩ := hex
  cases hq : fst1 (fun k => decide ((Nd + k) % P < wd) && !lkd c.2 wd s ((Nd + k) % P)) 0 P with
  | none =>
    have := fst1_none.mp hq k (by omega) (by omega)
    rw [hk2, hu2] at this
    simp [hu1] at this
  | some j =>
    have hj := (fst1_some hq).2.2
    simp only [Bool.and_eq_true, decide_eq_true_eq, Bool.not_eq_true'] at hj
    have hq2 : fst1 (fun k => decide ((Nd + k) % P < wd) && !(fun w => lkM m.2 (8 * s + w)) ((Nd + k) % P)) 0 P = some j := by
      rw [← hq]
      refine fst1_cong (fun i _ _ => ?_)
      by_cases hi : (Nd + i) % P < wd
      · rw [hl _ hi]
      · simp [hi]
    have := twO_fst (lk := fun w => lkM m.2 (8 * s + w)) P 0 16 j hq2 (by omega)
    refine ⟨(Nd + j) % P, m, hj.1, ?_, ?_, fun _ => h, fun _ => h⟩
    · show trP c.2 wd s (lvN wd) = _
      unfold trP
      rw [hPe, hN, hq]
      rfl
    · show (twO _ wd (lvN wd) 16 (trM (m.2 19) (8 * s) (lvN wd) 4 1 - lvN wd)).map _ = _
      rw [hPe, ← eN, show Nd - P = (Nd + 0) % P by rw [Nat.add_zero, Nat.mod_eq_sub_mod g1, Nat.mod_eq_of_lt (by omega)], this]
      rfl
theorem pick7 (hs : s < S) (h : TK S wd 7 N c m) (hl : ∀ w, w < wd → lkd c.2 wd s w = lkM m.2 (8 * s + w)) (hf : ∃ w, w < wd ∧ lkd c.2 wd s w = false) : PKT S wd 7 N c m s mv := by
  have h1 : TI S wd (c.2 22) (m.2 16) := h
  obtain ⟨u, hu1, hu2⟩ := hf
  have hm : ∀ w, w < wd → mkd c.2 wd s w = mkM m.2 (8 * s + w) := by
    intro w hw
    unfold mkd mkM
    rw [h1 s w hs hw]
  have e1 : fst1 (fun k => !lkM m.2 k && !mkM m.2 k) (8 * s) wd = (fst1 (fun k => !lkd c.2 wd s k && !mkd c.2 wd s k) 0 wd).map (fun w => 8 * s + w) := by
    rw [fst1_o]
    congr 1
    exact fst1_cong (fun j _ j2 => by rw [hl j (by omega), hm j (by omega)])
  have e2 : fst1 (fun k => !lkM m.2 k) (8 * s) wd = (fst1 (fun k => !lkd c.2 wd s k) 0 wd).map (fun w => 8 * s + w) := by
    rw [fst1_o]
    congr 1
    exact fst1_cong (fun j _ j2 => by rw [hl j (by omega)])
  have hc : rChoose wd 7 c s = match fst1 (fun j => !lkd c.2 wd s j && !mkd c.2 wd s j) 0 wd with
      | some j => some j
      | none => (fst1 (fun j => !lkd c.2 wd s j) 0 wd).map (fun k => k) := rndC_eq _ _ (fun k => k) wd 0 none
  have hmm : pkS wd 7 m s mv = (match fst1 (fun k => !lkM m.2 k && !mkM m.2 k) (8 * s) wd with
      | some k => some k
      | none => fst1 (fun k => !lkM m.2 k) (8 * s) wd).map (fun r => (m, r)) := rfl
  rw [e1, e2] at hmm
  unfold PKT
  rw [hc, hmm]
  cases hq : fst1 (fun j => !lkd c.2 wd s j && !mkd c.2 wd s j) 0 wd with
  | some j => exact ⟨j, m, by have := fst1_some hq; omega, rfl, rfl, fun _ => h, fun _ => h⟩
  | none =>
    cases hq2 : fst1 (fun j => !lkd c.2 wd s j) 0 wd with
    | some j => exact ⟨j, m, by have := fst1_some hq2; omega, rfl, rfl, fun _ => h, fun _ => h⟩
    | none =>
      have := fst1_none.mp hq2 u (by omega) (by omega)
      rw [hu2] at this
      cases this
theorem pick8 (h8 : wd ≤ 8) (hs : s < S) (h : TK S wd 8 N c m) (hlv : ∀ w, w < wd → c.2 6 (s * wd + w) = m.2 11 (8 * s + w)) (hf : ∃ w, w < wd ∧ lkd c.2 wd s w = false) : PKT S wd 8 N c m s mv := by
  obtain ⟨h1, h2⟩ := h
  have hl : ∀ w, w < wd → lkd c.2 wd s w = lkM m.2 (8 * s + w) := fun w hw => by unfold lkd lkM; rw [hlv w hw]
  obtain ⟨u, hu1, hu2⟩ := hf
  have hlt : ∀ w, w < wd → (fun w => c.2 22 (s * wd + w)) w = m.2 17 (8 * s + w) := fun w hw => h1 s w hs hw
  have eM : mxA (lkM m.2) (m.2 17) 0 (8 * s) wd = mxA (lkd c.2 wd s) (fun w => c.2 22 (s * wd + w)) 0 0 wd := mxA_sh hl hlt wd 0 0 (by omega)
  have eP : pickB (lkd c.2 wd s) (fun x y => old c.2 (s * wd + x) (s * wd + y)) none 0 wd = fst1 (fun i => !lkd c.2 wd s i && (c.2 22 (s * wd + i) == mxA (lkM m.2) (m.2 17) 0 (8 * s) wd)) 0 wd := by
    rw [eM]
    refine pick_age0 (lk := lkd c.2 wd s) (g := fun w => c.2 22 (s * wd + w)) wd 0 (fun i _ i2 => ?_)
    obtain ⟨a, a1, a2⟩ := h2 s i hs (by omega)
    show 0 ≤ c.2 22 (s * wd + i)
    rw [h1 s i hs (by omega), a2]
    exact nI_le (a := 0) (by omega) (by omega)
  have his := pickB_is (lk := lkd c.2 wd s) (bt := fun x y => old c.2 (s * wd + x) (s * wd + y)) (m := wd) (k := 0) (b := none) (Or.inr ⟨u, by omega, by omega, hu2⟩)
  obtain ⟨w, hw⟩ := Option.isSome_iff_exists.mp his
  have hw0 := hw
  rw [eP] at hw
  have hw2 := fst1_some hw
  simp only [Bool.and_eq_true, Bool.not_eq_true', beq_iff_eq] at hw2
  generalize hMe : mxA (lkM m.2) (m.2 17) 0 (8 * s) wd = M at *
  have hmax : ∀ i, i < wd → lkM m.2 (8 * s + i) = false → m.2 17 (8 * s + i) ≤ M := by
    intro i i1 i2
    rw [← hMe]
    exact mxA_max wd (8 * s) 0 (8 * s + i) (by omega) (by omega) i2
  have hwM : m.2 17 (8 * s + w) = M := by rw [← h1 s w hs (by omega)]; exact hw2.2.2.2
  refine ⟨w, (m.1, up2 m.2 17 (if mv then agM (lkM m.2) (m.2 17) (3 - M) (8 * s) (8 * s + wd) else m.2 17)), by omega, hw0, ?_, ?_, ?_⟩
  · have hmm : pkS wd 8 m s mv = (fst1 (fun k => !lkM m.2 k && ((if mv then agM (lkM m.2) (m.2 17) (3 - M) (8 * s) (8 * s + wd) else m.2 17) k == (if mv then 3 else M))) (8 * s) wd).map (fun r => ((m.1, up2 m.2 17 (if mv then agM (lkM m.2) (m.2 17) (3 - M) (8 * s) (8 * s + wd) else m.2 17)), r)) := by
      rw [← hMe]
      rfl
    rw [hmm, fst1_o, show fst1 (fun w => !lkM m.2 (8 * s + w) && ((if mv then agM (lkM m.2) (m.2 17) (3 - M) (8 * s) (8 * s + wd) else m.2 17) (8 * s + w) == (if mv then 3 else M))) 0 wd = some w from ?_]
    · rfl
    · rw [← hw]
      refine fst1_cong (fun i _ i2 => ?_)
      have hi : i < wd := by omega
      rw [← hl i hi]
      cases hli : lkd c.2 wd s i with
      | true => rfl
      | false =>
        cases mv with
        | false =>
          simp only [Bool.false_eq_true, if_false]
          rw [← hlt i (by omega)]
        | true =>
          simp only [if_true, Bool.not_false, Bool.true_and]
          unfold agM
          rw [if_pos ⟨by omega, by omega, by rw [← hl i (by omega)]; exact hli⟩, ← hlt i (by omega)]
          dsimp only
          rw [Bool.eq_iff_iff, beq_iff_eq, beq_iff_eq]
          exact add3 _ _
  · intro e
    subst e
    have hMw : c.2 22 (s * wd + w) = M := hw2.2.2.2
    have eT : TI S wd (agd c.2 (3 - c.2 22 (s * wd + w)) (s * wd) (s * wd + wd)) (agM (lkM m.2) (m.2 17) (3 - M) (8 * s) (8 * s + wd)) := by
      intro s' w' hs' hw'
      rw [hMw]
      unfold agd agM
      by_cases he : s' = s
      · subst he
        by_cases hlk : c.2 6 (s' * wd + w') = 0
        · rw [if_pos ⟨by omega, by omega, hlk⟩, if_pos ⟨by omega, by omega, by unfold lkM; rw [← hlv w' hw', hlk]; rfl⟩, h1 s' w' hs hw']
        · rw [if_neg (fun z => hlk z.2.2), if_neg, h1 s' w' hs hw']
          intro z
          have := z.2.2
          unfold lkM at this
          rw [← hlv w' hw'] at this
          simp [hlk] at this
      · rw [if_neg, if_neg (by omega)]
        · exact h1 s' w' hs' hw'
        · intro z
          have : s' * wd + w' = s * wd + (s' * wd + w' - s * wd) := by omega
          exact he (slot_inj hw' (by omega) this).1
    refine ⟨eT, ?_⟩
    intro s' w' hs' hw'
    show ∃ a, a ≤ 3 ∧ agM (lkM m.2) (m.2 17) (3 - M) (8 * s) (8 * s + wd) (8 * s' + w') = nI a
    obtain ⟨a, a1, a2⟩ := h2 s' w' hs' hw'
    obtain ⟨b, b1, b2⟩ := h2 s w hs (by omega)
    rw [hwM] at b2
    unfold agM
    split
    · rename_i z
      have hss : s' = s := by omega
      subst hss
      have hle := hmax w' hw' z.2.2
      rw [a2, b2, nI_leI (by omega) (by omega)] at hle
      refine ⟨a + (3 - b), by omega, ?_⟩
      rw [a2, b2, show (3 : Int32) = nI 3 from rfl, pk_sub (by omega), nI_add]
    · exact ⟨a, a1, a2⟩
  · intro e
    subst e
    exact ⟨h1, h2⟩
theorem pickT {kd : Nat} (hs : s < S) (hk : kd = 0 ∨ kd = 1 ∨ kd = 2 ∨ kd = 4 ∨ kd = 9) (hN : N < 2 ^ 30) (hm3 : m.1 3 = nI kd) (h : TK S wd kd N c m) (hl : ∀ w, w < wd → lkd c.2 wd s w = lkM m.2 (8 * s + w)) (hf : ∃ w, w < wd ∧ lkd c.2 wd s w = false) : PKT S wd kd N c m s mv := by
  obtain ⟨u, hu1, hu2⟩ := hf
  have hbt : ∀ i j, i < wd → j < wd → (fun x y => gs (c.1 16) c.2 (s * wd + x) (s * wd + y)) i j = gsG (m.1 3) (m.2 13) (m.2 14) (m.2 15) (8 * s + i) (8 * s + j) := by
    intro i j hi hj
    have key : kd ≠ 9 → (c.1 16 = nI kd ∧ c.1 17 = m.1 12 ∧ TI S wd (c.2 22) (m.2 13) ∧ TI S wd (c.2 23) (m.2 14) ∧ TI S wd (c.2 24) (m.2 15)) := by
      intro hn
      rcases hk with rfl | rfl | rfl | rfl | rfl
      all_goals first | exact h | exact absurd rfl hn
    by_cases h9 : kd = 9
    · subst h9
      have hle := fun i j hi hj => T9_le hN h (s := s) (i := i) (j := j) hs hi hj
      have h16 : c.1 16 = 9 := h.1
      show gs (c.1 16) c.2 (s * wd + i) (s * wd + j) = _
      unfold gs gsG
      rw [h16, hm3]
      have e1 : ¬ (9 : Int32) = 1 := by decide
      have e2 : ¬ (9 : Int32) = 2 := by decide
      have e4 : ¬ (9 : Int32) = 4 := by decide
      rw [if_neg e1, if_neg e2, if_neg (fun z => e4 z.1), if_neg (show ¬ nI 9 = 1 from e1), if_neg (show ¬ nI 9 = 2 from e2), if_neg (fun z => e4 z.1)]
      congr 1
      rw [decide_eq_decide]
      exact hle i j hi hj
    · obtain ⟨k1, k2, k3, k4, k5⟩ := key h9
      show gs (c.1 16) c.2 (s * wd + i) (s * wd + j) = _
      unfold gs gsG
      rw [k1, hm3, k3 s i hs hi, k3 s j hs hj, k4 s i hs hi, k4 s j hs hj, k5 s i hs hi, k5 s j hs hj]
  have e := pickB_0 (lk := lkd c.2 wd s) (lk' := lkM m.2) (o := 8 * s) (N := wd) hl hbt
  have his := pickB_is (lk := lkd c.2 wd s) (bt := fun x y => gs (c.1 16) c.2 (s * wd + x) (s * wd + y)) (m := wd) (k := 0) (b := none) (Or.inr ⟨u, by omega, by omega, hu2⟩)
  obtain ⟨w, hw⟩ := Option.isSome_iff_exists.mp his
  rw [hw] at e
  have hlt := pickB_lt (N := wd) (by omega) (fun j hj => by cases hj) hw
  refine ⟨w, m, hlt.1, ?_, ?_, ?_, ?_⟩
  · rcases hk with rfl | rfl | rfl | rfl | rfl <;> exact hw
  · have : pkS wd kd m s mv = (pickB (lkM m.2) (gsG (m.1 3) (m.2 13) (m.2 14) (m.2 15)) none (8 * s) wd).map (fun r => (m, r)) := by
      rcases hk with rfl | rfl | rfl | rfl | rfl <;> rfl
    rw [this, e]
    rfl
  · intro _
    rcases hk with rfl | rfl | rfl | rfl | rfl <;> exact h
  · intro _
    exact h
theorem TK_pick {kd V : Nat} (hM : MD m.1 S wd V kd) (hR : MR wd kd m) (hs : s < S) (hN : N < 2 ^ 30) (h : TK S wd kd N c m) (hlv : ∀ w, w < wd → c.2 6 (s * wd + w) = m.2 11 (8 * s + w)) (hf : ∃ w, w < wd ∧ c.2 6 (s * wd + w) = 0) (mv : Bool) : PKT S wd kd N c m s mv := by
  have hS := hM.S16
  have hw8 := hM.w8
  have hl : ∀ w, w < wd → lkd c.2 wd s w = lkM m.2 (8 * s + w) := fun w hw => by unfold lkd lkM; rw [hlv w hw]
  have hf : ∃ w, w < wd ∧ lkd c.2 wd s w = false := by
    obtain ⟨w, w1, w2⟩ := hf
    exact ⟨w, w1, by unfold lkd; rw [w2]; rfl⟩
  rcases kd_cases hM.2.2.2.2.2.2.2 with rfl | rfl | rfl | rfl | rfl | rfl | rfl | rfl | rfl | rfl
  · exact pick3 h hl hf
  · obtain ⟨h0, h1, h2⟩ := hR.1 s (by omega)
    exact pick5 hw8.2 hs h h1 h2 hl hf
  · exact pick6 hw8.1 hw8.2 hs h hl hf
  · exact pick7 hs h hl hf
  · exact pick8 hw8.2 hs h hlv hf
  all_goals exact pickT hs (by omega) hN hM.2.2.1 h hl hf
end Picks
