/-! THE OTHER CALLS TIED -/
section Calls
variable {S wd V kd N : Nat} {c m : CS}
theorem zA.ad (h : zA c m) : ∃ n lc, AD c.1 n lc ∧ m.1 25 = nI n ∧ DL (m.2 26) n = (List.range lc).map (c.2 14) := by
  obtain ⟨n, lc, d, a1, a2, a3, a4, a5, a6, a7, a8, a9, a10, a11⟩ := h
  exact ⟨n, lc, ⟨a4, a6, a1, a2⟩, a5, a11⟩
theorem answer_tie (h : REL S wd V kd N c m) (hN : N + 16 < 2 ^ 30) {n lc : Nat} (hAD : AD c.1 n lc) (hlc : 1 ≤ lc) : ∃ m' t D, 1 ≤ n ∧ m.1 25 = nI n ∧ nD (tkS c) = D ∧ anM S wd V kd (m.2 26 0) n 0 0 0 (upd (th0 m).1 28 0, m.2) = some (m', t, D) ∧ m'.1 0 = 0 ∧ REL S wd V kd (N + 16) (anL S wd V kd (c.2 14 0) (tkS c) 0 D) (upd m'.1 25 (nI t), m'.2) := by
  obtain ⟨h0, ⟨n', lc', d, a1, a2, a3, a4, a5, a6, a7, a8, a9, a10, a11⟩, hP, hQ⟩ := h
  have eA := nA_eq hAD
  have en : n' = n := by
    have := a4.symm.trans hAD.1
    rw [nI_eq (by omega) (by have := hAD.2.2; omega)] at this
    exact this
  have el : lc' = lc := by
    have := a6.symm.trans hAD.2.1
    rw [nI_eq (by omega) (by have := hAD.2.2; omega)] at this
    exact this
  subst en
  subst el
  obtain ⟨l, rfl⟩ : ∃ l, lc' = l + 1 := ⟨lc' - 1, by omega⟩
  have hr : (List.range (l + 1)).map (c.2 14) = c.2 14 0 :: (List.range l).map (fun i => c.2 14 (i + 1)) := by
    rw [List.range_succ_eq_map, List.map_cons, List.map_map]
    rfl
  have hn1 : 1 ≤ n' := by
    rcases Nat.eq_zero_or_pos n' with z | z
    · rw [z, hr] at a11
      cases a11
    · exact z
  obtain ⟨k0, rfl⟩ : ∃ k0, n' = k0 + 1 := ⟨n' - 1, by omega⟩
  obtain ⟨rest, hrest⟩ := DL_head (m.2 26) k0
  have hx : m.2 26 0 = c.2 14 0 := by
    rw [hrest, hr] at a11
    exact (List.cons.inj a11).1
  generalize hn : k0 + 1 = n at *
  generalize hxe : c.2 14 0 = x at *
  have hle := tk_le x (c.2 12) (c.2 13) (c.2 15) n
  have eS : tkS c = (upd (upd (upd c.1 13 (nI (tk x (c.2 12) (c.2 13) (c.2 15) n).2.2.2.2)) 11 (nI (tk x (c.2 12) (c.2 13) (c.2 15) n).2.2.2.1)) 12 (nI l), up2 (tkF c.2 (tk x (c.2 12) (c.2 13) (c.2 15) n)) 14 (shf (c.2 14) 0 l)) := by
    unfold tkS
    rw [eA.1, eA.2, hxe]
    rfl
  have hPT := tkS_PT hP
  generalize hT : tk x (c.2 12) (c.2 13) (c.2 15) n = T at *
  have hnD : nD (tkS c) = T.2.2.2.2 := by
    rw [eS]
    exact nI_clamp (by omega)
  have h1 : REL0 S wd V kd N (tkS c) (upd (th0 m).1 28 0, m.2) := by
    rw [eS]
    refine REL0_asks h0 (fun k k1 => ?_) (fun k k1 => ?_) (fun k k1 k2 k3 => ?_) (fun _ _ => rfl)
    · show upd (upd (upd c.1 13 _) 11 _) 12 _ k = c.1 k
      rw [pk_un (by omega), pk_un (by omega), pk_un (by omega)]
    · show up2 (up2 (up2 (up2 c.2 12 _) 13 _) 15 _) 14 _ k = c.2 k
      rw [up2_n _ (by omega), up2_n _ (by omega), up2_n _ (by omega), up2_n _ (by omega)]
    · show upd (upd m.1 0 0) 28 0 k = m.1 k
      rw [pk_un k3, pk_un k1]
  have h15 : (tkS c).2 15 = T.2.2.1 := by rw [eS]; rfl
  have L := ans_loop (x := x) (n := n) (D := T.2.2.2.2) (p := c.2 12) (q := c.2 13) (r := c.2 15) a1 (by rw [hT]) n 0 N (tkS c) (upd (th0 m).1 28 0, m.2) (by omega) (by omega) h1 (by rw [hT]; exact h15) (by rw [hT, ← h15]; exact hPT.2) hQ (fun j hj => ⟨(a9 j hj).1.symm, (a9 j hj).2.symm⟩) (fun j hj => absurd hj (Nat.not_lt_zero _)) rfl
  rw [hT] at L
  obtain ⟨m', i1, i2, i3, i4, i5, i6, i7, i8, i9⟩ := L
  refine ⟨m', T.2.2.2.1, T.2.2.2.2, by omega, a5, hnD, by rw [hx]; exact i1, i9.trans rfl, ?_⟩
  have e0 : (tk x (c.2 12) (c.2 13) (c.2 15) 0).2.2.2.2 = 0 := rfl
  rw [e0, Nat.sub_zero] at i2 i3 i4 i7
  have hc1 : ∀ k, 11 ≤ k → k ≤ 13 → (anL S wd V kd x (tkS c) 0 T.2.2.2.2).1 k = (tkS c).1 k := i3
  have g12 : (anL S wd V kd x (tkS c) 0 T.2.2.2.2).2 12 = T.1 := by rw [i4 12 (by omega) (by omega), eS]; rfl
  have g13 : (anL S wd V kd x (tkS c) 0 T.2.2.2.2).2 13 = T.2.1 := by rw [i4 13 (by omega) (by omega), eS]; rfl
  have g14 : (anL S wd V kd x (tkS c) 0 T.2.2.2.2).2 14 = shf (c.2 14) 0 l := by rw [i4 14 (by omega) (by omega), eS]; rfl
  have g15 : (anL S wd V kd x (tkS c) 0 T.2.2.2.2).2 15 = T.2.2.1 := by rw [i4 15 (by omega) (by omega)]; exact h15
  refine ⟨REL0.mono (REL0_asks i2 (fun _ _ => rfl) (fun _ _ => rfl) (fun k _ k2 _ => pk_un k2) (fun _ _ => rfl)) (by omega), ⟨T.2.2.2.1, l, T.2.2.2.2, by omega, by omega, by omega, ?_, rfl, ?_, ?_, ?_, ?_, ?_, ?_⟩, ⟨?_, ?_⟩, i5⟩
  · rw [hc1 11 (by omega) (by omega), eS]; rfl
  · rw [hc1 12 (by omega) (by omega), eS]; rfl
  · rw [hc1 13 (by omega) (by omega), eS]; rfl
  · exact i8
  · intro k hk
    rw [g12, g13]
    exact ⟨(i6 k (by omega)).1.symm, (i6 k (by omega)).2.symm⟩
  · intro k hk
    rw [g15]
    exact ⟨(i7 k hk).1.symm, (i7 k hk).2.symm⟩
  · show DL (m'.2 26) T.2.2.2.1 = _
    rw [g14, DL_cong (h := T.1) (fun i hi => (i6 i (by omega)).1), ← hT, tk_DL, DL_cong (h := m.2 26) (fun i hi => (a9 i hi).1), a11, hr]
    have hnd := DL_nodup (m.2 26) n
    rw [a11, hr, List.nodup_cons] at hnd
    rw [List.filter_cons_of_neg (by simp), List.filter_eq_self.mpr]
    · refine List.map_congr_left (fun i hi => ?_)
      have := List.mem_range.mp hi
      rw [shf_in _ (Nat.zero_le _) this]
    · intro a ha
      simp only [Bool.not_eq_true', beq_eq_false_iff_ne, ne_eq]
      intro e
      rw [e] at ha
      exact hnd.1 ha
  · rw [g13]
    have := hPT.1
    rw [eS] at this
    exact this
  · rw [g15, ← h15]
    exact hPT.2
/-- keys of stores changed: all else is left -/
theorem REL_st {c' m' : CS} (h : REL S wd V kd N c m) (hCI : CI S wd V kd c') (hMI : MI S wd V kd m') (hT : zT S wd qT 0 c' m') (hc1 : ∀ k, (k = 2 ∨ k = 6 ∨ k = 7 ∨ k = 8 ∨ 10 < k) → c'.1 k = c.1 k) (hc2 : ∀ k, 11 < k → c'.2 k = c.2 k) (hm1 : ∀ k, k ≠ 0 → k ≠ 5 → k ≠ 6 → k ≠ 21 → m'.1 k = m.1 k) (hm2 : ∀ k, 12 < k → (k < 22 ∨ 24 < k) → k ≠ 34 → m'.2 k = m.2 k) (h34 : ∀ k, k < 6 → m'.2 34 k = m.2 34 k) : REL S wd V kd N c' m' := by
  obtain ⟨⟨-, -, -, hK, hH, hKi⟩, hA, hP, hQ⟩ := h
  have hk := hMI.1.2.2.2.2.2.2.2
  have hRA : RA c c' := ⟨⟨hc1 6 (by omega), hc1 7 (by omega), hc1 8 (by omega), hc1 16 (by omega), hc1 17 (by omega), hc1 18 (by omega), hc1 19 (by omega)⟩, hc2 22 (by omega), hc2 23 (by omega), hc2 24 (by omega)⟩
  refine ⟨⟨hCI, hMI, hT, TK_of hk hK hRA (hm1 12 (by omega) (by omega) (by omega) (by omega)) (hm1 20 (by omega) (by omega) (by omega) (by omega)) (fun k k1 k2 => hm2 k (by omega) (by omega) (by omega)), ?_, ?_⟩, ?_, ?_, ?_⟩
  · exact zH_of hH (hc1 14 (by omega)) (hc1 15 (by omega)) (hc2 18 (by omega)) (hc2 19 (by omega)) (hm1 31 (by omega) (by omega) (by omega) (by omega)) (hm2 32 (by omega) (by omega) (by omega)) (hm2 33 (by omega) (by omega) (by omega))
  · refine ⟨?_, ?_⟩
    · rw [hc1 2 (by omega), h34 0 (by omega)]; exact hKi.1
    · intro k hk5
      rw [hc2 20 (by omega), h34 (1 + k) (by omega)]; exact hKi.2 k hk5
  · exact zA_of hA (fun k k1 k2 => hc1 k (by omega)) (fun k k1 k2 => hc2 k (by omega)) (hm1 25 (by omega) (by omega) (by omega) (by omega)) (hm1 28 (by omega) (by omega) (by omega) (by omega)) (fun k k1 k2 => hm2 k (by omega) (by omega) (by omega))
  · refine ⟨?_, ?_⟩
    · rw [hc2 13 (by omega)]; exact hP.1
    · rw [hc2 15 (by omega)]; exact hP.2
  · unfold zQ
    rw [hm2 27 (by omega) (by omega) (by omega)]
    exact hQ
theorem mode_tie (h : REL S wd V kd N c m) (t p : Bool) : REL S wd V kd N (upd (upd c.1 0 (bI t)) 1 (bI p), c.2) (upd (upd (upd m.1 0 0) 5 (bI t)) 6 (bI p), m.2) := by
  obtain ⟨hCI, hMI, hT, -⟩ := h.1
  have hk := hMI.1.2.2.2.2.2.2.2
  refine REL_st h ⟨RA.rc (c := c) ⟨⟨rfl, rfl, rfl, rfl, rfl, rfl, rfl⟩, rfl, rfl, rfl⟩ hCI.1, hCI.2⟩ ⟨hMI.1, MR_of hk hMI.2.1 rfl (fun h => h) rfl rfl, hMI.2.2⟩ ?_ (fun k k1 => ?_) (fun _ _ => rfl) (fun k k1 k2 k3 _ => ?_) (fun _ _ _ _ => rfl) (fun _ _ => rfl)
  · obtain ⟨hL, hU, h6, hX, hR, hF, hP, hC⟩ := hT
    exact ⟨hL, hU, h6, hX, hR, ⟨rfl, rfl⟩, hP, hC⟩
  · show upd (upd c.1 0 _) 1 _ k = c.1 k
    rw [pk_un (by omega), pk_un (by omega)]
  · show upd (upd (upd m.1 0 0) 5 _) 6 _ k = m.1 k
    rw [pk_un k3, pk_un k2, pk_un k1]
theorem lock_tie (h : REL S wd V kd N c m) (x : Int32) (b : Bool) : (lkS S wd c x b).2 = (lk2 S wd m x b).2 ∧ REL S wd V kd N (lkS S wd c x b).1 (lk2 S wd m x b).1 := by
  obtain ⟨hCI, hMI, hT, -⟩ := h.1
  have hk := hMI.1.2.2.2.2.2.2.2
  have hw8 := hMI.1.w8
  have hs := hMI.1.lt x
  have e1 := fdW_w (S := S) (wd := wd) (c := c) x
  have e2 := fdM_w hT hs
  unfold lkS lk2
  rw [e1, e2]
  cases hf : fw S wd c x with
  | none => exact ⟨rfl, h.th 0⟩
  | some w =>
    have hw := fw_some hf
    have e6 := hT.2.2.1 (sN S x) w hs hw.1
    show (if c.2 6 (sN S x * wd + w) = bI b then (c, (0 : Int32)) else ((c.1, up2 c.2 6 (upd (c.2 6) (sN S x * wd + w) (bI b))), 1)).2 = (if m.2 11 (8 * sN S x + w) = bI b then 0 else 1) ∧ REL S wd V kd N (if c.2 6 (sN S x * wd + w) = bI b then (c, (0 : Int32)) else ((c.1, up2 c.2 6 (upd (c.2 6) (sN S x * wd + w) (bI b))), 1)).1 ((th0 m).1, up2 m.2 11 (upd (m.2 11) (8 * sN S x + w) (bI b)))
    rw [← e6]
    have key : REL S wd V kd N (c.1, up2 c.2 6 (upd (c.2 6) (sN S x * wd + w) (bI b))) ((th0 m).1, up2 m.2 11 (upd (m.2 11) (8 * sN S x + w) (bI b))) := by
      refine REL_st h ⟨RA.rc (c := c) ⟨⟨rfl, rfl, rfl, rfl, rfl, rfl, rfl⟩, rfl, rfl, rfl⟩ hCI.1, hCI.2⟩ ⟨hMI.1, MR_of hk hMI.2.1 rfl (fun h => h) rfl rfl, hMI.2.2⟩ ?_ (fun _ _ => rfl) (fun k k1 => up2_n _ (by omega)) (fun k k1 _ _ _ => pk_un k1) (fun k k1 _ _ => up2_n _ (by omega)) (fun _ _ => rfl)
      obtain ⟨hL, hU, h6, hX, hR, hF, hP, hC⟩ := hT
      refine ⟨?_, hU, TI.up h6 hw8.2 hw.1 rfl, hX, hR, hF, hP, hC⟩
      intro s' w' hs' hw' _
      have hh := hL s' w' hs' hw' trivial
      show c.2 3 (s' * wd + w') = m.2 7 (8 * s' + w') ∧ (c.2 3 (s' * wd + w') ≠ 0 → c.2 2 (s' * wd + w') = m.2 8 (8 * s' + w') ∧ c.2 4 (s' * wd + w') = m.2 9 (8 * s' + w') ∧ c.2 5 (s' * wd + w') = m.2 10 (8 * s' + w')) ∧ (c.2 3 (s' * wd + w') = 0 → c.2 2 (s' * wd + w') = 0 ∧ c.2 4 (s' * wd + w') = 0 ∧ c.2 5 (s' * wd + w') = 0 ∧ upd (c.2 6) (sN S x * wd + w) (bI b) (s' * wd + w') = 0)
      refine ⟨hh.1, hh.2.1, fun z => ⟨(hh.2.2 z).1, (hh.2.2 z).2.1, (hh.2.2 z).2.2.1, ?_⟩⟩
      by_cases he : s' * wd + w' = sN S x * wd + w
      · rw [he] at z
        exact absurd z hw.2.1
      · rw [pk_un he]
        exact (hh.2.2 z).2.2.2
    by_cases hb : c.2 6 (sN S x * wd + w) = bI b
    · rw [if_pos hb, if_pos hb]
      refine ⟨rfl, ?_⟩
      rw [upd_self _ hb] at key
      rw [show (c.1, up2 c.2 6 (c.2 6)) = c from ?_] at key
      · exact key
      · refine Prod.ext rfl ?_
        funext k
        show up2 c.2 6 (c.2 6) k = c.2 k
        by_cases hk6 : k = 6
        · rw [hk6, up2_s]
        · exact up2_n _ hk6
    · rw [if_neg hb, if_neg hb]
      exact ⟨rfl, key⟩
end Calls
