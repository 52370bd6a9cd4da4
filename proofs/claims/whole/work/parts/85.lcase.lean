/-! THE LAW: its cases -/
theorem DIof {r r' : Int32} {W W' : va_W} (h : r = r') (h2 : W = W') : DI r W = DI r' W' := by rw [h, h2]
section LawC
variable {X : EX} {G : EG} {bs Ls o i : Nat} {xs : Nat → Int32} {a a2 : Nat → Nat} {S wd V kd N cells slots : Nat} {c m : CS} {f : Nat → Int64}
/-- what goes on behind a case -/
def LKx (X : EX) (G : EG) (bs o i : Nat) (a a2 : Nat → Nat) (S wd V kd N cells slots : Nat) : Prop := ∀ (c m : CS) (f : Nat → Int64), REL S wd V kd (N + 16) c m → EW X G 7 (cells + 1) (slots + 6) 923 (LV bs o a a2 i) [] (LW G o a a2 f c m S wd V kd)
theorem LKx.k0 (K : LKx X G bs o i a a2 S wd V kd N cells slots) (h : REL S wd V kd (N + 16) c m) : EW X G 7 cells slots 923 (LV bs o a a2 i) [] (LW G o a a2 f c m S wd V kd) := e_widen (Nat.le_succ _) (Nat.le_add_right _ _) (K c m f h)
theorem REL.ad (h : REL S wd V kd N c m) : ∃ n lc, AD c.1 n lc ∧ m.1 25 = nI n ∧ DL (m.2 26) n = (List.range lc).map (c.2 14) := h.2.1.ad
theorem out4 {p : Int32} (h : p < 0 ∨ nI 4 ≤ p) : p < 0 ∨ ¬ p < 4 := by
  rcases h with h | h
  · exact Or.inl h
  · right
    intro z
    rw [Int32.le_iff_toInt_le] at h
    rw [Int32.lt_iff_toInt_lt] at z
    have e : (nI 4).toInt = 4 := by decide
    have e2 : (4 : Int32).toInt = 4 := by decide
    omega
theorem outN {p : Int32} {n : Nat} (h : p < 0 ∨ nI n ≤ p) : OUT p n := by
  rcases h with h | h
  · exact Or.inl h
  · right
    intro z
    rw [Int32.le_iff_toInt_le] at h
    rw [Int32.lt_iff_toInt_lt] at z
    omega
theorem lc_mode (C : EC X G "CacheRulesLaw" code 7) (P : LPx X bs Ls xs i) (hf : cells ≤ 600000 ∧ slots ≤ 7280000) (h : REL S wd V kd N c m) (K : LKx X G bs o i a a2 S wd V kd N cells slots) : EW X G 7 cells slots 152 (LV bs o a a2 i) [] (LW G o a a2 f c m S wd V kd) := by
  have hF := h.1.2.2.1.2.2.2.2.2.1
  refine ld_mode C P ⟨by omega, by omega⟩ (c' := (upd (upd c.1 0 (bI (!(xs (i + 1) == 0)))) 1 (bI (!(xs (i + 2) == 0))), c.2)) (m' := (upd (upd (upd m.1 0 0) 5 (bI (!(xs (i + 1) == 0)))) 6 (bI (!(xs (i + 2) == 0))), m.2)) (r0 := (if c.1 0 = 0 then 0 else 1) + (if c.1 1 = 0 then 0 else 2)) ?_ ?_ (K.k0 ((mode_tie h _ _).mono (by omega)))
  · rw [← wK_of (c := c) (c' := (upd (upd c.1 0 (bI (!(xs (i + 1) == 0)))) 1 (bI (!(xs (i + 2) == 0))), c.2)) ⟨⟨rfl, rfl, rfl, rfl, rfl, rfl, rfl⟩, rfl, rfl, rfl⟩ G a S wd V kd]
    exact k_C_mode _ _
  · rw [hF.1, hF.2]
    exact k_M_mode _ _
theorem lkS_RA (S wd : Nat) (c : CS) (x : Int32) (b : Bool) : RA c (lkS S wd c x b).1 := by
  unfold lkS
  split
  · exact RA.rf c
  · split
    · exact RA.rf c
    · exact ⟨⟨rfl, rfl, rfl, rfl, rfl, rfl, rfl⟩, rfl, rfl, rfl⟩
theorem clS_RA (S wd : Nat) (c : CS) (x : Int32) : RA c (clS S wd c x).1 := by
  unfold clS
  split
  · exact ⟨⟨rfl, rfl, rfl, rfl, rfl, rfl, rfl⟩, rfl, rfl, rfl⟩
  · split
    · exact ⟨⟨rfl, rfl, rfl, rfl, rfl, rfl, rfl⟩, rfl, rfl, rfl⟩
    · exact ⟨⟨rfl, rfl, rfl, rfl, rfl, rfl, rfl⟩, rfl, rfl, rfl⟩
theorem dpS_RA (S wd : Nat) (c : CS) (x : Int32) : RA c (dpS S wd c x).1 := by
  unfold dpS
  split
  · exact ⟨⟨rfl, rfl, rfl, rfl, rfl, rfl, rfl⟩, rfl, rfl, rfl⟩
  · split
    · exact ⟨⟨rfl, rfl, rfl, rfl, rfl, rfl, rfl⟩, rfl, rfl, rfl⟩
    · exact RA.rf c
theorem lc_lock (C : EC X G "CacheRulesLaw" code 7) (P : LPx X bs Ls xs i) (hf : cells ≤ 600000 ∧ slots ≤ 7280000) (h : REL S wd V kd N c m) (K : LKx X G bs o i a a2 S wd V kd N cells slots) : EW X G 7 cells slots 497 (LV bs o a a2 i) [] (LW G o a a2 f c m S wd V kd) := by
  obtain ⟨e, hR⟩ := lock_tie h (xs (i + 1)) (!(xs (i + 2) == 0))
  refine ld_lock C P ⟨by omega, by omega⟩ (c' := (lkS S wd c (xs (i + 1)) (!(xs (i + 2) == 0))).1) (m' := (lk2 S wd m (xs (i + 1)) (!(xs (i + 2) == 0))).1) (r0 := (lkS S wd c (xs (i + 1)) (!(xs (i + 2) == 0))).2) ?_ ?_ (K.k0 (hR.mono (by omega)))
  · rw [← wK_of (lkS_RA S wd c (xs (i + 1)) (!(xs (i + 2) == 0))) G a S wd V kd]
    exact k_C_lock h.1.1.1.1 _ _
  · rw [e]
    exact k_M_lock h.1.2.1.1 _ _
theorem lc_clean (C : EC X G "CacheRulesLaw" code 7) (P : LPx X bs Ls xs i) (hf : cells ≤ 600000 ∧ slots ≤ 7280000) (h : REL S wd V kd N c m) (K : LKx X G bs o i a a2 S wd V kd N cells slots) : EW X G 7 cells slots 550 (LV bs o a a2 i) [] (LW G o a a2 f c m S wd V kd) := by
  obtain ⟨e, hR⟩ := clean_tie h (xs (i + 1))
  obtain ⟨z, hz⟩ := h.1.1.2.1
  refine ld_clean C P ⟨by omega, by omega⟩ (c' := (clS S wd c (xs (i + 1))).1) (m' := (cl2 S wd m (xs (i + 1))).1) (r0 := (clS S wd c (xs (i + 1))).2) ?_ ?_ (K.k0 (hR.mono (by omega)))
  · rw [← wK_of (clS_RA S wd c (xs (i + 1))) G a S wd V kd]
    exact k_C_clean h.1.1.1.1 hz h.1.1.2.2.1 h.1.1.2.2.2 _
  · rw [e]
    exact k_M_clean h.1.2.1 _
theorem lc_cleanAll (C : EC X G "CacheRulesLaw" code 7) (P : LPx X bs Ls xs i) (hf : cells ≤ 600000 ∧ slots ≤ 7280000) (h : REL S wd V kd N c m) (K : LKx X G bs o i a a2 S wd V kd N cells slots) : EW X G 7 cells slots 575 (LV bs o a a2 i) [] (LW G o a a2 f c m S wd V kd) := by
  obtain ⟨z, hz⟩ := h.1.1.2.1
  obtain ⟨e, hR⟩ := cleanAll_tie h hz
  refine ld_cleanAll C P ⟨by omega, by omega⟩ (c' := (upd c.1 4 (c.1 4 + spA (c.2 10) (spA (c.2 5) 0 (S * wd)) z), up2 (up2 c.2 5 (zr (c.2 5) (S * wd))) 10 (zr (c.2 10) z))) (m' := (cAr z (cAw 128 (th0 m) 0).1 (cAw 128 (th0 m) 0).2).1) (r0 := spA (c.2 10) (spA (c.2 5) 0 (S * wd)) z) ?_ ?_ (K.k0 (hR.mono (by omega)))
  · rw [← wK_of (c := c) (c' := (upd c.1 4 (c.1 4 + spA (c.2 10) (spA (c.2 5) 0 (S * wd)) z), up2 (up2 c.2 5 (zr (c.2 5) (S * wd))) 10 (zr (c.2 10) z))) ⟨⟨rfl, rfl, rfl, rfl, rfl, rfl, rfl⟩, rfl, rfl, rfl⟩ G a S wd V kd]
    exact k_C_cleanAll h.1.1.1.1 hz h.1.1.2.2.1 h.1.1.2.2.2
  · rw [e]
    exact k_M_cleanAll h.1.2.1 (h.1.2.2.1.2.2.2.2.1.1.symm.trans hz.2.1) hz.2.2.1
theorem lc_drop (C : EC X G "CacheRulesLaw" code 7) (P : LPx X bs Ls xs i) (hf : cells ≤ 600000 ∧ slots ≤ 7280000) (h : REL S wd V kd N c m) (K : LKx X G bs o i a a2 S wd V kd N cells slots) : EW X G 7 cells slots 588 (LV bs o a a2 i) [] (LW G o a a2 f c m S wd V kd) := by
  obtain ⟨e, hR⟩ := drop_tie h (xs (i + 1))
  obtain ⟨z, hz⟩ := h.1.1.2.1
  refine ld_drop C P ⟨by omega, by omega⟩ (c' := (dpS S wd c (xs (i + 1))).1) (m' := (dp2 S wd m (xs (i + 1))).1) (r0 := (dpS S wd c (xs (i + 1))).2) ?_ ?_ (K.k0 (hR.mono (by omega)))
  · rw [← wK_of (dpS_RA S wd c (xs (i + 1))) G a S wd V kd]
    exact k_C_drop h.1.1.1.1 hz h.1.1.2.2.1 h.1.1.2.2.2 _
  · rw [e]
    exact k_M_drop h.1.2.1 _
theorem lc_distance (C : EC X G "CacheRulesLaw" code 7) (P : LPx X bs Ls xs i) (hf : cells ≤ 600000 ∧ slots ≤ 7280000) (h : REL S wd V kd N c m) (K : LKx X G bs o i a a2 S wd V kd N cells slots) : EW X G 7 cells slots 873 (LV bs o a a2 i) [] (LW G o a a2 f c m S wd V kd) := by
  have e := dist_tie h (xs (i + 1))
  obtain ⟨hs, hH⟩ := h.1.hd
  have hn := nh_eq hH
  rw [hn] at e
  have h31 : m.1 31 = nI hs := h.1.2.2.2.2.1.1.symm.trans hH.1
  refine ld_distance C P ⟨by omega, by omega⟩ (c' := c) (m' := th0 m) (r0 := oI (hfd c.2 hs (xs (i + 1)))) (k_C_distance hH _) ?_ (K.k0 ((h.th 0).mono (by omega)))
  rw [e]
  exact k_M_distance h31 hH.2 _
theorem lc_count (C : EC X G "CacheRulesLaw" code 7) (P : LPx X bs Ls xs i) (hf : cells ≤ 600000 ∧ slots ≤ 7280000) (h : REL S wd V kd N c m) (K : LKx X G bs o i a a2 S wd V kd N cells slots) : EW X G 7 cells slots 898 (LV bs o a a2 i) [] (LW G o a a2 f c m S wd V kd) := by
  have out : (xs (i + 1) < 0 ∨ 13 < xs (i + 1)) → EW X G 7 cells slots 898 (LV bs o a a2 i) [] (LW G o a a2 f c m S wd V kd) := fun hq =>
    ld_count C P ⟨by omega, by omega⟩ (c' := c) (m' := th0 m) (r0 := -1) (k_C_count0 hq) (k_M_count0 hq) (K.k0 ((h.th 0).mono (by omega)))
  rcases pk_ix (xs (i + 1)) (n := 14) (by omega) with hq | hq | ⟨q, hq, e⟩
  · exact out (Or.inl hq)
  · refine out (Or.inr ?_)
    rw [Int32.le_iff_toInt_le] at hq
    rw [Int32.lt_iff_toInt_lt]
    have e : (nI 14).toInt = 14 := by decide
    have e2 : (13 : Int32).toInt = 13 := by decide
    omega
  · obtain ⟨n, lc, hA, h25, -⟩ := h.ad
    refine ld_count C P ⟨by omega, by omega⟩ (c' := c) (m' := th0 m) (r0 := ctI c q) ?_ ?_ (K.k0 ((h.th 0).mono (by omega)))
    · rw [e]
      exact k_C_count hq
    · rw [e, count_tie h hq]
      exact k_M_count h25 hA.2.2.1 hq
end LawC
