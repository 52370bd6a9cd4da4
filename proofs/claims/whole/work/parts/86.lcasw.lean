/-! THE LAW: its cases with wrappers -/
section LawD
variable {X : EX} {G : EG} {bs Ls o i : Nat} {xs : Nat → Int32} {a a2 : Nat → Nat} {S wd V kd N cells slots : Nat} {c m : CS} {f : Nat → Int64}
theorem lc_access (C : EC X G "CacheRulesLaw" code 7) (Z : EH X) (hfl : X.l.flags = pinnedFlags ++ [noTraceFlag]) (P : LPx X bs Ls xs i) (hf : cells ≤ 600000 ∧ slots ≤ 7280000) (hN : N + 16 < 2 ^ 30) (h : REL S wd V kd N c m) (K : LKx X G bs o i a a2 S wd V kd N cells slots) : EW X G 7 cells slots 221 (LV bs o a a2 i) [] (LW G o a a2 f c m S wd V kd) := by
  have out : (xs (i + 2) < 0 ∨ ¬ xs (i + 2) < 4) → EW X G 7 cells slots 221 (LV bs o a a2 i) [] (LW G o a a2 f c m S wd V kd) := fun ho =>
    lh_access C Z P (ce := 1) (sl := 6) (fr := 7) (lo := 120) ⟨by omega, by omega⟩ (f' := f) (c' := c) (k0 := 1) (tz_L_access rfl (t_C_access hfl (b := 0) ho)) rfl
      (lt_access C P ⟨by omega, by omega⟩ (m' := (upd (th0 m).1 0 1, m.2)) (k_M_access1 _ _ ho) rfl (fun e => absurd e (by decide)) (K _ _ _ (((h.th 0).th 1).mono (by omega))))
  rcases pk_ix (xs (i + 2)) (n := 4) (by omega) with hp | hp | ⟨p, hp, ep⟩
  · exact out (out4 (Or.inl hp))
  · exact out (out4 (Or.inr hp))
  · obtain ⟨hs, hH⟩ := h.1.hd
    obtain ⟨m', e, hR⟩ := access_tie (h.th 0) (by omega) (xs (i + 1)) hp (bI (!(xs (i + 3) == 0)))
    have hmk := aoM_MK h.1.2.1.1.2.2.2.2.2.2.2 e
    refine lh_access C Z P (ce := 0) (sl := 0) (fr := 9) (lo := 300) ⟨by omega, by omega⟩ (k0 := 0) (c' := pfS S wd V kd c (xs (i + 1)) p (bI (!(xs (i + 3) == 0)))) (f' := vp_updL f 0 (pfK S wd V kd c (xs (i + 1)) p (bI (!(xs (i + 3) == 0)))).toInt64) (kz_L_access rfl (by rw [ep]; exact k_C_access h.1.1 hH _ hp _)) rfl ?_
    exact lt_access C P ⟨by omega, by omega⟩ (m' := m') (r1 := pfK S wd V kd c (xs (i + 1)) p (bI (!(xs (i + 3) == 0)))) (by rw [ep]; exact k_M_access h.1.2.1 _ hp _ e) ((hmk.1 0 (by omega) (by omega) (by omega) (by omega)).trans rfl) (fun _ => rfl) (K.k0 (hR.mono (by omega)))
theorem room_iff {n lc : Nat} {x : Int32} (hn : n ≤ 16) (hl : lc ≤ 4) (hD : DL (m.2 26) n = (List.range lc).map (c.2 14)) : roomA c.2 n lc x = true ↔ ¬ (n = 16 ∨ wtM m n x = false ∧ lnN (m.2 26) n = 4) := by
  rw [DL_lc hD, ← wts_eq hD]
  unfold roomA
  cases wts c.2 lc x <;> simp <;> omega
theorem lc_ask (C : EC X G "CacheRulesLaw" code 7) (Z : EH X) (hfl : X.l.flags = pinnedFlags ++ [noTraceFlag]) (P : LPx X bs Ls xs i) (hf : cells ≤ 600000 ∧ slots ≤ 7280000) (hN : N + 16 < 2 ^ 30) (h : REL S wd V kd N c m) (K : LKx X G bs o i a a2 S wd V kd N cells slots) : EW X G 7 cells slots 317 (LV bs o a a2 i) [] (LW G o a a2 f c m S wd V kd) := by
  have out : (xs (i + 2) < 0 ∨ ¬ xs (i + 2) < 4) → EW X G 7 cells slots 317 (LV bs o a a2 i) [] (LW G o a a2 f c m S wd V kd) := fun ho =>
    lh_ask C Z P (ce := 1) (sl := 6) (fr := 7) (lo := 120) ⟨by omega, by omega⟩ (f' := f) (c' := c) (k0 := 1) (tz_L_ask rfl (t_C_ask hfl ho)) rfl
      (lt_ask C P ⟨by omega, by omega⟩ (m' := (upd (th0 m).1 0 1, m.2)) (k_M_ask1 _ ho) rfl (fun e => absurd e (by decide)) (K _ _ _ (((h.th 0).th 1).mono (by omega))))
  rcases pk_ix (xs (i + 2)) (n := 4) (by omega) with hp | hp | ⟨p, hp, ep⟩
  · exact out (out4 (Or.inl hp))
  · exact out (out4 (Or.inr hp))
  · have h9 := h.1.2.2.1.2.2.2.2.2.2.1.1
    cases hh : hitB S wd c (xs (i + 1)) p with
    | true =>
      have hh2 : hitM S wd m (xs (i + 1)) p = true := by rw [← hit_tie h]; exact hh
      obtain ⟨hs, hH⟩ := h.1.hd
      obtain ⟨m', e, hR⟩ := access_tie (h.th 0) (by omega) (xs (i + 1)) hp 0
      have hmk := aoM_MK h.1.2.1.1.2.2.2.2.2.2.2 e
      refine lh_ask C Z P (ce := 0) (sl := 0) (fr := 9) (lo := 300) ⟨by omega, by omega⟩ (k0 := 0) (c' := pfS S wd V kd c (xs (i + 1)) p 0) (f' := vp_updL f 0 (0 : Int32).toInt64) (kz_L_ask rfl (by rw [ep]; exact k_C_askHit h.1.1 hH _ hp hh)) rfl ?_
      exact lt_ask C P ⟨by omega, by omega⟩ (m' := m') (r1 := pfK S wd V kd c (xs (i + 1)) p 0) (by rw [ep]; exact k_M_askHit h.1.2.1 h9 _ hp hh2 e) ((hmk.1 0 (by omega) (by omega) (by omega) (by omega)).trans rfl) (fun _ => by rw [hit_kind h.1.2.1.1 hh]; rfl) (K.k0 (hR.mono (by omega)))
    | false =>
      have hh2 : hitM S wd m (xs (i + 1)) p = false := by rw [← hit_tie h]; exact hh
      obtain ⟨n, lc, hA, h25, hD⟩ := h.ad
      have hri := room_iff (x := xs (i + 1)) hA.2.2.1 hA.2.2.2 hD
      cases hr : roomA c.2 n lc (xs (i + 1)) with
      | true =>
        have hno := hri.mp hr
        refine lh_ask C Z P (ce := 0) (sl := 0) (fr := 9) (lo := 300) ⟨by omega, by omega⟩ (k0 := 0) (c' := asS c (xs (i + 1)) p) (f' := vp_updL f 0 (if wts c.2 lc (xs (i + 1)) then (2 : Int32) else 1).toInt64) (kz_L_ask rfl (by rw [ep]; exact k_C_askWait h.1.1 hA _ hp hh hr)) rfl ?_
        exact lt_ask C P ⟨by omega, by omega⟩ (m' := as2 m n (xs (i + 1)) p) (r1 := if wtM m n (xs (i + 1)) then 2 else 1) (by rw [ep]; exact k_M_askNo h.1.2.1 h9 h25 hA.2.2.1 _ hp hh2 (fun z => absurd z hno) (fun _ => ⟨rfl, rfl⟩)) rfl (fun _ => by rw [← wts_eq hD]; rfl) (K.k0 ((ask_tie h _ hp hA hr).mono (by omega)))
      | false =>
        have hyes : n = 16 ∨ wtM m n (xs (i + 1)) = false ∧ lnN (m.2 26) n = 4 := Decidable.byContradiction fun z => by rw [hri.mpr z] at hr; cases hr
        refine lh_ask C Z P (ce := 1) (sl := 6) (fr := 7) (lo := 120) ⟨by omega, by omega⟩ (f' := f) (c' := c) (k0 := 2) (tz_L_ask2 rfl (by rw [ep]; exact t_C_ask2 hfl h.1.1 hA _ hp hh hr)) rfl ?_
        exact lt_ask C P ⟨by omega, by omega⟩ (m' := (upd (th0 m).1 0 2, m.2)) (r1 := 0) (by rw [ep]; exact k_M_askNo h.1.2.1 h9 h25 hA.2.2.1 _ hp hh2 (fun _ => ⟨rfl, rfl⟩) (fun z => absurd hyes z)) rfl (fun e => absurd e (by decide)) (K _ _ _ (((h.th 0).th 2).mono (by omega)))
theorem lc_answer (C : EC X G "CacheRulesLaw" code 7) (Z : EH X) (hfl : X.l.flags = pinnedFlags ++ [noTraceFlag]) (P : LPx X bs Ls xs i) (hf : cells ≤ 600000 ∧ slots ≤ 7280000) (hN : N + 16 < 2 ^ 30) (h : REL S wd V kd N c m) (K : LKx X G bs o i a a2 S wd V kd N cells slots) : EW X G 7 cells slots 385 (LV bs o a a2 i) [] (LW G o a a2 f c m S wd V kd) := by
  obtain ⟨n, lc, hA, h25, hD⟩ := h.ad
  rcases Nat.eq_zero_or_pos lc with hz | hz
  · subst hz
    have hn0 : n = 0 := by
      rcases Nat.eq_zero_or_pos n with z | z
      · exact z
      · obtain ⟨k, rfl⟩ : ∃ k, n = k + 1 := ⟨n - 1, by omega⟩
        obtain ⟨l, hl⟩ := DL_head (m.2 26) k
        rw [hl] at hD
        cases hD
    subst hn0
    exact lh_answer C Z P (ce := 1) (sl := 6) (fr := 7) (lo := 120) ⟨by omega, by omega⟩ (f' := f) (c' := c) (k0 := 1) (tz_L_answer rfl (t_C_answer hfl hA.2.1)) rfl
      (lt_answer C P ⟨by omega, by omega⟩ (m' := (upd (th0 m).1 0 1, m.2)) (k_M_answer1 h25) rfl (fun e => absurd e (by decide)) (K _ _ _ (((h.th 0).th 1).mono (by omega))))
  · obtain ⟨hs, hH⟩ := h.1.hd
    obtain ⟨m', t, D, hn1, -, hnD, e, h00, hR⟩ := answer_tie h hN hA hz
    have hC := k_C_answer (l := X.l) (G := G) (a := a) h.1.1 hH hA h.2.2.1 hz
    rw [hnD] at hC
    refine lh_answer C Z P (ce := 0) (sl := 0) (fr := 9) (lo := 300) ⟨by omega, by omega⟩ (k0 := 0) (c' := anL S wd V kd (c.2 14 0) (tkS c) 0 D) (f' := vp_updL f 0 (nI D).toInt64) (kz_L_answer rfl hC) rfl ?_
    exact lt_answer C P ⟨by omega, by omega⟩ (m' := (upd m'.1 25 (nI t), m'.2)) (r1 := nI D) (k_M_answer h.1.2.1 h25 hn1 hA.2.2.1 h.2.2.2 e) h00 (fun _ => rfl) (K.k0 hR)
theorem lc_answered (C : EC X G "CacheRulesLaw" code 7) (Z : EH X) (hfl : X.l.flags = pinnedFlags ++ [noTraceFlag]) (P : LPx X bs Ls xs i) (hf : cells ≤ 600000 ∧ slots ≤ 7280000) (h : REL S wd V kd N c m) (K : LKx X G bs o i a a2 S wd V kd N cells slots) : EW X G 7 cells slots 429 (LV bs o a a2 i) [] (LW G o a a2 f c m S wd V kd) := by
  obtain ⟨n, lc, d, a1, a3, a4, a5, a6, a7, a8, a9, a10, a11, a12⟩ := h.2.1
  have out : (xs (i + 1) < 0 ∨ nI d ≤ xs (i + 1) ∨ xs (i + 2) < 0 ∨ ¬ xs (i + 2) ≤ 1) → (OUT (xs (i + 1)) d ∨ OUT (xs (i + 2)) 2) → EW X G 7 cells slots 429 (LV bs o a a2 i) [] (LW G o a a2 f c m S wd V kd) := fun ho ho2 =>
    lh_answered C Z P (ce := 1) (sl := 6) (fr := 7) (lo := 120) ⟨by omega, by omega⟩ (f' := f) (c' := c) (k0 := 1) (tz_L_answered rfl (t_C_answered hfl a8 ho)) rfl
      (lt_answered C P ⟨by omega, by omega⟩ (m' := (upd (th0 m).1 0 1, m.2)) (k_M_answered1 a9 a4 ho2) rfl (fun e => absurd e (by decide)) (K _ _ _ (((h.th 0).th 1).mono (by omega))))
  rcases pk_ix (xs (i + 1)) (n := d) (by omega) with hp | hp | ⟨k, hk, ek⟩
  · exact out (Or.inl hp) (Or.inl (outN (Or.inl hp)))
  · exact out (Or.inr (Or.inl hp)) (Or.inl (outN (Or.inr hp)))
  · rcases pk_ix (xs (i + 2)) (n := 2) (by omega) with hq | hq | ⟨q, hq, eq⟩
    · exact out (Or.inr (Or.inr (Or.inl hq))) (Or.inr (outN (Or.inl hq)))
    · refine out (Or.inr (Or.inr (Or.inr ?_))) (Or.inr (outN (Or.inr hq)))
      intro z
      rw [Int32.le_iff_toInt_le] at hq z
      have e : (nI 2).toInt = 2 := by decide
      have e2 : (1 : Int32).toInt = 1 := by decide
      omega
    · obtain ⟨b, hb⟩ : ∃ b : Bool, nI q = bI b := by
        rcases (by omega : q = 0 ∨ q = 1) with rfl | rfl
        · exact ⟨false, rfl⟩
        · exact ⟨true, rfl⟩
      rw [hb] at eq
      have hv := a11 k hk
      refine lh_answered C Z P (ce := 0) (sl := 0) (fr := 9) (lo := 300) ⟨by omega, by omega⟩ (k0 := 0) (c' := c) (f' := vp_updL f 0 (if b then c.2 16 k else c.2 15 k).toInt64) (kz_L_answered rfl (by rw [ek, eq]; exact k_C_answered a8 a4 hk b)) rfl ?_
      exact lt_answered C P ⟨by omega, by omega⟩ (m' := th0 m) (r1 := if b then m.2 30 k else m.2 29 k) (by rw [ek, eq]; exact k_M_answered a9 a4 hk b) rfl (fun _ => by rw [← hv.1, ← hv.2]; rfl) (K.k0 ((h.th 0).mono (by omega)))
theorem lc_way (C : EC X G "CacheRulesLaw" code 7) (Z : EH X) (hfl : X.l.flags = pinnedFlags ++ [noTraceFlag]) (P : LPx X bs Ls xs i) (hf : cells ≤ 600000 ∧ slots ≤ 7280000) (h : REL S wd V kd N c m) (K : LKx X G bs o i a a2 S wd V kd N cells slots) : EW X G 7 cells slots 613 (LV bs o a a2 i) [] (LW G o a a2 f c m S wd V kd) := by
  have hC := h.1.1.1.1
  have hM := h.1.2.1.1
  have hS := hC.S16
  have hw8 := hC.2.2.2.2
  have outM : (OUT (xs (i + 1)) S ∨ OUT (xs (i + 2)) wd ∨ OUT (xs (i + 3)) 5) → EW X G 7 (cells + 1) (slots + 6) 636 (LV bs o a a2 i) [.int 1] (LW G o a a2 f c m S wd V kd) := fun ho =>
    lt_way C P ⟨by omega, by omega⟩ (m' := (upd (th0 m).1 0 1, m.2)) (k_M_way1 hM ho) rfl (fun e => absurd e (by decide)) (K _ _ _ (((h.th 0).th 1).mono (by omega)))
  have out : (xs (i + 1) < 0 ∨ nI S ≤ xs (i + 1) ∨ xs (i + 2) < 0 ∨ ¬ xs (i + 2) < nI wd) → (OUT (xs (i + 1)) S ∨ OUT (xs (i + 2)) wd ∨ OUT (xs (i + 3)) 5) → EW X G 7 cells slots 613 (LV bs o a a2 i) [] (LW G o a a2 f c m S wd V kd) := fun ho ho2 =>
    lh_way C Z P (ce := 1) (sl := 6) (fr := 7) (lo := 120) ⟨by omega, by omega⟩ (f' := f) (c' := c) (k0 := 1) (tz_L_way rfl (t_C_way hfl hC ho)) rfl (outM ho2)
  rcases pk_ix (xs (i + 1)) (n := S) (by omega) with hp | hp | ⟨s, hs, es⟩
  · exact out (Or.inl hp) (Or.inl (outN (Or.inl hp)))
  · exact out (Or.inr (Or.inl hp)) (Or.inl (outN (Or.inr hp)))
  · rcases pk_ix (xs (i + 2)) (n := wd) (by omega) with hp | hp | ⟨w, hw, ew⟩
    · exact out (Or.inr (Or.inr (Or.inl hp))) (Or.inr (Or.inl (outN (Or.inl hp))))
    · rcases outN (Or.inr hp) with z | z
      · exact out (Or.inr (Or.inr (Or.inl z))) (Or.inr (Or.inl (Or.inl z)))
      · exact out (Or.inr (Or.inr (Or.inr z))) (Or.inr (Or.inl (Or.inr z)))
    · have out2 : ((xs (i + 3)).toInt < 0 ∨ 4 < (xs (i + 3)).toInt) → OUT (xs (i + 3)) 5 → EW X G 7 cells slots 613 (LV bs o a a2 i) [] (LW G o a a2 f c m S wd V kd) := fun ho ho2 =>
        lh_way C Z P (ce := 1) (sl := 6) (fr := 7) (lo := 120) ⟨by omega, by omega⟩ (f' := f) (c' := c) (k0 := 1) (tz_L_way rfl (by rw [es, ew]; exact t_C_way2 hfl hC hs hw ho)) rfl (outM (Or.inr (Or.inr ho2)))
      rcases pk_ix (xs (i + 3)) (n := 5) (by omega) with hq | hq | ⟨q, hq, eq⟩
      · refine out2 (Or.inl ?_) (outN (Or.inl hq))
        rw [Int32.lt_iff_toInt_lt] at hq
        exact hq
      · refine out2 (Or.inr ?_) (outN (Or.inr hq))
        rw [Int32.le_iff_toInt_le] at hq
        have e : (nI 5).toInt = 5 := by decide
        omega
      · refine lh_way C Z P (ce := 0) (sl := 0) (fr := 9) (lo := 300) ⟨by omega, by omega⟩ (k0 := 0) (c' := c) (f' := vp_updL f 0 (wyI c (s * wd + w) q).toInt64) (kz_L_way rfl (by rw [es, ew, eq]; exact k_C_way hC hs hw hq)) rfl ?_
        exact lt_way C P ⟨by omega, by omega⟩ (m' := th0 m) (r1 := wy2 m (8 * s + w) q) (by rw [es, ew, eq]; exact k_M_way hM hs hw hq) rfl (fun _ => by rw [← way_tie h hs hw]; rfl) (K.k0 ((h.th 0).mono (by omega)))
theorem lc_caught (C : EC X G "CacheRulesLaw" code 7) (Z : EH X) (hfl : X.l.flags = pinnedFlags ++ [noTraceFlag]) (P : LPx X bs Ls xs i) (hf : cells ≤ 600000 ∧ slots ≤ 7280000) (h : REL S wd V kd N c m) (K : LKx X G bs o i a a2 S wd V kd N cells slots) : EW X G 7 cells slots 693 (LV bs o a a2 i) [] (LW G o a a2 f c m S wd V kd) := by
  obtain ⟨z, hz⟩ := h.1.1.2.1
  have hnz := nz_eq hz
  have hz4 := hz.2.2
  have h21 : m.1 21 = nI z := h.1.2.2.1.2.2.2.2.1.1.symm.trans hz.2.1
  have outM : (OUT (xs (i + 1)) z ∨ OUT (xs (i + 2)) 3) → EW X G 7 (cells + 1) (slots + 6) 710 (LV bs o a a2 i) [.int 1] (LW G o a a2 f c m S wd V kd) := fun ho =>
    lt_caught C P ⟨by omega, by omega⟩ (m' := (upd (th0 m).1 0 1, m.2)) (k_M_caught1 h21 (by omega) ho) rfl (fun e => absurd e (by decide)) (K _ _ _ (((h.th 0).th 1).mono (by omega)))
  have out : OUT (xs (i + 1)) z → EW X G 7 cells slots 693 (LV bs o a a2 i) [] (LW G o a a2 f c m S wd V kd) := fun ho =>
    lh_caught C Z P (ce := 1) (sl := 6) (fr := 7) (lo := 120) ⟨by omega, by omega⟩ (f' := f) (c' := c) (k0 := 1) (tz_L_caught rfl (t_C_caught hfl hz ho)) rfl (outM (Or.inl ho))
  rcases pk_ix (xs (i + 1)) (n := z) (by omega) with hp | hp | ⟨k, hk, ek⟩
  · exact out (outN (Or.inl hp))
  · exact out (outN (Or.inr hp))
  · have out2 : ((xs (i + 2)).toInt < 0 ∨ 2 < (xs (i + 2)).toInt) → OUT (xs (i + 2)) 3 → EW X G 7 cells slots 693 (LV bs o a a2 i) [] (LW G o a a2 f c m S wd V kd) := fun ho ho2 =>
      lh_caught C Z P (ce := 1) (sl := 6) (fr := 7) (lo := 120) ⟨by omega, by omega⟩ (f' := f) (c' := c) (k0 := 1) (tz_L_caught rfl (by rw [ek]; exact t_C_caught2 hfl hz hk ho)) rfl (outM (Or.inr ho2))
    rcases pk_ix (xs (i + 2)) (n := 3) (by omega) with hq | hq | ⟨q, hq, eq⟩
    · refine out2 (Or.inl ?_) (outN (Or.inl hq))
      rw [Int32.lt_iff_toInt_lt] at hq
      exact hq
    · refine out2 (Or.inr ?_) (outN (Or.inr hq))
      rw [Int32.le_iff_toInt_le] at hq
      have e : (nI 3).toInt = 3 := by decide
      omega
    · refine lh_caught C Z P (ce := 0) (sl := 0) (fr := 9) (lo := 300) ⟨by omega, by omega⟩ (k0 := 0) (c' := c) (f' := vp_updL f 0 (cgI c k q).toInt64) (kz_L_caught rfl (by rw [ek, eq]; exact k_C_caught hz hk hq)) rfl ?_
      exact lt_caught C P ⟨by omega, by omega⟩ (m' := th0 m) (r1 := cg2 m k q) (by rw [ek, eq]; exact k_M_caught h21 (by omega) hk hq) rfl (fun _ => by rw [← caught_tie h (by omega)]; rfl) (K.k0 ((h.th 0).mono (by omega)))
theorem lc_next (C : EC X G "CacheRulesLaw" code 7) (Z : EH X) (hfl : X.l.flags = pinnedFlags ++ [noTraceFlag]) (P : LPx X bs Ls xs i) (hf : cells ≤ 600000 ∧ slots ≤ 7280000) (hN : N + 16 < 2 ^ 30) (h : REL S wd V kd N c m) (K : LKx X G bs o i a a2 S wd V kd N cells slots) : EW X G 7 cells slots 761 (LV bs o a a2 i) [] (LW G o a a2 f c m S wd V kd) := by
  have hC := h.1.1.1.1
  have hS := hC.S16
  have out : OUT (xs (i + 1)) S → EW X G 7 cells slots 761 (LV bs o a a2 i) [] (LW G o a a2 f c m S wd V kd) := fun ho =>
    lh_next C Z P (ce := 1) (sl := 6) (fr := 7) (lo := 120) ⟨by omega, by omega⟩ (f' := f) (c' := c) (k0 := 1) (tz_L_next rfl (t_C_next hfl hC ho)) rfl
      (lt_next C P ⟨by omega, by omega⟩ (m' := (upd (th0 m).1 0 1, m.2)) (k_M_next1 h.1.2.1.1 ho) rfl (fun e => absurd e (by decide)) (K _ _ _ (((h.th 0).th 1).mono (by omega))))
  rcases pk_ix (xs (i + 1)) (n := S) (by omega) with hp | hp | ⟨s, hs, es⟩
  · exact out (outN (Or.inl hp))
  · exact out (outN (Or.inr hp))
  · obtain ⟨q, m', e1, e2, e3, hR⟩ := next_tie h (by omega) hs
    have h00 : m'.1 0 = 0 := by
      cases hb : (fullB m wd s && freeB m wd s) with
      | false => rw [(e2 hb).2]; rfl
      | true =>
        obtain ⟨r, r1, -⟩ := e3 hb
        exact ((pkS_kp h.1.2.1.1.2.2.2.2.2.2.2 r1).1 0 (by omega)).trans rfl
    refine lh_next C Z P (ce := 0) (sl := 0) (fr := 9) (lo := 300) ⟨by omega, by omega⟩ (k0 := 0) (c' := c) (f' := vp_updL f 0 (oI (nxO wd kd c s)).toInt64) (kz_L_next rfl (by rw [es]; exact k_C_next h.1.1.1 hs)) rfl ?_
    exact lt_next C P ⟨by omega, by omega⟩ (m' := m') (r1 := q) (by rw [es]; exact k_M_next h.1.2.1 hs e2 e3) h00 (fun _ => by rw [← e1]; rfl) (K.k0 (hR.mono (by omega)))
theorem lc_misses (C : EC X G "CacheRulesLaw" code 7) (Z : EH X) (hfl : X.l.flags = pinnedFlags ++ [noTraceFlag]) (P : LPx X bs Ls xs i) (hf : cells ≤ 600000 ∧ slots ≤ 7280000) (h : REL S wd V kd N c m) (K : LKx X G bs o i a a2 S wd V kd N cells slots) : EW X G 7 cells slots 817 (LV bs o a a2 i) [] (LW G o a a2 f c m S wd V kd) := by
  have out : (xs (i + 1) < 1 ∨ ¬ xs (i + 1) ≤ 64) → (xs (i + 1) < 1 ∨ 64 < xs (i + 1)) → EW X G 7 cells slots 817 (LV bs o a a2 i) [] (LW G o a a2 f c m S wd V kd) := fun ho ho2 =>
    lh_misses C Z P (ce := 1) (sl := 6) (fr := 7) (lo := 120) ⟨by omega, by omega⟩ (f' := f) (c' := c) (k0 := 1) (tz_L_misses rfl (t_C_misses hfl ho)) rfl
      (lt_misses C P ⟨by omega, by omega⟩ (m' := (upd (th0 m).1 0 1, m.2)) (k_M_misses1 ho2) rfl (fun e => absurd e (by decide)) (K _ _ _ (((h.th 0).th 1).mono (by omega))))
  have e0 : (0 : Int32).toInt = 0 := by decide
  have e1 : (1 : Int32).toInt = 1 := by decide
  have e64 : (64 : Int32).toInt = 64 := by decide
  have e65 : (nI 65).toInt = 65 := by decide
  rcases pk_ix (xs (i + 1)) (n := 65) (by omega) with hp | hp | ⟨q, hq, eq⟩
  · have : xs (i + 1) < 1 := by
      rw [Int32.lt_iff_toInt_lt] at hp ⊢
      omega
    exact out (Or.inl this) (Or.inl this)
  · have : 64 < xs (i + 1) := by
      rw [Int32.le_iff_toInt_le] at hp
      rw [Int32.lt_iff_toInt_lt]
      omega
    refine out (Or.inr (fun z => ?_)) (Or.inr this)
    rw [Int32.lt_iff_toInt_lt] at this
    rw [Int32.le_iff_toInt_le] at z
    omega
  · rcases Nat.eq_zero_or_pos q with hz | hz
    · subst hz
      have : xs (i + 1) < 1 := by rw [eq]; decide
      exact out (Or.inl this) (Or.inl this)
    · refine lh_misses C Z P (ce := 0) (sl := 0) (fr := 9) (lo := 300) ⟨by omega, by omega⟩ (k0 := 0) (c' := c) (f' := vp_updL f 0 (accF (c.2 19) (c.1 15) q (64 - q)).toInt64) (kz_L_misses rfl (by rw [eq]; exact k_C_misses hz (by omega))) rfl ?_
      exact lt_misses C P ⟨by omega, by omega⟩ (m' := th0 m) (r1 := accF (m.2 33) 0 q (65 - q)) (by rw [eq]; exact k_M_misses hz (by omega)) rfl (fun _ => by rw [← miss_tie h (by omega)]; rfl) (K.k0 ((h.th 0).mono (by omega)))
end LawD
