/-! ALL BUT THE ASKS TIED; AN ACCESS -/
def REL0 (S wd V kd N : Nat) (c m : CS) : Prop := CI S wd V kd c ∧ MI S wd V kd m ∧ zT S wd qT 0 c m ∧ TK S wd kd N c m ∧ zH c m ∧ zK c m
theorem zH_of {c m c' m' : CS} (h : zH c m) (h14 : c'.1 14 = c.1 14) (h15 : c'.1 15 = c.1 15) (h18 : c'.2 18 = c.2 18) (h19 : c'.2 19 = c.2 19) (h31 : m'.1 31 = m.1 31) (h32 : m'.2 32 = m.2 32) (h33 : m'.2 33 = m.2 33) : zH c' m' := by
  unfold zH nh at *
  rw [h14, h15, h18, h19, h31, h32, h33]
  exact h
section Acc
variable {S wd V kd N : Nat} {c m : CS}
theorem REL0.hd (h : REL0 S wd V kd N c m) : ∃ hs, HD c.1 hs := by
  obtain ⟨-, hMI, -, -, hH, -⟩ := h
  obtain ⟨hs, h1, h2⟩ := hMI.2.2.2.1
  exact ⟨hs, hH.1.trans h2, h1⟩
theorem acc_tie (h : REL0 S wd V kd N c m) (hN : N < 2 ^ 30) (x : Int32) {p : Nat} (hp : p < 4) (wt : Int32) : ∃ m', aoM S wd V kd m x p wt = some (m', pfK S wd V kd c x p wt) ∧ REL0 S wd V kd (N + 1) (pfS S wd V kd c x p wt) m' := by
  obtain ⟨hs, hHD⟩ := h.hd
  obtain ⟨hCI, hMI, hT, hK, hH, hKi⟩ := h
  have hk := hMI.1.2.2.2.2.2.2.2
  have hb := bitI_NB hp
  have n1 := ntS_kp c x
  have r1 := rh1_kp m x
  have p1 := pnS_kp m x
  have hT1 : zT S wd qT 0 (ntS c x) (rh1 m x) := by
    refine hT.of (fun k hk _ => n1.1 k (by omega) (by omega)) (fun k hk => n1.2 k (by omega) (by omega)) (r1.1 5 (by omega)) (r1.1 6 (by omega)) (r1.1 21 (by omega)) (fun k hk => r1.2 k (by omega) (by omega) (by omega)) (fun k k1 k2 => ?_)
    show upd ((pnS m x).2 34) 0 _ k = _
    rw [pk_un (by omega), p1.2 34 (by omega) (by omega)]
  have hK1 : TK S wd kd N (ntS c x) (rh1 m x) := TK_of hk hK (ntS_RA c x) (r1.1 12 (by omega)) (r1.1 20 (by omega)) (fun k k1 k2 => r1.2 k (by omega) (by omega) (by omega))
  obtain ⟨m2, q1, q2, q3, q4⟩ := reach_tie (x := x) (wt := wt) (ntS_CI hCI x) (rh1_MI hMI x) hN hb hT1 hK1
  have e1 : rhM S wd V kd m x (bitI p) wt = some (m2, pfK S wd V kd c x p wt) := by
    rw [rhM_eq, q1]
    rfl
  have e3 : pfx S wd V kd (ntS c x) x (bitI p) wt = pf3 S wd V kd c x p wt := rfl
  rw [e3] at q2 q3
  obtain ⟨q, hq, eq⟩ := rhS_kind S wd V kd (ntS c x) x (bitI p) wt
  have eK : pfK S wd V kd c x p wt = nI q := eq
  have hcl : (pfK S wd V kd c x p wt).toNatClampNeg = q := by rw [eK]; exact nI_clamp (by omega)
  have e2 : aoM S wd V kd m x p wt = some (cnt m2 (1 + q) 1, pfK S wd V kd c x p wt) := by
    unfold aoM
    rw [e1]
    show some (cnt m2 (1 + (pfK S wd V kd c x p wt).toNatClampNeg) 1, _) = _
    rw [hcl]
  have hkp := pf3_KP S wd V kd c x p wt
  have eS : pfS S wd V kd c x p wt = (upd (pf3 S wd V kd c x p wt).1 2 ((pf3 S wd V kd c x p wt).1 2 + 1), up2 (pf3 S wd V kd c x p wt).2 20 (upd ((pf3 S wd V kd c x p wt).2 20) q ((pf3 S wd V kd c x p wt).2 20 q + 1))) := by
    unfold pfS
    rw [hcl]
  refine ⟨cnt m2 (1 + q) 1, e2, pfS_CI hCI x hp wt, (aoM_MI hMI x hp wt e2).1, ?_, ?_, ?_, ?_⟩
  · rw [eS]
    refine q2.of (fun k k1 k2 => pk_un k2) (fun k k1 => up2_n _ (by omega)) rfl rfl rfl (fun k k1 => up2_n _ (by omega)) (fun k k1 k2 => ?_)
    exact pk_un (by omega)
  · rw [eS]
    exact TK_of hk q3 ⟨⟨rfl, rfl, rfl, rfl, rfl, rfl, rfl⟩, rfl, rfl, rfl⟩ rfl rfl (fun k k1 k2 => up2_n _ (by omega))
  · rw [eS]
    refine zH_of (hist_tie hHD hH x) (hkp.1 14 (by omega) (by omega) (by omega) (by omega) (by omega)) (hkp.1 15 (by omega) (by omega) (by omega) (by omega) (by omega)) ?_ ?_ (q4.1.trans rfl) ?_ ?_
    · exact hkp.2 18 (by omega) (by omega)
    · exact hkp.2 19 (by omega) (by omega)
    · exact q4.2.1
    · exact q4.2.2.1
  · rw [eS]
    have a2 : (pf3 S wd V kd c x p wt).1 2 = c.1 2 := (hkp.1 2 (by omega) (by omega) (by omega) (by omega) (by omega)).trans (n1.1 2 (by omega) (by omega))
    have a20 : (pf3 S wd V kd c x p wt).2 20 = c.2 20 := (hkp.2 20 (by omega) (by omega)).trans (n1.2 20 (by omega) (by omega))
    have b0 : m2.2 34 0 = m.2 34 0 + 1 := by
      rw [q4.2.2.2 0 (by omega)]
      show upd ((pnS m x).2 34) 0 ((pnS m x).2 34 0 + 1) 0 = _
      rw [pk_us, p1.2 34 (by omega) (by omega)]
    have bk : ∀ k, k < 5 → m2.2 34 (1 + k) = m.2 34 (1 + k) := by
      intro k hk5
      rw [q4.2.2.2 (1 + k) (by omega)]
      show upd ((pnS m x).2 34) 0 ((pnS m x).2 34 0 + 1) (1 + k) = _
      rw [pk_un (by omega), p1.2 34 (by omega) (by omega)]
    refine ⟨?_, ?_⟩
    · show (pf3 S wd V kd c x p wt).1 2 + 1 = upd (m2.2 34) (1 + q) (m2.2 34 (1 + q) + 1) 0
      rw [pk_un (by omega), b0, a2, hKi.1]
    · intro k hk5
      show upd ((pf3 S wd V kd c x p wt).2 20) q ((pf3 S wd V kd c x p wt).2 20 q + 1) k = upd (m2.2 34) (1 + q) (m2.2 34 (1 + q) + 1) (1 + k)
      rw [a20]
      by_cases he : k = q
      · rw [he, pk_us, pk_us, bk q hq, hKi.2 q hq]
      · rw [pk_un he, pk_un (by omega), bk k hk5]
        exact hKi.2 k hk5
theorem REL0.th (h : REL0 S wd V kd N c m) (v : Int32) : REL0 S wd V kd N c (upd m.1 0 v, m.2) := by
  obtain ⟨hCI, hMI, hT, hK, hH, hKi⟩ := h
  have hk := hMI.1.2.2.2.2.2.2.2
  refine ⟨hCI, ⟨hMI.1, MR_of hk hMI.2.1 rfl (fun h => h) rfl rfl, hMI.2.2⟩, hT.of (fun _ _ _ => rfl) (fun _ _ => rfl) rfl rfl rfl (fun _ _ => rfl) (fun _ _ _ => rfl), TK_of hk hK (RA.rf c) rfl rfl (fun _ _ _ => rfl), hH, hKi⟩
theorem REL0.mono {N' : Nat} (h : REL0 S wd V kd N c m) (hN : N ≤ N') : REL0 S wd V kd N' c m := ⟨h.1, h.2.1, h.2.2.1, TK_mono h.2.1.1.2.2.2.2.2.2.2 h.2.2.2.1 hN, h.2.2.2.2⟩
end Acc
