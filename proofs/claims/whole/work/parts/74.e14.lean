section Calls2
variable {S wd V kd N : Nat} {c m : CS}
theorem popI_0 : popI 0 = 0 := by decide
/-- a slot's changes are written -/
theorem clw_tie {y : Int32} {s w : Nat} (h : zT S wd qT 0 c m) (hs : s < S) (hw : w < wd) (h8 : wd ≤ 8) (hne : c.2 3 (s * wd + w) ≠ 0) (hy : y = c.2 5 (s * wd + w)) : zT S wd qT 0 (upd c.1 4 (c.1 4 + popI y), up2 c.2 5 (upd (c.2 5) (s * wd + w) 0)) (cnt (m.1, up2 m.2 10 (upd (m.2 10) (8 * s + w) 0)) 7 (popI y)) := by
  obtain ⟨hL, hU, h6, hX, hR, hF, hP, hC⟩ := h
  refine ⟨?_, hU, h6, hX, hR, hF, hP, ⟨hC.1, ?_, hC.2.2⟩⟩
  · intro s' w' hs' hw' _
    have hh := hL s' w' hs' hw' trivial
    show c.2 3 (s' * wd + w') = m.2 7 (8 * s' + w') ∧ (c.2 3 (s' * wd + w') ≠ 0 → c.2 2 (s' * wd + w') = m.2 8 (8 * s' + w') ∧ c.2 4 (s' * wd + w') = m.2 9 (8 * s' + w') ∧ upd (c.2 5) (s * wd + w) 0 (s' * wd + w') = upd (m.2 10) (8 * s + w) 0 (8 * s' + w')) ∧ (c.2 3 (s' * wd + w') = 0 → c.2 2 (s' * wd + w') = 0 ∧ c.2 4 (s' * wd + w') = 0 ∧ upd (c.2 5) (s * wd + w) 0 (s' * wd + w') = 0 ∧ c.2 6 (s' * wd + w') = 0)
    by_cases hj : s' = s ∧ w' = w
    · rw [hj.1, hj.2] at hh ⊢
      exact ⟨hh.1, fun n => ⟨(hh.2.1 n).1, (hh.2.1 n).2.1, by rw [pk_us, pk_us]⟩, fun z => absurd z hne⟩
    · have n1 : s' * wd + w' ≠ s * wd + w := fun q => hj (slot_inj hw' hw q)
      have n2 : 8 * s' + w' ≠ 8 * s + w := by omega
      rw [pk_un n1, pk_un n2]
      exact hh
  · show c.1 4 + popI y = m.2 34 7 + popI y
    rw [hC.2.1]
theorem clr_tie {y : Int32} {k : Nat} (h : zT S wd qT 0 c m) : zT S wd qT 0 (upd c.1 4 (c.1 4 + popI y), up2 c.2 10 (upd (c.2 10) k 0)) (cnt (m.1, up2 m.2 24 (upd (m.2 24) k 0)) 7 (popI y)) := by
  obtain ⟨hL, hU, h6, hX, hR, hF, hP, hC⟩ := h
  refine ⟨hL, hU, h6, hX, ⟨hR.1, ?_⟩, hF, hP, ⟨hC.1, ?_, hC.2.2⟩⟩
  · intro i hi
    have hh := hR.2 i hi
    show c.2 8 i = m.2 22 i ∧ c.2 9 i = m.2 23 i ∧ upd (c.2 10) k 0 i = upd (m.2 24) k 0 i
    by_cases he : i = k
    · rw [he] at hh ⊢
      exact ⟨hh.1, hh.2.1, by rw [pk_us, pk_us]⟩
    · rw [pk_un he, pk_un he]
      exact hh
  · show c.1 4 + popI y = m.2 34 7 + popI y
    rw [hC.2.1]
theorem clean_tie (h : REL S wd V kd N c m) (x : Int32) : (clS S wd c x).2 = (cl2 S wd m x).2 ∧ REL S wd V kd N (clS S wd c x).1 (cl2 S wd m x).1 := by
  have h := h.th 0
  have e0 : (upd m.1 0 0, m.2) = th0 m := rfl
  rw [e0] at h
  obtain ⟨hCI, hMI, hT, -⟩ := h.1
  have hk := hMI.1.2.2.2.2.2.2.2
  have hw8 := hMI.1.w8
  have hs := hMI.1.lt x
  have e1 := fdW_w (S := S) (wd := wd) (c := c) x
  have e2 : fdM S wd m x = (fw S wd c x).map (fun w => 8 * sN S x + w) := fdM_w hT hs
  have e3 : frM m x = fdR c x := frM_r hT x
  unfold clS cl2
  rw [e1, e2]
  cases hf : fw S wd c x with
  | some w =>
    have hw := fw_some hf
    have hsl := hT.1 (sN S x) w hs hw.1 trivial
    have e10 : c.2 5 (sN S x * wd + w) = m.2 10 (8 * sN S x + w) := (hsl.2.1 hw.2.1).2.2
    have h7 : ¬ m.2 7 (8 * sN S x + w) = 0 := by
      have : c.2 3 (sN S x * wd + w) = m.2 7 (8 * sN S x + w) := hsl.1
      rw [← this]; exact hw.2.1
    have ec : cw2 (th0 m) (8 * sN S x + w) = (cnt ((th0 m).1, up2 m.2 10 (upd (m.2 10) (8 * sN S x + w) 0)) 7 (popI (m.2 10 (8 * sN S x + w))), popI (m.2 10 (8 * sN S x + w))) := by
      unfold cw2
      rw [if_neg (show ¬ (th0 m).2 7 (8 * sN S x + w) = 0 from h7)]
      rfl
    show popI (c.2 5 (sN S x * wd + w)) = (cw2 (th0 m) (8 * sN S x + w)).2 ∧ REL S wd V kd N (upd c.1 4 (c.1 4 + popI (c.2 5 (sN S x * wd + w))), up2 c.2 5 (upd (c.2 5) (sN S x * wd + w) 0)) (cw2 (th0 m) (8 * sN S x + w)).1
    have hMc := cw2_MI hMI (8 * sN S x + w)
    rw [ec] at hMc ⊢
    rw [← e10] at hMc ⊢
    refine ⟨rfl, REL_st h ?_ hMc (clw_tie hT hs hw.1 hw8.2 hw.2.1 rfl) (fun k k1 => pk_un (by omega)) (fun k k1 => up2_n _ (by omega)) (fun _ _ _ _ _ => rfl) (fun k k1 k2 k3 => ?_) (fun k k1 => ?_)⟩
    · exact ⟨RA.rc (c := c) ⟨⟨rfl, rfl, rfl, rfl, rfl, rfl, rfl⟩, rfl, rfl, rfl⟩ hCI.1, hCI.2.1, NB.up hCI.2.2.1 _ NB.z, hCI.2.2.2⟩
    · show up2 (up2 m.2 10 _) 34 _ k = m.2 k
      rw [up2_n _ k3, up2_n _ (by omega)]
    · show upd (m.2 34) 7 _ k = _
      exact pk_un (by omega)
  | none =>
    show _ ∧ REL S wd V kd N _ _
    simp only [Option.map_none]
    rw [e3]
    cases hr : fdR c x with
    | some k =>
      have hkr := fst1_some hr
      have hkz : k < nz c := by omega
      have e24 : c.2 10 k = m.2 24 k := (hT.2.2.2.2.1.2 k hkz).2.2
      show popI (c.2 10 k) = popI (m.2 24 k) ∧ REL S wd V kd N (upd c.1 4 (c.1 4 + popI (c.2 10 k)), up2 c.2 10 (upd (c.2 10) k 0)) (cnt ((th0 m).1, up2 m.2 24 (upd (m.2 24) k 0)) 7 (popI (m.2 24 k)))
      have hMc : MI S wd V kd (cnt ((th0 m).1, up2 m.2 24 (upd (m.2 24) k 0)) 7 (popI (m.2 24 k))) := cr2_MI hMI k
      rw [← e24] at hMc ⊢
      refine ⟨rfl, REL_st h ?_ hMc (clr_tie hT) (fun k k1 => pk_un (by omega)) (fun k k1 => up2_n _ (by omega)) (fun _ _ _ _ _ => rfl) (fun k k1 k2 k3 => ?_) (fun k k1 => ?_)⟩
      · exact ⟨RA.rc (c := c) ⟨⟨rfl, rfl, rfl, rfl, rfl, rfl, rfl⟩, rfl, rfl, rfl⟩ hCI.1, hCI.2.1, hCI.2.2.1, NB.up hCI.2.2.2 _ NB.z⟩
      · show up2 (up2 m.2 24 _) 34 _ k = m.2 k
        rw [up2_n _ k3, up2_n _ (by omega)]
      · show upd (m.2 34) 7 _ k = _
        exact pk_un (by omega)
    | none =>
      show (0 : Int32) = 0 ∧ REL S wd V kd N (upd c.1 4 (c.1 4 + 0), c.2) (th0 m)
      rw [i0, upd_self _ rfl]
      exact ⟨rfl, h⟩
theorem drop_tie (h : REL S wd V kd N c m) (x : Int32) : (dpS S wd c x).2 = (dp2 S wd m x).2 ∧ REL S wd V kd N (dpS S wd c x).1 (dp2 S wd m x).1 := by
  have hold := h
  have h := h.th 0
  have e0 : (upd m.1 0 0, m.2) = th0 m := rfl
  rw [e0] at h
  obtain ⟨hCI, hMI, hT, -⟩ := h.1
  have hk := hMI.1.2.2.2.2.2.2.2
  have hw8 := hMI.1.w8
  have hs := hMI.1.lt x
  have e1 := fdW_w (S := S) (wd := wd) (c := c) x
  have e2 : fdM S wd m x = (fw S wd c x).map (fun w => 8 * sN S x + w) := fdM_w hT hs
  have e3 : frM m x = fdR c x := frM_r hT x
  unfold dpS dp2
  rw [e1, e2]
  cases hf : fw S wd c x with
  | some w =>
    have hw := fw_some hf
    have hsl := hT.1 (sN S x) w hs hw.1 trivial
    have e10 : c.2 5 (sN S x * wd + w) = m.2 10 (8 * sN S x + w) := (hsl.2.1 hw.2.1).2.2
    show popI (c.2 5 (sN S x * wd + w)) = popI (m.2 10 (8 * sN S x + w)) ∧ REL S wd V kd N (c.1, emptyF c.2 (sN S x * wd + w)) ((th0 m).1, up2 (up2 m.2 7 (upd (m.2 7) (8 * sN S x + w) 0)) 11 (upd (m.2 11) (8 * sN S x + w) 0))
    refine ⟨by rw [e10], REL_st h ?_ ⟨hMI.1, MR_of hk hMI.2.1 rfl (fun h => h) rfl rfl, hMI.2.2⟩ ?_ (fun _ _ => rfl) (fun k k1 => ?_) (fun _ _ _ _ _ => rfl) (fun k k1 _ _ => ?_) (fun _ _ => rfl)⟩
    · exact ⟨RA.rc (c := c) ⟨⟨rfl, rfl, rfl, rfl, rfl, rfl, rfl⟩, rfl, rfl, rfl⟩ hCI.1, hCI.2.1, NB.up hCI.2.2.1 _ NB.z, hCI.2.2.2⟩
    · obtain ⟨hL, hU, h6, hX, hR, hF, hP, hC⟩ := hT
      refine ⟨?_, ⟨?_, hU.2⟩, TI.up h6 hw8.2 hw.1 rfl, ?_, hR, hF, hP, hC⟩
      · intro s' w' hs' hw' _
        have hh := hL s' w' hs' hw' trivial
        show upd (c.2 3) (sN S x * wd + w) 0 (s' * wd + w') = upd (m.2 7) (8 * sN S x + w) 0 (8 * s' + w') ∧ (upd (c.2 3) (sN S x * wd + w) 0 (s' * wd + w') ≠ 0 → upd (c.2 2) (sN S x * wd + w) 0 (s' * wd + w') = m.2 8 (8 * s' + w') ∧ upd (c.2 4) (sN S x * wd + w) 0 (s' * wd + w') = m.2 9 (8 * s' + w') ∧ upd (c.2 5) (sN S x * wd + w) 0 (s' * wd + w') = m.2 10 (8 * s' + w')) ∧ (upd (c.2 3) (sN S x * wd + w) 0 (s' * wd + w') = 0 → upd (c.2 2) (sN S x * wd + w) 0 (s' * wd + w') = 0 ∧ upd (c.2 4) (sN S x * wd + w) 0 (s' * wd + w') = 0 ∧ upd (c.2 5) (sN S x * wd + w) 0 (s' * wd + w') = 0 ∧ upd (c.2 6) (sN S x * wd + w) 0 (s' * wd + w') = 0)
        by_cases hj : s' = sN S x ∧ w' = w
        · rw [hj.1, hj.2]
          refine ⟨by rw [pk_us, pk_us], fun n => absurd pk_us n, fun _ => ⟨pk_us, pk_us, pk_us, pk_us⟩⟩
        · have n1 : s' * wd + w' ≠ sN S x * wd + w := fun q => hj (slot_inj hw' hw.1 q)
          have n2 : 8 * s' + w' ≠ 8 * sN S x + w := by have := hw.1; omega
          simp only [pk_un n1, pk_un n2]
          exact hh
      · intro s' w' hs' hw' _ hne
        have hne : upd (c.2 3) (sN S x * wd + w) 0 (s' * wd + w') ≠ 0 := hne
        show sN S (upd (c.2 2) (sN S x * wd + w) 0 (s' * wd + w')) = s' ∧ (∀ w'', w'' < wd → qT s' w'' → upd (c.2 3) (sN S x * wd + w) 0 (s' * wd + w'') ≠ 0 → upd (c.2 2) (sN S x * wd + w) 0 (s' * wd + w'') = upd (c.2 2) (sN S x * wd + w) 0 (s' * wd + w') → w'' = w') ∧ ∀ k, k < nz c → c.2 8 k ≠ upd (c.2 2) (sN S x * wd + w) 0 (s' * wd + w')
        by_cases hj : s' * wd + w' = sN S x * wd + w
        · rw [hj, pk_us] at hne
          exact absurd rfl hne
        · rw [pk_un hj] at hne ⊢
          have hh := hU.1 s' w' hs' hw' trivial hne
          refine ⟨hh.1, ?_, hh.2.2⟩
          intro w'' hw'' _ hne2 he
          by_cases hj2 : s' * wd + w'' = sN S x * wd + w
          · rw [hj2, pk_us] at hne2
            exact absurd rfl hne2
          · rw [pk_un hj2] at hne2 he
            exact hh.2.1 w'' hw'' trivial hne2 he
      · intro s' w' hw' hn
        show upd (m.2 7) (8 * sN S x + w) 0 (8 * s' + w') = 0
        by_cases he : 8 * s' + w' = 8 * sN S x + w
        · rw [he, pk_us]
        · rw [pk_un he]
          exact hX s' w' hw' hn
    · show up2 (up2 (up2 (up2 (up2 c.2 2 _) 3 _) 4 _) 5 _) 6 _ k = c.2 k
      rw [up2_n _ (by omega), up2_n _ (by omega), up2_n _ (by omega), up2_n _ (by omega), up2_n _ (by omega)]
    · show up2 (up2 m.2 7 _) 11 _ k = m.2 k
      rw [up2_n _ (by omega), up2_n _ (by omega)]
  | none =>
    show _ ∧ REL S wd V kd N _ _
    simp only [Option.map_none]
    rw [e3]
    cases hr : fdR c x with
    | some k =>
      have hkr := fst1_some hr
      have hkz : k < nz c := by omega
      have e24 : c.2 10 k = m.2 24 k := (hT.2.2.2.2.1.2 k hkz).2.2
      have hV := hMI.1.2.2.2.2.2.2.1
      obtain ⟨z, hz⟩ := hCI.2.1
      have hnz := nz_eq hz
      have hz4 := hz.2.2
      have hnm : nzM (th0 m) = nz c := zR_nz hT.2.2.2.2.1
      have hnm2 : nzM m = nz c := hnm
      show popI (c.2 10 k) = popI (m.2 24 k) ∧ REL S wd V kd N (upd c.1 10 (nI (nz c - 1)), rmF c.2 k (nz c - 1)) (upd (th0 m).1 21 (nI (nzM m - 1)), trF m.2 k (nzM m - 1))
      rw [hnm2]
      refine ⟨by rw [e24], REL_st h (rmC_CI hCI rfl hkz) (rmM_MI hMI hnm hkz) (rem_tie hT rfl (by omega) hkz rfl rfl (i0 _).symm rfl rfl (fun _ _ _ => rfl) (fun _ _ => rfl)) (fun k k1 => pk_un (by omega)) (fun k k1 => ?_) (fun k _ _ _ k4 => pk_un k4) (fun k k1 k2 _ => ?_) (fun _ _ => rfl)⟩
      · show up2 (up2 (up2 c.2 8 _) 9 _) 10 _ k = c.2 k
        rw [up2_n _ (by omega), up2_n _ (by omega), up2_n _ (by omega)]
      · show up2 (up2 (up2 m.2 22 _) 23 _) 24 _ k = m.2 k
        rw [up2_n _ (by omega), up2_n _ (by omega), up2_n _ (by omega)]
    | none => exact ⟨rfl, h⟩
theorem way_tie (h : REL S wd V kd N c m) {s w q : Nat} (hs : s < S) (hw : w < wd) : wyI c (s * wd + w) q = wy2 m (8 * s + w) q := by
  obtain ⟨hCI, hMI, hT, -⟩ := h.1
  have hh := hT.1 s w hs hw trivial
  have h6 := hT.2.2.1 s w hs hw
  unfold wy2
  by_cases h0 : c.2 3 (s * wd + w) = 0
  · have hz := hh.2.2 h0
    rw [if_pos (show m.2 7 (8 * s + w) = 0 by rw [← hh.1]; exact h0)]
    match q with
    | 0 => exact hz.1
    | 1 => exact if_pos h0
    | 2 => exact hz.2.1
    | 3 => exact hz.2.2.1
    | q + 4 => exact if_pos hz.2.2.2
  · have hz := hh.2.1 h0
    rw [if_neg (show ¬ m.2 7 (8 * s + w) = 0 by rw [← hh.1]; exact h0)]
    match q with
    | 0 => exact hz.1
    | 1 => exact if_neg h0
    | 2 => exact hz.2.1
    | 3 => exact hz.2.2
    | q + 4 =>
      show (if c.2 6 (s * wd + w) = 0 then (0 : Int32) else 1) = if m.2 11 (8 * s + w) = 0 then 0 else 1
      rw [h6]
theorem caught_tie (h : REL S wd V kd N c m) {k q : Nat} (hk : k < nz c) : cgI c k q = cg2 m k q := by
  obtain ⟨hCI, hMI, hT, -⟩ := h.1
  have hh := hT.2.2.2.2.1.2 k hk
  match q with
  | 0 => exact hh.1
  | 1 => exact hh.2.1
  | q + 2 => exact hh.2.2
theorem dist_tie (h : REL S wd V kd N c m) (x : Int32) : hfd c.2 (nh c) x = dsM m.2 (nh c) x := (ds_h h.1.2.2.2.2.1 x).symm
theorem accF_add (g : Nat → Int32) : ∀ (q k : Nat) (s : Int32), accF g s k q = s + accF g 0 k q
  | 0, _, s => (i0 s).symm
  | q + 1, k, s => by
    unfold accF
    rw [accF_add g q (k + 1) (s + g k), accF_add g q (k + 1) (0 + g k), Int32.zero_add, Int32.add_assoc]
theorem accF_snoc (g : Nat → Int32) : ∀ (q k : Nat) (s : Int32), accF g s k (q + 1) = accF g s k q + g (k + q)
  | 0, _, _ => rfl
  | q + 1, k, s => by
    rw [accF, accF_snoc g q (k + 1) (s + g k), show k + 1 + q = k + (q + 1) by omega]
    rfl
theorem accF_cong {g h : Nat → Int32} : ∀ (q k : Nat) (s : Int32), (∀ j, k ≤ j → j < k + q → g j = h j) → accF g s k q = accF h s k q
  | 0, _, _, _ => rfl
  | q + 1, k, s, e => by
    unfold accF
    rw [e k (Nat.le_refl _) (by omega)]
    exact accF_cong q (k + 1) _ (fun j j1 j2 => e j (by omega) (by omega))
theorem miss_tie (h : REL S wd V kd N c m) {q : Nat} (hq : q ≤ 64) : accF (c.2 19) (c.1 15) q (64 - q) = accF (m.2 33) 0 q (65 - q) := by
  obtain ⟨-, -, -, a4, a5⟩ := h.1.2.2.2.2.1
  rw [show 65 - q = 64 - q + 1 by omega, accF_snoc, accF_add, a5, accF_cong (h := m.2 33) (64 - q) q 0 (fun j j1 j2 => a4 j (by omega)), show q + (64 - q) = 64 by omega, Int32.add_comm]
theorem count_tie (h : REL S wd V kd N c m) {q : Nat} (hq : q < 14) : ctI c q = ct2 m q := by
  obtain ⟨hCI, hMI, hT, -, -, hK⟩ := h.1
  obtain ⟨n, lc, d, a1, a2, a3, a4, a5, a6, a7, a8, a9, a10, a11⟩ := h.2.1
  obtain ⟨hL, hU, h6, hX, hR, hF, hP, hC⟩ := hT
  rcases (by omega : q = 0 ∨ q = 1 ∨ q = 2 ∨ q = 3 ∨ q = 4 ∨ q = 5 ∨ q = 6 ∨ q = 7 ∨ q = 8 ∨ q = 9 ∨ q = 10 ∨ q = 11 ∨ q = 12 ∨ q = 13) with rfl | rfl | rfl | rfl | rfl | rfl | rfl | rfl | rfl | rfl | rfl | rfl | rfl | rfl
  · exact hK.1
  · exact hK.2 0 (by omega)
  · exact hK.2 1 (by omega)
  · exact hK.2 2 (by omega)
  · exact hK.2 3 (by omega)
  · exact hK.2 4 (by omega)
  · show c.1 3 = m.2 34 6
    rw [hC.1, i0]
  · exact hC.2.1
  · exact hC.2.2
  · exact hR.1
  · show c.1 11 = m.1 25
    rw [a4, a5]
  · show c.1 12 = nI (lnN (m.2 26) (m.1 25).toNatClampNeg)
    rw [a5, nI_clamp (by omega), DL_lc a11, a6]
  · show c.1 6 = m.1 1
    rw [hCI.1.1.1, hMI.1.1]
  · show c.1 7 = m.1 2
    rw [hCI.1.1.2.1, hMI.1.2.1]
theorem hit_tie (h : REL S wd V kd N c m) (x : Int32) (p : Nat) : hitB S wd c x p = hitM S wd m x p := by
  obtain ⟨hCI, hMI, hT, -⟩ := h.1
  have hs := hMI.1.lt x
  have e1 := fdW_w (S := S) (wd := wd) (c := c) x
  have e2 := fdM_w hT hs
  unfold hitB hitM
  rw [e1, e2]
  cases hf : fw S wd c x with
  | none => rfl
  | some w =>
    have hw := fw_some hf
    have e9 := ((hT.1 (sN S x) w hs hw.1 trivial).2.1 hw.2.1).2.1
    show (!(c.2 4 (sN S x * wd + w) &&& bitI p == 0)) = (!(m.2 9 (8 * sN S x + w) &&& bitI p == 0))
    rw [e9]
/-- a hit is of kind 0 -/
theorem hit_kind (hMD : MD m.1 S wd V kd) {x : Int32} {p : Nat} (hh : hitB S wd c x p = true) : pfK S wd V kd c x p 0 = 0 := by
  have n1 := ntS_kp c x
  unfold hitB fdW at hh
  unfold pfK rhS
  have e : fst1 (hasL (ntS c x).2 x) (sN S x * wd) wd = fst1 (hasL c.2 x) (sN S x * wd) wd := by
    unfold hasL
    rw [n1.2 2 (by omega) (by omega), n1.2 3 (by omega) (by omega)]
  rw [e]
  cases hf : fst1 (hasL c.2 x) (sN S x * wd) wd with
  | none => rw [hf] at hh; cases hh
  | some j =>
    rw [hf] at hh
    have hj := fst1_some hf
    have hh : ¬ c.2 4 j &&& bitI p = 0 := by simpa using hh
    dsimp only
    unfold uwS
    rw [show sN S x * wd + (j - sN S x * wd) = j by omega, n1.2 4 (by omega) (by omega), if_neg hh]
theorem next_tie (h : REL S wd V kd N c m) (hN : N < 2 ^ 30) {s : Nat} (hs : s < S) : ∃ q m', oI (nxO wd kd c s) = q ∧ ((fullB m wd s && freeB m wd s) = false → q = -1 ∧ m' = th0 m) ∧ ((fullB m wd s && freeB m wd s) = true → ∃ r, pkS wd kd (th0 m) s false = some (m', r) ∧ q = nI (r - 8 * s)) ∧ REL S wd V kd N c m' := by
  have h0 := h.th 0
  have e0 : (upd m.1 0 0, m.2) = th0 m := rfl
  rw [e0] at h0
  obtain ⟨hCI, hMI, hT, hK, hH, hKi⟩ := h0.1
  have hk := hMI.1.2.2.2.2.2.2.2
  have e1 : fst1 (fun k => m.2 7 k == 0) (8 * s) wd = (fst1 (fun w => c.2 3 (s * wd + w) == 0) 0 wd).map (fun w => 8 * s + w) := em_w hT hs
  have e2 : fst1 (fun k => m.2 11 k == 0) (8 * s) wd = (fst1 (fun w => c.2 6 (s * wd + w) == 0) 0 wd).map (fun w => 8 * s + w) := by
    rw [fst1_o]
    congr 1
    exact fst1_cong (fun w _ w2 => by rw [hT.2.2.1 s w hs (by omega)]; rfl)
  have hfu : fullB m wd s = (fst1 (fun w => c.2 3 (s * wd + w) == 0) 0 wd).isNone := by
    unfold fullB
    rw [e1, Option.isNone_map]
  have hfr : freeB m wd s = (fst1 (fun w => c.2 6 (s * wd + w) == 0) 0 wd).isSome := by
    unfold freeB
    rw [e2, Option.isSome_map]
  rw [hfu, hfr]
  cases hE : fst1 (fun w => c.2 3 (s * wd + w) == 0) 0 wd with
  | some w =>
    refine ⟨-1, th0 m, ?_, fun _ => ⟨rfl, rfl⟩, fun z => by simp at z, h0⟩
    unfold nxO
    rw [hE]
    rfl
  | none =>
    have en : nxO wd kd c s = rChoose wd kd c s := by
      unfold nxO
      rw [hE]
    rw [en]
    cases hF : fst1 (fun w => c.2 6 (s * wd + w) == 0) 0 wd with
    | none =>
      refine ⟨-1, th0 m, ?_, fun _ => ⟨rfl, rfl⟩, fun z => by simp at z, h0⟩
      cases hc : rChoose wd kd c s with
      | none => rfl
      | some w =>
        have hw := rChoose_lt hCI.1 hs hc
        have := fst1_none.mp hF w (by omega) (by omega)
        unfold lkd at hw
        rw [this] at hw
        cases hw.2
    | some w0 =>
      have hw0 := fst1_some hF
      simp only [beq_iff_eq] at hw0
      obtain ⟨w, m1, hw, q1, q2, -, q4⟩ := TK_pick hMI.1 hMI.2.1 hs hN hK (fun w hw => hT.2.2.1 s w hs hw) ⟨w0, by omega, hw0.2.2⟩ false
      have q4 := q4 rfl
      have kp := pkS_kp hk q2
      refine ⟨nI w, m1, by rw [q1]; rfl, fun z => by simp at z, fun _ => ⟨8 * s + w, q2, by rw [Nat.add_sub_cancel_left]⟩, ⟨⟨hCI, pkS_MI hMI (by have := hMI.1.S16; omega) q2, ?_, q4, ?_, ?_⟩, ?_, h0.2.2.1, ?_⟩⟩
      · exact hT.of (fun _ _ _ => rfl) (fun _ _ => rfl) (kp.1 5 (by omega)) (kp.1 6 (by omega)) (kp.1 21 (by omega)) (fun k k1 => kp.2 k (by omega) (by omega) (by omega) (by omega)) (fun k _ _ => congrFun (kp.2 34 (by omega) (by omega) (by omega) (by omega)) k)
      · exact zH_of hH rfl rfl rfl rfl (kp.1 31 (by omega)) (kp.2 32 (by omega) (by omega) (by omega) (by omega)) (kp.2 33 (by omega) (by omega) (by omega) (by omega))
      · unfold zK at *
        rw [kp.2 34 (by omega) (by omega) (by omega) (by omega)]
        exact hKi
      · exact zA_of h0.2.1 (fun _ _ _ => rfl) (fun _ _ _ => rfl) (kp.1 25 (by omega)) (kp.1 28 (by omega)) (fun k k1 k2 => kp.2 k (by omega) (by omega) (by omega) (by omega))
      · unfold zQ
        rw [kp.2 27 (by omega) (by omega) (by omega) (by omega)]
        exact h0.2.2.2
end Calls2
