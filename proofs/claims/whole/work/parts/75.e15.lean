/-! CLEANALL TIED; THE FIRST STATES -/
def acc (e : Nat → Int32) (y : Int32) : Nat → Int32
  | 0 => y
  | k + 1 => acc e y k + e k
theorem acc_add (e : Nat → Int32) (y : Int32) : ∀ k, acc e y k = y + acc e 0 k
  | 0 => (i0 y).symm
  | k + 1 => by
    unfold acc
    rw [acc_add e y k, Int32.add_assoc]
theorem spA_acc (g : Nat → Int32) (y : Int32) : ∀ k, spA g y k = acc (fun j => popI (g j)) y k
  | 0 => rfl
  | k + 1 => by
    unfold spA acc
    rw [spA_acc g y k]
theorem acc_0 (e : Nat → Int32) (y : Int32) (k : Nat) : ∀ i, (∀ j, k ≤ j → j < k + i → e j = 0) → acc e y (k + i) = acc e y k
  | 0, _ => rfl
  | i + 1, h => by
    rw [show k + (i + 1) = k + i + 1 by omega, acc, h (k + i) (by omega) (by omega), i0]
    exact acc_0 e y k i (fun j j1 j2 => h j j1 (by omega))
theorem acc_sh (e f : Nat → Int32) (y : Int32) (a b : Nat) (h0 : acc e y a = acc f y b) : ∀ i, (∀ j, j < i → e (a + j) = f (b + j)) → acc e y (a + i) = acc f y (b + i)
  | 0, _ => h0
  | i + 1, h => by
    rw [show a + (i + 1) = a + i + 1 by omega, show b + (i + 1) = b + i + 1 by omega, acc, acc, h i (by omega), acc_sh e f y a b h0 i (fun j hj => h j (by omega))]
theorem acc_cong {e f : Nat → Int32} (y : Int32) : ∀ k, (∀ j, j < k → e j = f j) → acc e y k = acc f y k
  | 0, _ => rfl
  | k + 1, h => by
    unfold acc
    rw [h k (by omega), acc_cong y k (fun j hj => h j (by omega))]
/-- sums over the slots of class and reference -/
theorem acc_blk {e f : Nat → Int32} {S wd : Nat} (y : Int32) (h8 : wd ≤ 8) (h1 : ∀ s w, s < S → w < wd → e (8 * s + w) = f (s * wd + w)) (h0 : ∀ s w, w < 8 → ¬ (s < S ∧ w < wd) → e (8 * s + w) = 0) : ∀ s, s ≤ S → acc e y (8 * s) = acc f y (s * wd)
  | 0, _ => by rw [Nat.zero_mul, Nat.mul_zero]; rfl
  | s + 1, hs => by
    have ih := acc_blk y h8 h1 h0 s (by omega)
    have a1 := acc_sh e f y (8 * s) (s * wd) ih wd (fun j hj => h1 s j (by omega) hj)
    have a2 := acc_0 e y (8 * s + wd) (8 - wd) (fun j j1 j2 => by
      have := h0 s (j - 8 * s) (by omega) (by omega)
      rw [show 8 * s + (j - 8 * s) = j by omega] at this
      exact this)
    rw [show 8 * (s + 1) = 8 * s + wd + (8 - wd) by omega, a2, a1, Nat.succ_mul]
theorem acc_all {e f : Nat → Int32} {S wd : Nat} (y : Int32) (hS : S ≤ 16) (h8 : wd ≤ 8) (h1 : ∀ s w, s < S → w < wd → e (8 * s + w) = f (s * wd + w)) (h0 : ∀ s w, w < 8 → ¬ (s < S ∧ w < wd) → e (8 * s + w) = 0) : acc e y 128 = acc f y (S * wd) := by
  rw [← acc_blk y h8 h1 h0 S (Nat.le_refl _), show (128 : Nat) = 8 * S + (128 - 8 * S) by omega]
  refine acc_0 e y (8 * S) _ (fun j j1 j2 => ?_)
  have := h0 (j / 8) (j % 8) (by omega) (by omega)
  rw [show 8 * (j / 8) + j % 8 = j by omega] at this
  exact this
section CleanAll
variable {S wd V kd N : Nat} {c m : CS}
/-- what cleaning a slot of the reference writes -/
def eW (m : CS) (r : Nat) : Int32 := if m.2 7 r = 0 then 0 else popI (m.2 10 r)
theorem cAw_at (m : CS) (y : Int32) : ∀ k, (cAw k m y).1.1 = m.1 ∧ (∀ j, j ≠ 10 → j ≠ 34 → (cAw k m y).1.2 j = m.2 j) ∧ (∀ r, (cAw k m y).1.2 10 r = if r < k ∧ ¬ m.2 7 r = 0 then 0 else m.2 10 r) ∧ (∀ j, j ≠ 7 → (cAw k m y).1.2 34 j = m.2 34 j) ∧ (cAw k m y).1.2 34 7 = acc (eW m) (m.2 34 7) k ∧ (cAw k m y).2 = acc (eW m) y k
  | 0 => ⟨rfl, fun _ _ _ => rfl, fun r => by rw [if_neg (by omega)]; rfl, fun _ _ => rfl, rfl, rfl⟩
  | k + 1 => by
    obtain ⟨b1, b2, b3, b4, b5, b6⟩ := cAw_at m y k
    have e : cAw (k + 1) m y = ((cw2 (cAw k m y).1 k).1, (cAw k m y).2 + (cw2 (cAw k m y).1 k).2) := rfl
    rw [e]
    generalize (cAw k m y).1 = M at b1 b2 b3 b4 b5
    generalize (cAw k m y).2 = Y at b6
    have e7 : M.2 7 = m.2 7 := b2 7 (by omega) (by omega)
    have e10 : M.2 10 k = m.2 10 k := by rw [b3 k, if_neg (by omega)]
    unfold cw2
    rw [e7, e10]
    by_cases h0 : m.2 7 k = 0
    · rw [if_pos h0]
      refine ⟨b1, fun j j1 j2 => ?_, fun r => ?_, fun j j1 => ?_, ?_, ?_⟩
      · show up2 M.2 34 _ j = _
        rw [up2_n _ j2]
        exact b2 j j1 j2
      · show M.2 10 r = _
        rw [b3 r]
        by_cases hr : r = k
        · rw [hr, if_neg (by omega), if_neg (fun z => z.2 h0)]
        · by_cases hq : r < k ∧ ¬ m.2 7 r = 0
          · rw [if_pos hq, if_pos ⟨by omega, hq.2⟩]
          · rw [if_neg hq, if_neg (fun z => hq ⟨by omega, z.2⟩)]
      · show upd (M.2 34) 7 _ j = _
        rw [pk_un j1]
        exact b4 j j1
      · show M.2 34 7 + 0 = acc (eW m) (m.2 34 7) k + eW m k
        rw [b5]
        unfold eW
        rw [if_pos h0]
      · show Y + 0 = acc (eW m) y k + eW m k
        rw [b6]
        unfold eW
        rw [if_pos h0]
    · rw [if_neg h0]
      refine ⟨b1, fun j j1 j2 => ?_, fun r => ?_, fun j j1 => ?_, ?_, ?_⟩
      · show up2 (up2 M.2 10 _) 34 _ j = _
        rw [up2_n _ j2, up2_n _ j1]
        exact b2 j j1 j2
      · show upd (M.2 10) k 0 r = _
        by_cases hr : r = k
        · rw [hr, pk_us, if_pos ⟨by omega, h0⟩]
        · rw [pk_un hr, b3 r]
          by_cases hq : r < k ∧ ¬ m.2 7 r = 0
          · rw [if_pos hq, if_pos ⟨by omega, hq.2⟩]
          · rw [if_neg hq, if_neg (fun z => hq ⟨by omega, z.2⟩)]
      · show upd (M.2 34) 7 _ j = _
        rw [pk_un j1]
        exact b4 j j1
      · show M.2 34 7 + popI (m.2 10 k) = acc (eW m) (m.2 34 7) k + eW m k
        rw [b5]
        unfold eW
        rw [if_neg h0]
      · show Y + popI (m.2 10 k) = acc (eW m) y k + eW m k
        rw [b6]
        unfold eW
        rw [if_neg h0]
theorem cAr_at (m : CS) (y : Int32) : ∀ k, (cAr k m y).1.1 = m.1 ∧ (∀ j, j ≠ 24 → j ≠ 34 → (cAr k m y).1.2 j = m.2 j) ∧ (∀ r, (cAr k m y).1.2 24 r = if r < k then 0 else m.2 24 r) ∧ (∀ j, j ≠ 7 → (cAr k m y).1.2 34 j = m.2 34 j) ∧ (cAr k m y).1.2 34 7 = acc (fun r => popI (m.2 24 r)) (m.2 34 7) k ∧ (cAr k m y).2 = acc (fun r => popI (m.2 24 r)) y k
  | 0 => ⟨rfl, fun _ _ _ => rfl, fun r => by rw [if_neg (by omega)]; rfl, fun _ _ => rfl, rfl, rfl⟩
  | k + 1 => by
    obtain ⟨b1, b2, b3, b4, b5, b6⟩ := cAr_at m y k
    have e : cAr (k + 1) m y = ((cr2 (cAr k m y).1 k).1, (cAr k m y).2 + (cr2 (cAr k m y).1 k).2) := rfl
    rw [e]
    generalize (cAr k m y).1 = M at b1 b2 b3 b4 b5
    generalize (cAr k m y).2 = Y at b6
    have e24 : M.2 24 k = m.2 24 k := by rw [b3 k, if_neg (by omega)]
    unfold cr2
    rw [e24]
    refine ⟨b1, fun j j1 j2 => ?_, fun r => ?_, fun j j1 => ?_, ?_, ?_⟩
    · show up2 (up2 M.2 24 _) 34 _ j = _
      rw [up2_n _ j2, up2_n _ j1]
      exact b2 j j1 j2
    · show upd (M.2 24) k 0 r = _
      by_cases hr : r = k
      · rw [hr, pk_us, if_pos (by omega)]
      · rw [pk_un hr, b3 r]
        by_cases hq : r < k
        · rw [if_pos hq, if_pos (by omega)]
        · rw [if_neg hq, if_neg (by omega)]
    · show upd (M.2 34) 7 _ j = _
      rw [pk_un j1]
      exact b4 j j1
    · show M.2 34 7 + popI (m.2 24 k) = acc _ (m.2 34 7) k + popI (m.2 24 k)
      rw [b5]
    · show Y + popI (m.2 24 k) = acc _ y k + popI (m.2 24 k)
      rw [b6]
theorem zr_NB {g : Nat → Int32} (h : ∀ j, NB (g j)) (k : Nat) : ∀ j, NB (zr g k j) := by
  intro j
  unfold zr
  split
  · exact NB.z
  · exact h j
theorem cleanAll_tie (h : REL S wd V kd N c m) {z : Nat} (hz : RD c.1 V z) : spA (c.2 10) (spA (c.2 5) 0 (S * wd)) z = (cAr z (cAw 128 (th0 m) 0).1 (cAw 128 (th0 m) 0).2).2 ∧ REL S wd V kd N (upd c.1 4 (c.1 4 + spA (c.2 10) (spA (c.2 5) 0 (S * wd)) z), up2 (up2 c.2 5 (zr (c.2 5) (S * wd))) 10 (zr (c.2 10) z)) (cAr z (cAw 128 (th0 m) 0).1 (cAw 128 (th0 m) 0).2).1 := by
  have h := h.th 0
  have e0 : (upd m.1 0 0, m.2) = th0 m := rfl
  rw [e0] at h
  obtain ⟨hCI, hMI, hT, -⟩ := h.1
  have hw8 := hMI.1.w8
  have hS := hMI.1.S16
  have hnz := nz_eq hz
  generalize th0 m = M at *
  obtain ⟨hL, hU, h6, hX, hR, hF, hP, hC⟩ := hT
  obtain ⟨b1, b2, b3, b4, b5, b6⟩ := cAw_at M 0 128
  obtain ⟨d1, d2, d3, d4, d5, d6⟩ := cAr_at (cAw 128 M 0).1 (cAw 128 M 0).2 z
  have hMI2 := (cAr_MI (cAw_MI hMI 0 128).1 (cAw 128 M 0).2 z).1
  rw [b2 24 (by omega) (by omega)] at d3 d5 d6
  have hsum : ∀ y, acc (eW M) y 128 = acc (fun j => popI (c.2 5 j)) y (S * wd) := by
    intro y
    refine acc_all y hS.2 hw8.2 ?_ ?_
    · intro s w hs hw
      have hh := hL s w hs hw trivial
      unfold eW
      rw [← hh.1]
      by_cases h0 : c.2 3 (s * wd + w) = 0
      · rw [if_pos h0, (hh.2.2 h0).2.2.1, popI_0]
      · rw [if_neg h0, (hh.2.1 h0).2.2]
    · intro s w hw hn
      unfold eW
      rw [if_pos (hX s w hw hn)]
  have hrow : ∀ y, acc (fun r => popI (M.2 24 r)) y z = acc (fun j => popI (c.2 10 j)) y z := fun y => acc_cong y z (fun j hj => by rw [(hR.2 j (by omega)).2.2])
  have etot : spA (c.2 10) (spA (c.2 5) 0 (S * wd)) z = (cAr z (cAw 128 M 0).1 (cAw 128 M 0).2).2 := by
    rw [d6, b6, hrow, hsum, spA_acc, spA_acc]
  refine ⟨etot, REL_st h ?_ hMI2 ?_ (fun k k1 => pk_un (by omega)) (fun k k1 => ?_) (fun k _ _ _ _ => ?_) (fun k k1 k2 k3 => ?_) (fun k k1 => ?_)⟩
  · exact ⟨RA.rc (c := c) ⟨⟨rfl, rfl, rfl, rfl, rfl, rfl, rfl⟩, rfl, rfl, rfl⟩ hCI.1, hCI.2.1, zr_NB hCI.2.2.1 _, zr_NB hCI.2.2.2 _⟩
  · generalize hm2 : (cAr z (cAw 128 M 0).1 (cAw 128 M 0).2).1 = m2 at *
    have f7 : m2.2 7 = M.2 7 := (d2 7 (by omega) (by omega)).trans (b2 7 (by omega) (by omega))
    have f8 : m2.2 8 = M.2 8 := (d2 8 (by omega) (by omega)).trans (b2 8 (by omega) (by omega))
    have f9 : m2.2 9 = M.2 9 := (d2 9 (by omega) (by omega)).trans (b2 9 (by omega) (by omega))
    have f11 : m2.2 11 = M.2 11 := (d2 11 (by omega) (by omega)).trans (b2 11 (by omega) (by omega))
    have f22 : m2.2 22 = M.2 22 := (d2 22 (by omega) (by omega)).trans (b2 22 (by omega) (by omega))
    have f23 : m2.2 23 = M.2 23 := (d2 23 (by omega) (by omega)).trans (b2 23 (by omega) (by omega))
    have f10 : m2.2 10 = (cAw 128 M 0).1.2 10 := d2 10 (by omega) (by omega)
    have g1 : m2.1 = M.1 := d1.trans b1
    refine ⟨?_, hU, ?_, ?_, ⟨?_, ?_⟩, ?_, ?_, ⟨?_, ?_, ?_⟩⟩
    · intro s w hs hw _
      have hh := hL s w hs hw trivial
      have hlt := slot_lt hs hw
      show c.2 3 (s * wd + w) = m2.2 7 (8 * s + w) ∧ (c.2 3 (s * wd + w) ≠ 0 → c.2 2 (s * wd + w) = m2.2 8 (8 * s + w) ∧ c.2 4 (s * wd + w) = m2.2 9 (8 * s + w) ∧ zr (c.2 5) (S * wd) (s * wd + w) = m2.2 10 (8 * s + w)) ∧ (c.2 3 (s * wd + w) = 0 → c.2 2 (s * wd + w) = 0 ∧ c.2 4 (s * wd + w) = 0 ∧ zr (c.2 5) (S * wd) (s * wd + w) = 0 ∧ c.2 6 (s * wd + w) = 0)
      have ez : zr (c.2 5) (S * wd) (s * wd + w) = 0 := by unfold zr; rw [if_pos hlt]
      rw [f7, f8, f9, f10, ez, b3]
      refine ⟨hh.1, fun n => ⟨(hh.2.1 n).1, (hh.2.1 n).2.1, ?_⟩, fun z0 => ⟨(hh.2.2 z0).1, (hh.2.2 z0).2.1, rfl, (hh.2.2 z0).2.2.2⟩⟩
      rw [if_pos ⟨by omega, by rw [← hh.1]; exact n⟩]
    · show TI S wd (c.2 6) (m2.2 11)
      rw [f11]; exact h6
    · unfold zX
      rw [f7]; exact hX
    · show c.1 10 = m2.1 21
      rw [g1]; exact hR.1
    · intro k hk
      have hk : k < nz c := hk
      show c.2 8 k = m2.2 22 k ∧ c.2 9 k = m2.2 23 k ∧ zr (c.2 10) z k = m2.2 24 k
      rw [f22, f23, d3, if_pos (by omega)]
      refine ⟨(hR.2 k hk).1, (hR.2 k hk).2.1, ?_⟩
      unfold zr
      rw [if_pos (by omega)]
    · unfold zF
      rw [g1]; exact hF
    · unfold zP
      rw [f9, f23]; exact hP
    · show c.1 3 = m2.2 34 6 + 0
      rw [d4 6 (by omega), b4 6 (by omega)]; exact hC.1
    · show c.1 4 + spA (c.2 10) (spA (c.2 5) 0 (S * wd)) z = m2.2 34 7
      rw [d5, b5, hrow, hsum, spA_acc, spA_acc, hC.2.1]
      rw [acc_add _ (acc _ (M.2 34 7) _), acc_add _ (M.2 34 7), acc_add _ (acc _ 0 _), Int32.add_assoc]
    · show c.1 5 = m2.2 34 8
      rw [d4 8 (by omega), b4 8 (by omega)]; exact hC.2.2
  · show up2 (up2 c.2 5 _) 10 _ k = c.2 k
    rw [up2_n _ (by omega), up2_n _ (by omega)]
  · rw [d1, b1]
  · rw [d2 k (by omega) k3, b2 k (by omega) k3]
  · rw [d4 k (by omega), b4 k (by omega)]
end CleanAll
theorem bitN_0 : ∀ n, n < 8 → bitN 0 n = 0 := by decide +kernel
theorem first_TK {S wd V kd : Nat} (hk : kd < 10) : TK S wd kd 0 (c0S S wd V kd) (m0S S wd V kd) := by
  rcases kd_cases hk with rfl | rfl | rfl | rfl | rfl | rfl | rfl | rfl | rfl | rfl
  · rfl
  · exact ⟨fun _ _ _ _ => rfl, fun _ _ => rfl⟩
  · intro s n _ _ n8
    exact bitN_0 n n8
  · exact fun _ _ _ _ => rfl
  · exact ⟨fun _ _ _ _ => rfl, fun _ _ _ _ => ⟨0, by omega, rfl⟩⟩
  iterate 4
    · exact ⟨rfl, rfl, fun _ _ _ _ => rfl, fun _ _ _ _ => rfl, fun _ _ _ _ => rfl⟩
  · exact ⟨rfl, 0, 0, fun b => b, Nat.le_refl _, rfl, rfl, (by show (0 : Int32) = -nI 0; decide), Nat.le_refl _, fun i j _ _ _ => by omega, fun b _ _ => by omega, fun _ _ _ _ => Or.inl ⟨0, by omega, rfl, rfl⟩⟩
theorem first_tie {S wd V kd k : Nat} (hk : k ≤ 4) (hS : S = 2 ^ k) (h1 : 1 ≤ wd) (h8 : wd ≤ 8) (hV : V ≤ 4) (h10 : kd < 10) : REL S wd V kd 0 (c0S S wd V kd) (m0S S wd V kd) := by
  have hnz : nz (c0S S wd V kd) = 0 := by
    show (0 : Int32).toNatClampNeg = 0
    decide
  have hnh : nh (c0S S wd V kd) = 0 := by
    show (0 : Int32).toNatClampNeg = 0
    decide
  refine ⟨⟨c0_CI hk hS h1 h8 hV h10, m0_MI hk hS h1 h8 hV h10, ⟨?_, ⟨?_, ?_⟩, fun _ _ _ _ => rfl, fun _ _ _ _ => rfl, ⟨rfl, ?_⟩, ⟨rfl, rfl⟩, ⟨fun _ => nb0, fun _ => nb0⟩, ⟨rfl, rfl, rfl⟩⟩, first_TK h10, ⟨rfl, ?_, ?_, fun _ _ => rfl, rfl⟩, ⟨rfl, fun _ _ => rfl⟩⟩, ⟨0, 0, 0, by omega, by omega, by omega, rfl, rfl, rfl, rfl, rfl, fun k hk => by omega, fun k hk => by omega, rfl⟩, c0_PT, fun _ => ⟨0, by omega, rfl⟩⟩
  · exact fun _ _ _ _ _ => ⟨rfl, fun n => absurd rfl n, fun _ => ⟨rfl, rfl, rfl, rfl⟩⟩
  · exact fun _ _ _ _ _ n => absurd rfl n
  · intro i j hi
    omega
  · intro k hk
    omega
  · intro k hk
    omega
  · intro i j hi
    omega
