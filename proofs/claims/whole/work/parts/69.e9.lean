/-! PARTS, WRITES, ROWS TIED -/
theorem i0 (x : Int32) : x + 0 = x := Int32.add_zero x
theorem upd_self (g : Nat → Int32) {r : Nat} {v : Int32} (h : g r = v) : upd g r v = g := by
  funext j
  by_cases hj : j = r
  · rw [hj, pk_us, h]
  · rw [pk_un hj]
theorem RA.rf (c : CS) : RA c c := ⟨⟨rfl, rfl, rfl, rfl, rfl, rfl, rfl⟩, rfl, rfl, rfl⟩
section Parts
variable {S wd V kd N : Nat} {q : Nat → Nat → Prop} {y : Int32} {c m c' m' : CS} {s w : Nat} {bit : Int32}
theorem fw_of (h2 : c'.2 2 = c.2 2) (h3 : c'.2 3 = c.2 3) (x : Int32) : fw S wd c' x = fw S wd c x := by
  unfold fw hasL
  rw [h2, h3]
theorem fdR_of (h8 : c'.2 8 = c.2 8) (h10 : c'.1 10 = c.1 10) (x : Int32) : fdR c' x = fdR c x := by
  unfold fdR nz
  rw [h8, h10]
theorem zT.f6 (h : zT S wd q 1 c m) : zT S wd q 0 c (m.1, up2 m.2 34 (upd (m.2 34) 6 (m.2 34 6 + 1))) := by
  obtain ⟨hL, hU, h6, hX, hR, hF, hP, hC⟩ := h
  refine ⟨hL, hU, h6, hX, hR, hF, hP, ⟨?_, hC.2.1, hC.2.2⟩⟩
  show c.1 3 = m.2 34 6 + 1 + 0
  rw [i0]
  exact hC.1
theorem zT.c3 (h : zT S wd q 0 c m) : zT S wd q 1 (upd c.1 3 (c.1 3 + 1), c.2) m := by
  obtain ⟨hL, hU, h6, hX, hR, hF, hP, hC⟩ := h
  refine ⟨hL, hU, h6, hX, hR, hF, hP, ⟨?_, hC.2.1, hC.2.2⟩⟩
  show c.1 3 + 1 = m.2 34 6 + 1
  rw [hC.1, i0]
/-- a part of a slot, fetched -/
def ptS (c : CS) (j : Nat) (bit : Int32) : CS := if c.2 4 j &&& bit = 0 then (upd c.1 3 (c.1 3 + 1), up2 c.2 4 (upd (c.2 4) j (c.2 4 j ||| bit))) else c
theorem part_way (h : zT S wd qT 0 c m) (hs : s < S) (hw : w < wd) (h8 : wd ≤ 8) (hne : c.2 3 (s * wd + w) ≠ 0) (hb : NB bit) : zT S wd qT 0 (ptS c (s * wd + w) bit) (tw1 m (8 * s + w) bit) := by
  have e9 := ((h.1 s w hs hw trivial).2.1 hne).2.1
  unfold ptS tw1
  rw [← e9]
  by_cases h0 : c.2 4 (s * wd + w) &&& bit = 0
  · rw [if_pos h0, if_pos h0]
    obtain ⟨hL, hU, h6, hX, hR, hF, hP, hC⟩ := h
    refine ⟨?_, hU, h6, hX, hR, hF, ⟨NB.up hP.1 _ (by rw [e9]; exact (hP.1 _).or hb), hP.2⟩, ⟨?_, hC.2.1, hC.2.2⟩⟩
    · intro s' w' hs' hw' _
      have hh := hL s' w' hs' hw' trivial
      show c.2 3 (s' * wd + w') = m.2 7 (8 * s' + w') ∧ (c.2 3 (s' * wd + w') ≠ 0 → c.2 2 (s' * wd + w') = m.2 8 (8 * s' + w') ∧ upd (c.2 4) (s * wd + w) (c.2 4 (s * wd + w) ||| bit) (s' * wd + w') = upd (m.2 9) (8 * s + w) (c.2 4 (s * wd + w) ||| bit) (8 * s' + w') ∧ c.2 5 (s' * wd + w') = m.2 10 (8 * s' + w')) ∧ (c.2 3 (s' * wd + w') = 0 → c.2 2 (s' * wd + w') = 0 ∧ upd (c.2 4) (s * wd + w) (c.2 4 (s * wd + w) ||| bit) (s' * wd + w') = 0 ∧ c.2 5 (s' * wd + w') = 0 ∧ c.2 6 (s' * wd + w') = 0)
      by_cases hj : s' = s ∧ w' = w
      · rw [hj.1, hj.2] at hh ⊢
        refine ⟨hh.1, fun n => ⟨(hh.2.1 n).1, by rw [pk_us, pk_us], (hh.2.1 n).2.2⟩, fun z => absurd z hne⟩
      · have n1 : s' * wd + w' ≠ s * wd + w := fun q => hj (slot_inj hw' hw q)
        have n2 : 8 * s' + w' ≠ 8 * s + w := by omega
        rw [pk_un n1, pk_un n2]
        exact hh
    · show c.1 3 + 1 = m.2 34 6 + 1 + 0
      rw [hC.1, i0, i0]
  · rw [if_neg h0, if_neg h0]
    exact h
/-- a part of a slot, written -/
def wrW (m : CS) (r : Nat) (bit : Int32) : CS := if m.1 5 = 0 then (m.1, up2 m.2 10 (upd (m.2 10) r (m.2 10 r ||| bit))) else (m.1, up2 m.2 34 (upd (m.2 34) 7 (m.2 34 7 + 1)))
theorem tw1_1 (m : CS) (r : Nat) (bit : Int32) : (tw1 m r bit).1 = m.1 := by
  unfold tw1
  split <;> rfl
theorem twS_eq (m : CS) (r : Nat) (bit wt : Int32) : twS m r bit wt = if wt = 0 then tw1 m r bit else wrW (tw1 m r bit) r bit := by
  unfold twS wrW
  rw [tw1_1]
theorem zT.w7 (h : zT S wd q y c m) : zT S wd q y (upd c.1 4 (c.1 4 + 1), c.2) (m.1, up2 m.2 34 (upd (m.2 34) 7 (m.2 34 7 + 1))) := by
  obtain ⟨hL, hU, h6, hX, hR, hF, hP, hC⟩ := h
  refine ⟨hL, hU, h6, hX, hR, hF, hP, ⟨hC.1, ?_, hC.2.2⟩⟩
  show c.1 4 + 1 = m.2 34 7 + 1
  rw [hC.2.1]
theorem write_way {x : Int32} (h : zT S wd qT 0 c m) (hs : sN S x < S) (h8 : wd ≤ 8) (hfw : fw S wd c x = some w) : zT S wd qT 0 (wpS S wd c x bit) (wrW m (8 * sN S x + w) bit) := by
  have hf := fw_some hfw
  have hd : fst1 (hasL c.2 x) (sN S x * wd) wd = some (sN S x * wd + w) := by
    have := fdW_w (S := S) (wd := wd) (c := c) x
    rw [hfw] at this
    exact this
  have e10 := ((h.1 (sN S x) w hs hf.1 trivial).2.1 hf.2.1).2.2
  have hfl := h.2.2.2.2.2.1.1
  unfold wpS wrW
  rw [hd, ← hfl]
  by_cases h0 : c.1 0 = 0
  · rw [if_neg (fun z => z h0), if_pos h0]
    dsimp only
    rw [← e10]
    obtain ⟨hL, hU, h6, hX, hR, hF, hP, hC⟩ := h
    refine ⟨?_, hU, h6, hX, hR, hF, hP, hC⟩
    intro s' w' hs' hw' _
    have hh := hL s' w' hs' hw' trivial
    show c.2 3 (s' * wd + w') = m.2 7 (8 * s' + w') ∧ (c.2 3 (s' * wd + w') ≠ 0 → c.2 2 (s' * wd + w') = m.2 8 (8 * s' + w') ∧ c.2 4 (s' * wd + w') = m.2 9 (8 * s' + w') ∧ upd (c.2 5) (sN S x * wd + w) (c.2 5 (sN S x * wd + w) ||| bit) (s' * wd + w') = upd (m.2 10) (8 * sN S x + w) (c.2 5 (sN S x * wd + w) ||| bit) (8 * s' + w')) ∧ (c.2 3 (s' * wd + w') = 0 → c.2 2 (s' * wd + w') = 0 ∧ c.2 4 (s' * wd + w') = 0 ∧ upd (c.2 5) (sN S x * wd + w) (c.2 5 (sN S x * wd + w) ||| bit) (s' * wd + w') = 0 ∧ c.2 6 (s' * wd + w') = 0)
    by_cases hj : s' = sN S x ∧ w' = w
    · rw [hj.1, hj.2] at hh ⊢
      exact ⟨hh.1, fun n => ⟨(hh.2.1 n).1, (hh.2.1 n).2.1, by rw [pk_us, pk_us]⟩, fun z => absurd z hf.2.1⟩
    · have n1 : s' * wd + w' ≠ sN S x * wd + w := fun q => hj (slot_inj hw' hf.1 q)
      have n2 : 8 * s' + w' ≠ 8 * sN S x + w := by have := hf.1; omega
      rw [pk_un n1, pk_un n2]
      exact hh
  · rw [if_pos h0, if_neg h0]
    exact h.w7
/-- a part of a row, written -/
def wrR (m : CS) (r : Nat) (bit : Int32) : CS := if m.1 5 = 0 then (m.1, up2 m.2 24 (upd (m.2 24) r (m.2 24 r ||| bit))) else cnt m 7 1
theorem rr2_eq (m : CS) (r : Nat) (bit wt : Int32) : rr2 m r bit wt = if wt = 0 then rr1 m r bit else wrR (rr1 m r bit) r bit := by
  have e : (rr1 m r bit).1 = m.1 := by
    unfold rr1
    split <;> rfl
  unfold rr2 wrR
  rw [e]
theorem fdW_none {x : Int32} (hfw : fw S wd c x = none) : fst1 (hasL c.2 x) (sN S x * wd) wd = none := by
  have := fdW_w (S := S) (wd := wd) (c := c) x
  rw [hfw] at this
  exact this
theorem write_row {x : Int32} {k : Nat} (h : zT S wd qT 0 c m) (hfw : fw S wd c x = none) (hfr : fdR c x = some k) : zT S wd qT 0 (wpS S wd c x bit) (wrR m k bit) := by
  have hd := fdW_none hfw
  have hr : fst1 (fun k => c.2 8 k == x) 0 (nz c) = some k := hfr
  have hk := fst1_some hr
  have hfl := h.2.2.2.2.2.1.1
  have e24 := (h.2.2.2.2.1.2 k (by omega)).2.2
  unfold wpS wrR
  rw [hd, hr, ← hfl]
  by_cases h0 : c.1 0 = 0
  · rw [if_neg (fun z => z h0), if_pos h0]
    dsimp only
    rw [← e24]
    obtain ⟨hL, hU, h6, hX, hR, hF, hP, hC⟩ := h
    refine ⟨hL, hU, h6, hX, ⟨hR.1, ?_⟩, hF, hP, hC⟩
    intro i hi
    have hh := hR.2 i hi
    show c.2 8 i = m.2 22 i ∧ c.2 9 i = m.2 23 i ∧ upd (c.2 10) k (c.2 10 k ||| bit) i = upd (m.2 24) k (c.2 10 k ||| bit) i
    by_cases he : i = k
    · rw [he] at hh ⊢
      exact ⟨hh.1, hh.2.1, by rw [pk_us, pk_us]⟩
    · rw [pk_un he, pk_un he]
      exact hh
  · rw [if_pos h0, if_neg h0]
    exact h.w7
theorem write_none {x : Int32} (h : zT S wd qT 0 c m) (hfw : fw S wd c x = none) (hfr : fdR c x = none) : zT S wd qT 0 (wpS S wd c x bit) (cnt m 7 1) := by
  have hd := fdW_none hfw
  have hr : fst1 (fun k => c.2 8 k == x) 0 (nz c) = none := hfr
  have e : wpS S wd c x bit = (upd c.1 4 (c.1 4 + 1), c.2) := by
    unfold wpS
    rw [hd, hr]
    split <;> rfl
  rw [e]
  exact h.w7
theorem part_row {k : Nat} (h : zT S wd qT 0 c m) (hk : k < nz c) (hb : NB bit) : zT S wd qT 0 (ftS c k bit) (rr1 m k bit) := by
  have e23 := (h.2.2.2.2.1.2 k hk).2.1
  unfold ftS rr1
  rw [← e23]
  by_cases h0 : c.2 9 k &&& bit = 0
  · rw [if_pos h0, if_pos h0]
    obtain ⟨hL, hU, h6, hX, hR, hF, hP, hC⟩ := h
    refine ⟨hL, hU, h6, hX, ⟨hR.1, ?_⟩, hF, ⟨hP.1, NB.up hP.2 _ (by rw [e23]; exact (hP.2 _).or hb)⟩, ⟨?_, hC.2.1, hC.2.2⟩⟩
    · intro i hi
      have hh := hR.2 i hi
      show c.2 8 i = m.2 22 i ∧ upd (c.2 9) k (c.2 9 k ||| bit) i = upd (m.2 23) k (c.2 9 k ||| bit) i ∧ c.2 10 i = m.2 24 i
      by_cases he : i = k
      · rw [he] at hh ⊢
        exact ⟨hh.1, by rw [pk_us, pk_us], hh.2.2⟩
      · rw [pk_un he, pk_un he]
        exact hh
    · show c.1 3 + 1 = m.2 34 6 + 1 + 0
      rw [hC.1, i0, i0]
  · rw [if_neg h0, if_neg h0]
    exact h
/-- a row taken out, whose part may have been fetched before -/
theorem rem_tie {c1 : CS} {z k : Nat} (h : zT S wd qT 0 c m) (hz : nz c = z) (hz5 : z ≤ 5) (hk : k < z) (h0 : c1.1 0 = c.1 0) (h1 : c1.1 1 = c.1 1) (h3 : c1.1 3 = c.1 3 + y) (h4 : c1.1 4 = c.1 4) (h5 : c1.1 5 = c.1 5) (hc : ∀ i, i < 11 → i ≠ 9 → c1.2 i = c.2 i) (h9 : ∀ j, j ≠ k → c1.2 9 j = c.2 9 j) :
    zT S wd qT y (upd c1.1 10 (nI (z - 1)), rmF c1.2 k (z - 1)) (upd m.1 21 (nI (z - 1)), trF m.2 k (z - 1)) := by
  obtain ⟨hL, hU, h6, hX, hR, hF, hP, hC⟩ := h
  have hnz : nz (upd c1.1 10 (nI (z - 1)), rmF c1.2 k (z - 1)) = z - 1 := nI_clamp (by omega)
  have d2 := hc 2 (by omega) (by omega)
  have d3 := hc 3 (by omega) (by omega)
  have d4 := hc 4 (by omega) (by omega)
  have d5 := hc 5 (by omega) (by omega)
  have d6 := hc 6 (by omega) (by omega)
  have d8 := hc 8 (by omega) (by omega)
  have d10 := hc 10 (by omega) (by omega)
  have sf : ∀ (g : Nat → Int32) (j : Nat), j < z - 1 → shf g k (z - 1) j = g (if j < k then j else j + 1) := by
    intro g j hj
    by_cases hjk : j < k
    · rw [if_pos hjk, shf_lo g hjk]
    · rw [if_neg hjk, shf_in g (by omega) hj]
  have si : ∀ j, j < z - 1 → (if j < k then j else j + 1) < z ∧ (if j < k then j else j + 1) ≠ k := by
    intro j hj
    split <;> omega
  refine ⟨?_, ⟨?_, ?_⟩, ?_, hX, ⟨rfl, ?_⟩, ⟨h0.trans hF.1, h1.trans hF.2⟩, ⟨hP.1, NB.sh hP.2 _ _⟩, ⟨?_, h4.trans hC.2.1, h5.trans hC.2.2⟩⟩
  · intro s' w' hs' hw' _
    show c1.2 3 (s' * wd + w') = m.2 7 (8 * s' + w') ∧ (c1.2 3 (s' * wd + w') ≠ 0 → c1.2 2 (s' * wd + w') = m.2 8 (8 * s' + w') ∧ c1.2 4 (s' * wd + w') = m.2 9 (8 * s' + w') ∧ c1.2 5 (s' * wd + w') = m.2 10 (8 * s' + w')) ∧ (c1.2 3 (s' * wd + w') = 0 → c1.2 2 (s' * wd + w') = 0 ∧ c1.2 4 (s' * wd + w') = 0 ∧ c1.2 5 (s' * wd + w') = 0 ∧ c1.2 6 (s' * wd + w') = 0)
    rw [d2, d3, d4, d5, d6]
    exact hL s' w' hs' hw' trivial
  · rw [hnz]
    intro s' w' hs' hw' _ hn
    have hn : c1.2 3 (s' * wd + w') ≠ 0 := hn
    rw [d3] at hn
    have hh := hU.1 s' w' hs' hw' trivial hn
    show sN S (c1.2 2 (s' * wd + w')) = s' ∧ (∀ w'', w'' < wd → qT s' w'' → c1.2 3 (s' * wd + w'') ≠ 0 → c1.2 2 (s' * wd + w'') = c1.2 2 (s' * wd + w') → w'' = w') ∧ ∀ j, j < z - 1 → shf (c1.2 8) k (z - 1) j ≠ c1.2 2 (s' * wd + w')
    rw [d2, d3, d8]
    refine ⟨hh.1, hh.2.1, ?_⟩
    intro j hj
    rw [sf _ j hj]
    exact hh.2.2 _ (by rw [hz]; exact (si j hj).1)
  · rw [hnz]
    intro i j hi hj he
    have he : shf (c1.2 8) k (z - 1) i = shf (c1.2 8) k (z - 1) j := he
    rw [sf _ i hi, sf _ j hj, d8] at he
    have := hU.2 _ _ (by rw [hz]; exact (si i hi).1) (by rw [hz]; exact (si j hj).1) he
    by_cases a : i < k <;> by_cases b : j < k
    · rw [if_pos a, if_pos b] at this; exact this
    · rw [if_pos a, if_neg b] at this; omega
    · rw [if_neg a, if_pos b] at this; omega
    · rw [if_neg a, if_neg b] at this; omega
  · show TI S wd (c1.2 6) (m.2 11)
    rw [d6]
    exact h6
  · rw [hnz]
    intro j hj
    show shf (c1.2 8) k (z - 1) j = shf (m.2 22) k (z - 1) j ∧ shf (c1.2 9) k (z - 1) j = shf (m.2 23) k (z - 1) j ∧ shf (c1.2 10) k (z - 1) j = shf (m.2 24) k (z - 1) j
    rw [sf _ j hj, sf _ j hj, sf _ j hj, sf _ j hj, sf _ j hj, sf _ j hj, d8, d10, h9 _ (si j hj).2]
    exact hR.2 _ (by rw [hz]; exact (si j hj).1)
  · show c1.1 3 = m.2 34 6 + y
    rw [h3, hC.1, i0]
/-- behind a placing: the part is taken -/
theorem tw1_of {r : Nat} {t t0 ch : Int32} (h : zT S wd qT y c (stM m r t ch)) (h9 : m.2 9 r = t0) (h10 : m.2 10 r = ch) (hy : t0 &&& bit = 0 → y = 1 ∧ t = t0 ||| bit) (hn : ¬ t0 &&& bit = 0 → y = 0 ∧ t = t0) : zT S wd qT 0 c (tw1 m r bit) := by
  have h1 : zT S wd qT y c (m.1, up2 m.2 9 (upd (m.2 9) r t)) := by
    refine h.of (fun _ _ _ => rfl) (fun _ _ => rfl) rfl rfl rfl (fun k _ => ?_) (fun _ _ _ => rfl)
    show up2 m.2 9 (upd (m.2 9) r t) k = up2 (up2 m.2 9 (upd (m.2 9) r t)) 10 (upd (m.2 10) r ch) k
    rw [upd_self _ h10]
    by_cases hk : k = 10
    · rw [hk, up2_s]
      rfl
    · exact (up2_n _ hk).symm
  unfold tw1
  rw [h9]
  by_cases h0 : t0 &&& bit = 0
  · obtain ⟨rfl, rfl⟩ := hy h0
    rw [if_pos h0]
    exact h1.f6
  · obtain ⟨rfl, rfl⟩ := hn h0
    rw [if_neg h0]
    rw [upd_self _ h9] at h1
    refine h1.of (fun _ _ _ => rfl) (fun _ _ => rfl) rfl rfl rfl (fun k _ => ?_) (fun _ _ _ => rfl)
    show m.2 k = up2 m.2 9 (m.2 9) k
    by_cases hk : k = 9
    · rw [hk, up2_s]
    · exact (up2_n _ hk).symm
end Parts
