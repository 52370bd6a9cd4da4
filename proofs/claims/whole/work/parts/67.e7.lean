/-! THE STORES TIED -/
def zX (S wd : Nat) (m : CS) : Prop := ∀ s w, w < 8 → ¬ (s < S ∧ w < wd) → m.2 7 (8 * s + w) = 0
def zL (S wd : Nat) (q : Nat → Nat → Prop) (c m : CS) : Prop := ∀ s w, s < S → w < wd → q s w → c.2 3 (s * wd + w) = m.2 7 (8 * s + w) ∧ (c.2 3 (s * wd + w) ≠ 0 → c.2 2 (s * wd + w) = m.2 8 (8 * s + w) ∧ c.2 4 (s * wd + w) = m.2 9 (8 * s + w) ∧ c.2 5 (s * wd + w) = m.2 10 (8 * s + w)) ∧ (c.2 3 (s * wd + w) = 0 → c.2 2 (s * wd + w) = 0 ∧ c.2 4 (s * wd + w) = 0 ∧ c.2 5 (s * wd + w) = 0 ∧ c.2 6 (s * wd + w) = 0)
def zU (S wd : Nat) (q : Nat → Nat → Prop) (c : CS) : Prop := (∀ s w, s < S → w < wd → q s w → c.2 3 (s * wd + w) ≠ 0 → sN S (c.2 2 (s * wd + w)) = s ∧ (∀ w', w' < wd → q s w' → c.2 3 (s * wd + w') ≠ 0 → c.2 2 (s * wd + w') = c.2 2 (s * wd + w) → w' = w) ∧ ∀ k, k < nz c → c.2 8 k ≠ c.2 2 (s * wd + w)) ∧ ∀ i j, i < nz c → j < nz c → c.2 8 i = c.2 8 j → i = j
def zR (c m : CS) : Prop := c.1 10 = m.1 21 ∧ ∀ k, k < nz c → c.2 8 k = m.2 22 k ∧ c.2 9 k = m.2 23 k ∧ c.2 10 k = m.2 24 k
def zF (c m : CS) : Prop := c.1 0 = m.1 5 ∧ c.1 1 = m.1 6
def zP (m : CS) : Prop := (∀ j, NB (m.2 9 j)) ∧ ∀ j, NB (m.2 23 j)
/-- fetched, written, gone out; the class has fetched y more -/
def zC (y : Int32) (c m : CS) : Prop := c.1 3 = m.2 34 6 + y ∧ c.1 4 = m.2 34 7 ∧ c.1 5 = m.2 34 8
def zT (S wd : Nat) (q : Nat → Nat → Prop) (y : Int32) (c m : CS) : Prop := zL S wd q c m ∧ zU S wd q c ∧ TI S wd (c.2 6) (m.2 11) ∧ zX S wd m ∧ zR c m ∧ zF c m ∧ zP m ∧ zC y c m
/-- all slots; all but one -/
def qT (_ _ : Nat) : Prop := True
def qN (s w : Nat) (s' w' : Nat) : Prop := ¬ (s' = s ∧ w' = w)
section Stores
variable {S wd V kd N : Nat} {q : Nat → Nat → Prop} {y : Int32} {c m c' m' : CS} {s w : Nat}
theorem zT.of (h : zT S wd q y c m) (hc1 : ∀ k, k < 11 → k ≠ 2 → c'.1 k = c.1 k) (hc2 : ∀ k, k < 11 → c'.2 k = c.2 k) (h5 : m'.1 5 = m.1 5) (h6 : m'.1 6 = m.1 6) (h21 : m'.1 21 = m.1 21) (hm2 : ∀ k, (k < 13 ∨ 21 < k ∧ k < 25) → m'.2 k = m.2 k) (h34 : ∀ k, 5 < k → k < 9 → m'.2 34 k = m.2 34 k) : zT S wd q y c' m' := by
  have e : nz c' = nz c := by unfold nz; rw [hc1 10 (by omega) (by omega)]
  unfold zT zL zU zX zR zF zP zC at *
  rw [e, hc1 0 (by omega) (by omega), hc1 1 (by omega) (by omega), hc1 3 (by omega) (by omega), hc1 4 (by omega) (by omega), hc1 5 (by omega) (by omega), hc1 10 (by omega) (by omega), hc2 2 (by omega), hc2 3 (by omega), hc2 4 (by omega), hc2 5 (by omega), hc2 6 (by omega), hc2 8 (by omega), hc2 9 (by omega), hc2 10 (by omega), h5, h6, h21, hm2 7 (by omega), hm2 8 (by omega), hm2 9 (by omega), hm2 10 (by omega), hm2 11 (by omega), hm2 22 (by omega), hm2 23 (by omega), hm2 24 (by omega), h34 6 (by omega) (by omega), h34 7 (by omega) (by omega), h34 8 (by omega) (by omega)]
  exact h
theorem zT.weak (h : zT S wd qT y c m) (q : Nat → Nat → Prop) : zT S wd q y c m :=
  ⟨fun s w hs hw _ => h.1 s w hs hw trivial, ⟨fun s w hs hw _ hn => ⟨(h.2.1.1 s w hs hw trivial hn).1, fun w' hw' _ => (h.2.1.1 s w hs hw trivial hn).2.1 w' hw' trivial, (h.2.1.1 s w hs hw trivial hn).2.2⟩, h.2.1.2⟩, h.2.2⟩
/-- the way that has the line -/
def fw (S wd : Nat) (c : CS) (x : Int32) : Option Nat := fst1 (fun w => hasL c.2 x (sN S x * wd + w)) 0 wd
theorem fdW_w (x : Int32) : fdW S wd c x = (fw S wd c x).map (fun w => sN S x * wd + w) := fst1_o _ _ _
theorem hasL_iff {f : Nat → Nat → Int32} {x : Int32} {j : Nat} : hasL f x j = true ↔ f 3 j ≠ 0 ∧ f 2 j = x := by
  unfold hasL
  simp
theorem hasM_w (h : zT S wd qT y c m) {x : Int32} (hs : s < S) (hw : w < wd) : hasM m.2 x (8 * s + w) = hasL c.2 x (s * wd + w) := by
  have := h.1 s w hs hw trivial
  unfold hasM hasL
  rw [← this.1]
  by_cases h0 : c.2 3 (s * wd + w) = 0
  · simp [h0]
  · rw [(this.2.1 h0).1]
theorem fdM_w (h : zT S wd qT y c m) {x : Int32} (hs : sN S x < S) : fdM S wd m x = (fw S wd c x).map (fun w => 8 * sN S x + w) := by
  unfold fdM fw
  rw [lstG_fst, fst1_o]
  · congr 1
    exact fst1_cong (fun w _ w2 => hasM_w h hs (by omega))
  · intro i j i1 i2 j1 j2 hi hj
    obtain ⟨u, rfl⟩ : ∃ u, i = 8 * sN S x + u := ⟨i - 8 * sN S x, by omega⟩
    obtain ⟨v, rfl⟩ : ∃ v, j = 8 * sN S x + v := ⟨j - 8 * sN S x, by omega⟩
    rw [hasM_w h hs (by omega), hasL_iff] at hi hj
    have := (h.2.1.1 (sN S x) v hs (by omega) trivial hj.1).2.1 u (by omega) trivial hi.1 (by rw [hi.2, hj.2])
    omega
theorem fw_some {x : Int32} (hw : fw S wd c x = some w) : w < wd ∧ c.2 3 (sN S x * wd + w) ≠ 0 ∧ c.2 2 (sN S x * wd + w) = x := by
  have := fst1_some hw
  rw [hasL_iff] at this
  exact ⟨by omega, this.2.2⟩
theorem fw_none {x : Int32} (hf : fw S wd c x = none) (hw : w < wd) (hn : c.2 3 (sN S x * wd + w) ≠ 0) : c.2 2 (sN S x * wd + w) ≠ x := by
  intro e
  have := fst1_none.mp hf w (by omega) (by omega)
  rw [hasL_iff.mpr ⟨hn, e⟩] at this
  cases this
theorem fw_is (h : zU S wd qT c) {x : Int32} (hs : sN S x < S) (hw : w < wd) (hn : c.2 3 (sN S x * wd + w) ≠ 0) (he : c.2 2 (sN S x * wd + w) = x) : fw S wd c x = some w := by
  refine fst1_of (Nat.zero_le _) (by omega) (hasL_iff.mpr ⟨hn, he⟩) (fun i _ i2 => ?_)
  cases hq : hasL c.2 x (sN S x * wd + i) with
  | false => rfl
  | true =>
    rw [hasL_iff] at hq
    have := (h.1 (sN S x) w hs hw trivial hn).2.1 i (by omega) trivial hq.1 (by rw [hq.2, he])
    omega
theorem zR_nz (h : zR c m) : nzM m = nz c := by
  unfold nzM nz
  rw [h.1]
theorem frM_r (h : zT S wd qT y c m) (x : Int32) : frM m x = fdR c x := by
  unfold frM fdR
  have hr := h.2.2.2.2.1
  rw [zR_nz hr, lstG_fst]
  · exact fst1_cong (fun k _ k2 => by rw [(hr.2 k (by omega)).1])
  · intro i j i1 i2 j1 j2 hi hj
    rw [← (hr.2 i (by omega)).1] at hi
    rw [← (hr.2 j (by omega)).1] at hj
    simp only [beq_iff_eq] at hi hj
    exact h.2.1.2 i j (by omega) (by omega) (by rw [hi, hj])
theorem em_w (h : zT S wd qT y c m) (hs : s < S) : fst1 (fun k => m.2 7 k == 0) (8 * s) wd = (fst1 (fun w => c.2 3 (s * wd + w) == 0) 0 wd).map (fun w => 8 * s + w) := by
  rw [fst1_o]
  congr 1
  exact fst1_cong (fun w _ w2 => by rw [(h.1 s w hs (by omega) trivial).1])
theorem cp_w (h : zT S wd qT y c m) {x : Int32} (hs : sN S x < S) : cpB S wd m x = !allL c.2 wd (sN S x) := by
  unfold cpB allL
  rw [fst1_o, Option.isSome_map]
  have e : fst1 (fun w => m.2 7 (8 * sN S x + w) == 0 || m.2 11 (8 * sN S x + w) == 0) 0 wd = fst1 (fun w => c.2 6 (sN S x * wd + w) == 0) 0 wd := by
    refine fst1_cong (fun w _ w2 => ?_)
    have h1 := h.1 (sN S x) w hs (by omega) trivial
    rw [← h1.1, ← h.2.2.1 (sN S x) w hs (by omega)]
    by_cases h0 : c.2 3 (sN S x * wd + w) = 0
    · simp [h0, (h1.2.2 h0).2.2.2]
    · simp [h0]
  rw [e]
  cases fst1 (fun w => c.2 6 (sN S x * wd + w) == 0) 0 wd <;> rfl
/-- a slot's parts and changes exchanged -/
def stM (m : CS) (r : Nat) (t ch : Int32) : CS := (m.1, up2 (up2 m.2 9 (upd (m.2 9) r t)) 10 (upd (m.2 10) r ch))
theorem put_tie {x t ch t0 ch0 : Int32} (hx : sN S x = s) (hs : s < S) (hw : w < wd) (h8 : wd ≤ 8) (h : zT S wd (qN s w) y c m) (hnw : ∀ w', w' < wd → w' ≠ w → c.2 3 (s * wd + w') ≠ 0 → c.2 2 (s * wd + w') ≠ x) (hnr : ∀ k, k < nz c → c.2 8 k ≠ x) (ht : NB t) : zT S wd qT y (c.1, putF c.2 (s * wd + w) x t ch) (stM (m.1, puM m.2 (8 * s + w) x t0 ch0) (8 * s + w) t ch) := by
  obtain ⟨hL, hU, h6, hX, hR, hF, hP, hC⟩ := h
  refine ⟨?_, ⟨?_, hU.2⟩, h6, ?_, hR, hF, ⟨?_, hP.2⟩, hC⟩
  · intro s' w' hs' hw' _
    show upd (c.2 3) (s * wd + w) 1 (s' * wd + w') = upd (m.2 7) (8 * s + w) 1 (8 * s' + w') ∧ (upd (c.2 3) (s * wd + w) 1 (s' * wd + w') ≠ 0 → upd (c.2 2) (s * wd + w) x (s' * wd + w') = upd (m.2 8) (8 * s + w) x (8 * s' + w') ∧ upd (c.2 4) (s * wd + w) t (s' * wd + w') = upd (upd (m.2 9) (8 * s + w) t0) (8 * s + w) t (8 * s' + w') ∧ upd (c.2 5) (s * wd + w) ch (s' * wd + w') = upd (upd (m.2 10) (8 * s + w) ch0) (8 * s + w) ch (8 * s' + w')) ∧ (upd (c.2 3) (s * wd + w) 1 (s' * wd + w') = 0 → upd (c.2 2) (s * wd + w) x (s' * wd + w') = 0 ∧ upd (c.2 4) (s * wd + w) t (s' * wd + w') = 0 ∧ upd (c.2 5) (s * wd + w) ch (s' * wd + w') = 0 ∧ c.2 6 (s' * wd + w') = 0)
    by_cases hj : s' = s ∧ w' = w
    · rw [hj.1, hj.2]
      refine ⟨by rw [pk_us, pk_us], fun _ => ⟨by rw [pk_us, pk_us], by rw [pk_us, pk_us], by rw [pk_us, pk_us]⟩, fun e => ?_⟩
      rw [pk_us] at e
      exact absurd e (by decide)
    · have n1 : s' * wd + w' ≠ s * wd + w := fun q => hj (slot_inj hw' hw q)
      have n2 : 8 * s' + w' ≠ 8 * s + w := by omega
      simp only [pk_un n1, pk_un n2]
      exact hL s' w' hs' hw' hj
  · intro s' w' hs' hw' _ hne
    have hne : upd (c.2 3) (s * wd + w) 1 (s' * wd + w') ≠ 0 := hne
    show sN S (upd (c.2 2) (s * wd + w) x (s' * wd + w')) = s' ∧ (∀ w'', w'' < wd → qT s' w'' → upd (c.2 3) (s * wd + w) 1 (s' * wd + w'') ≠ 0 → upd (c.2 2) (s * wd + w) x (s' * wd + w'') = upd (c.2 2) (s * wd + w) x (s' * wd + w') → w'' = w') ∧ ∀ k, k < nz c → c.2 8 k ≠ upd (c.2 2) (s * wd + w) x (s' * wd + w')
    by_cases hj : s' = s ∧ w' = w
    · obtain ⟨e1, e2⟩ := hj
      rw [e1, e2, pk_us]
      refine ⟨hx, ?_, hnr⟩
      intro w'' hw'' _ hne2 he
      by_cases hw2 : w'' = w
      · exact hw2
      · have n1 : s * wd + w'' ≠ s * wd + w := by omega
        rw [pk_un n1] at hne2 he
        exact absurd he (hnw w'' hw'' hw2 hne2)
    · have n1 : s' * wd + w' ≠ s * wd + w := fun q => hj (slot_inj hw' hw q)
      rw [pk_un n1] at hne
      have hh := hU.1 s' w' hs' hw' hj hne
      rw [pk_un n1]
      refine ⟨hh.1, ?_, hh.2.2⟩
      intro w'' hw'' _ hne2 he
      by_cases hj2 : s' = s ∧ w'' = w
      · obtain ⟨e1, e2⟩ := hj2
        rw [e1] at he hne
        rw [e2, pk_us] at he
        exact absurd he.symm (hnw w' hw' (fun e => hj ⟨e1, e⟩) hne)
      · have n2 : s' * wd + w'' ≠ s * wd + w := fun q => hj2 (slot_inj hw'' hw q)
        rw [pk_un n2] at hne2 he
        exact hh.2.1 w'' hw'' hj2 hne2 he
  · intro s' w' hw' hn
    show upd (m.2 7) (8 * s + w) 1 (8 * s' + w') = 0
    rw [pk_un (fun e => hn (by have e1 : s' = s := by omega
                               have e2 : w' = w := by omega
                               rw [e1, e2]; exact ⟨hs, hw⟩))]
    exact hX s' w' hw' hn
  · show ∀ j, NB (upd (upd (m.2 9) (8 * s + w) t0) (8 * s + w) t j)
    rw [upd_uu]
    exact NB.up hP.1 _ ht
theorem zU_out (hU : zU S wd qT c) (e2 : c'.2 2 = c.2 2) (e3 : c'.2 3 = c.2 3) (hs : s < S) (hw : w < wd) (hne : c.2 3 (s * wd + w) ≠ 0) (hrow : ∀ k, k < nz c' → c'.2 8 k = c.2 2 (s * wd + w) ∨ ∃ i, i < nz c ∧ c'.2 8 k = c.2 8 i) (hinj : ∀ i j, i < nz c' → j < nz c' → c'.2 8 i = c'.2 8 j → i = j) : zU S wd (qN s w) c' := by
  refine ⟨?_, hinj⟩
  rw [e2, e3]
  intro s' w' hs' hw' hq hn
  have hh := hU.1 s' w' hs' hw' trivial hn
  have h0 := hU.1 s w hs hw trivial hne
  refine ⟨hh.1, fun w'' hw'' _ => hh.2.1 w'' hw'' trivial, ?_⟩
  intro k hk he
  rcases hrow k hk with e | ⟨i, i1, i2⟩
  · rw [e] at he
    have es : s' = s := by rw [← hh.1, ← he, h0.1]
    subst es
    exact hq ⟨rfl, h0.2.1 w' hw' trivial hn he.symm⟩
  · rw [i2] at he
    exact hh.2.2 i i1 he
/-- rows behind one that went out: the line itself, or one that was there -/
theorem po_rows {z : Nat} (hRD : RD c.1 V z) (j : Nat) : ∀ k, k < nz (poS V c j) → (poS V c j).2 8 k = c.2 2 j ∨ ∃ i, i < nz c ∧ (poS V c j).2 8 k = c.2 8 i := by
  have hz := nz_eq hRD
  obtain ⟨r9, r10, r1, r2⟩ := hRD
  intro k hk
  by_cases hV : V = 0
  · have e : poS V c j = (upd (upd c.1 5 (c.1 5 + 1)) 4 (c.1 4 + popI (c.2 5 j)), c.2) := by simp only [poS, if_pos hV]
    rw [e] at hk ⊢
    exact Or.inr ⟨k, hk, rfl⟩
  · by_cases hlt : z < V
    · have e : poS V c j = (upd (upd c.1 5 (c.1 5 + 1)) 10 (nI (z + 1)), raF c.2 z (c.2 2 j) (c.2 4 j) (c.2 5 j)) := by simp only [poS, if_neg hV, hz, if_pos hlt]
      rw [e] at hk ⊢
      have hk : k < (nI (z + 1)).toNatClampNeg := hk
      rw [nI_clamp (by omega)] at hk
      show upd (c.2 8) z (c.2 2 j) k = _ ∨ ∃ i, i < nz c ∧ upd (c.2 8) z (c.2 2 j) k = c.2 8 i
      by_cases he : k = z
      · left; rw [he, pk_us]
      · right; exact ⟨k, by omega, pk_un he⟩
    · have e : poS V c j = (upd (upd (upd (upd c.1 5 (c.1 5 + 1)) 4 (c.1 4 + popI (c.2 10 0))) 10 (nI (V - 1))) 10 (nI (V - 1 + 1)), raF (rmF c.2 0 (V - 1)) (V - 1) (c.2 2 j) (c.2 4 j) (c.2 5 j)) := by simp only [poS, if_neg hV, hz, if_neg hlt]
      rw [e] at hk ⊢
      have hk : k < (nI (V - 1 + 1)).toNatClampNeg := hk
      rw [nI_clamp (by omega)] at hk
      show upd (shf (c.2 8) 0 (V - 1)) (V - 1) (c.2 2 j) k = _ ∨ ∃ i, i < nz c ∧ upd (shf (c.2 8) 0 (V - 1)) (V - 1) (c.2 2 j) k = c.2 8 i
      by_cases he : k = V - 1
      · left; rw [he, pk_us]
      · right
        rw [pk_un he]
        exact ⟨k + 1, by omega, by unfold shf; rw [if_pos (by omega)]⟩
theorem shf_in (g : Nat → Int32) {lo hi j : Nat} (h1 : lo ≤ j) (h2 : j < hi) : shf g lo hi j = g (j + 1) := by
  unfold shf
  rw [if_pos ⟨h1, h2⟩]
theorem shf_lo (g : Nat → Int32) {lo hi j : Nat} (h1 : j < lo) : shf g lo hi j = g j := by
  unfold shf
  rw [if_neg (by omega)]
theorem out_tie {z : Nat} (hRD : RD c.1 V z) (h : zT S wd qT y c m) (hs : s < S) (hw : w < wd) (hne : c.2 3 (s * wd + w) ≠ 0) : zT S wd (qN s w) y (poS V c (s * wd + w)) (pl1 V m (8 * s + w)) := by
  have hrow := po_rows hRD (s * wd + w)
  have hz := nz_eq hRD
  have hzm : nzM (c8S m) = z := by rw [show nzM (c8S m) = nzM m from rfl, zR_nz h.2.2.2.2.1, hz]
  obtain ⟨hL, hU, h6, hX, hR, hF, hP, hC⟩ := h
  obtain ⟨e8, e9, e10⟩ := (hL s w hs hw trivial).2.1 hne
  have hu := hU.1 s w hs hw trivial hne
  obtain ⟨r9, r10, r1, r2⟩ := hRD
  have hLq : zL S wd (qN s w) c m := fun s w hs hw _ => hL s w hs hw trivial
  have hR2 := hR.2
  rw [hz] at hR2
  by_cases hV : V = 0
  · have e : poS V c (s * wd + w) = (upd (upd c.1 5 (c.1 5 + 1)) 4 (c.1 4 + popI (c.2 5 (s * wd + w))), c.2) := by simp only [poS, if_pos hV]
    have hz0 : z = 0 := by omega
    subst hz0
    have em : pl1 V m (8 * s + w) = (upd (cr1 (c8S m) 0 (m.2 8 (8 * s + w)) (m.2 9 (8 * s + w)) (m.2 10 (8 * s + w))).1 21 (nI 0), trF (waS (cr1 (c8S m) 0 (m.2 8 (8 * s + w)) (m.2 9 (8 * s + w)) (m.2 10 (8 * s + w))) ((cr1 (c8S m) 0 (m.2 8 (8 * s + w)) (m.2 9 (8 * s + w)) (m.2 10 (8 * s + w))).2 24 0)).2 0 0) := by
      simp only [pl1, crS, hzm, hV, if_neg (show ¬ 0 + 1 ≤ 0 by omega)]
    rw [e] at hrow
    rw [e, em]
    refine ⟨hLq, zU_out hU rfl rfl hs hw hne hrow hU.2, h6, hX, ⟨r10, fun k hk => absurd hk (by show ¬ k < nz c; omega)⟩, hF, ⟨hP.1, (show ∀ j, NB (shf (upd (m.2 23) 0 (m.2 9 (8 * s + w))) 0 0 j) from NB.sh (NB.up hP.2 _ (hP.1 _)) _ _)⟩, ⟨hC.1, ?_, ?_⟩⟩
    · show c.1 4 + popI (c.2 5 (s * wd + w)) = m.2 34 7 + popI (m.2 10 (8 * s + w))
      rw [hC.2.1, e10]
    · show c.1 5 + 1 = m.2 34 8 + 1
      rw [hC.2.2]
  · by_cases hlt : z < V
    · have e : poS V c (s * wd + w) = (upd (upd c.1 5 (c.1 5 + 1)) 10 (nI (z + 1)), raF c.2 z (c.2 2 (s * wd + w)) (c.2 4 (s * wd + w)) (c.2 5 (s * wd + w))) := by simp only [poS, if_neg hV, hz, if_pos hlt]
      have em : pl1 V m (8 * s + w) = cr1 (c8S m) z (m.2 8 (8 * s + w)) (m.2 9 (8 * s + w)) (m.2 10 (8 * s + w)) := by
        simp only [pl1, crS, hzm, if_pos (show z + 1 ≤ V by omega)]
      rw [e] at hrow
      rw [e, em]
      have hnz : nz (upd (upd c.1 5 (c.1 5 + 1)) 10 (nI (z + 1)), raF c.2 z (c.2 2 (s * wd + w)) (c.2 4 (s * wd + w)) (c.2 5 (s * wd + w))) = z + 1 := nI_clamp (by omega)
      refine ⟨hLq, zU_out hU rfl rfl hs hw hne hrow ?_, h6, hX, ⟨rfl, ?_⟩, hF, ⟨hP.1, NB.up hP.2 _ (hP.1 _)⟩, ⟨hC.1, hC.2.1, ?_⟩⟩
      · rw [hnz]
        intro i j hi hj he
        have he : upd (c.2 8) z (c.2 2 (s * wd + w)) i = upd (c.2 8) z (c.2 2 (s * wd + w)) j := he
        by_cases hi2 : i = z
        · by_cases hj2 : j = z
          · omega
          · rw [hi2, pk_us, pk_un hj2] at he
            exact absurd he.symm (hu.2.2 j (by omega))
        · by_cases hj2 : j = z
          · rw [hj2, pk_us, pk_un hi2] at he
            exact absurd he (hu.2.2 i (by omega))
          · rw [pk_un hi2, pk_un hj2] at he
            exact hU.2 i j (by omega) (by omega) he
      · rw [hnz]
        intro k hk
        show upd (c.2 8) z (c.2 2 (s * wd + w)) k = upd (m.2 22) z (m.2 8 (8 * s + w)) k ∧ upd (c.2 9) z (c.2 4 (s * wd + w)) k = upd (m.2 23) z (m.2 9 (8 * s + w)) k ∧ upd (c.2 10) z (c.2 5 (s * wd + w)) k = upd (m.2 24) z (m.2 10 (8 * s + w)) k
        rw [e8, e9, e10]
        by_cases he : k = z
        · rw [he]
          refine ⟨?_, ?_, ?_⟩ <;> rw [pk_us, pk_us]
        · simp only [pk_un he]
          exact hR2 k (by omega)
      · show c.1 5 + 1 = m.2 34 8 + 1
        rw [hC.2.2]
    · have hzV : z = V := by omega
      subst hzV
      have e : poS z c (s * wd + w) = (upd (upd (upd (upd c.1 5 (c.1 5 + 1)) 4 (c.1 4 + popI (c.2 10 0))) 10 (nI (z - 1))) 10 (nI (z - 1 + 1)), raF (rmF c.2 0 (z - 1)) (z - 1) (c.2 2 (s * wd + w)) (c.2 4 (s * wd + w)) (c.2 5 (s * wd + w))) := by simp only [poS, if_neg hV, hz, if_neg hlt]
      have em : pl1 z m (8 * s + w) = (upd (cr1 (c8S m) z (m.2 8 (8 * s + w)) (m.2 9 (8 * s + w)) (m.2 10 (8 * s + w))).1 21 (nI z), trF (waS (cr1 (c8S m) z (m.2 8 (8 * s + w)) (m.2 9 (8 * s + w)) (m.2 10 (8 * s + w))) ((cr1 (c8S m) z (m.2 8 (8 * s + w)) (m.2 9 (8 * s + w)) (m.2 10 (8 * s + w))).2 24 0)).2 0 z) := by
        simp only [pl1, crS, hzm, if_neg (show ¬ z + 1 ≤ z by omega)]
      rw [e] at hrow
      rw [e, em]
      have hnz : nz (upd (upd (upd (upd c.1 5 (c.1 5 + 1)) 4 (c.1 4 + popI (c.2 10 0))) 10 (nI (z - 1))) 10 (nI (z - 1 + 1)), raF (rmF c.2 0 (z - 1)) (z - 1) (c.2 2 (s * wd + w)) (c.2 4 (s * wd + w)) (c.2 5 (s * wd + w))) = z := by
        show (nI (z - 1 + 1)).toNatClampNeg = z
        rw [show z - 1 + 1 = z by omega]
        exact nI_clamp (by omega)
      have cl : ∀ (g : Nat → Int32) (v : Int32) (k : Nat), k < z → upd (shf g 0 (z - 1)) (z - 1) v k = if k + 1 = z then v else g (k + 1) := by
        intro g v k hk
        by_cases he : k + 1 = z
        · rw [if_pos he, show k = z - 1 by omega, pk_us]
        · rw [if_neg he, pk_un (by omega), shf_in g (Nat.zero_le _) (by omega)]
      have ml : ∀ (g : Nat → Int32) (v : Int32) (k : Nat), k < z → shf (upd g z v) 0 z k = if k + 1 = z then v else g (k + 1) := by
        intro g v k hk
        rw [shf_in _ (Nat.zero_le _) hk]
        by_cases he : k + 1 = z
        · rw [if_pos he, he, pk_us]
        · rw [if_neg he, pk_un he]
      refine ⟨hLq, zU_out hU rfl rfl hs hw hne hrow ?_, h6, hX, ⟨?_, ?_⟩, hF, ⟨hP.1, (show ∀ j, NB (shf (upd (m.2 23) z (m.2 9 (8 * s + w))) 0 z j) from NB.sh (NB.up hP.2 _ (hP.1 _)) _ _)⟩, ⟨hC.1, ?_, ?_⟩⟩
      · rw [hnz]
        intro i j hi hj he
        have he : upd (shf (c.2 8) 0 (z - 1)) (z - 1) (c.2 2 (s * wd + w)) i = upd (shf (c.2 8) 0 (z - 1)) (z - 1) (c.2 2 (s * wd + w)) j := he
        rw [cl _ _ i hi, cl _ _ j hj] at he
        by_cases hi2 : i + 1 = z
        · by_cases hj2 : j + 1 = z
          · omega
          · rw [if_pos hi2, if_neg hj2] at he
            exact absurd he.symm (hu.2.2 (j + 1) (by omega))
        · by_cases hj2 : j + 1 = z
          · rw [if_neg hi2, if_pos hj2] at he
            exact absurd he (hu.2.2 (i + 1) (by omega))
          · rw [if_neg hi2, if_neg hj2] at he
            have := hU.2 (i + 1) (j + 1) (by omega) (by omega) he
            omega
      · show nI (z - 1 + 1) = nI z
        rw [show z - 1 + 1 = z by omega]
      · rw [hnz]
        intro k hk
        show upd (shf (c.2 8) 0 (z - 1)) (z - 1) (c.2 2 (s * wd + w)) k = shf (upd (m.2 22) z (m.2 8 (8 * s + w))) 0 z k ∧ upd (shf (c.2 9) 0 (z - 1)) (z - 1) (c.2 4 (s * wd + w)) k = shf (upd (m.2 23) z (m.2 9 (8 * s + w))) 0 z k ∧ upd (shf (c.2 10) 0 (z - 1)) (z - 1) (c.2 5 (s * wd + w)) k = shf (upd (m.2 24) z (m.2 10 (8 * s + w))) 0 z k
        rw [cl _ _ k hk, cl _ _ k hk, cl _ _ k hk, ml _ _ k hk, ml _ _ k hk, ml _ _ k hk, e8, e9, e10]
        by_cases he : k + 1 = z
        · refine ⟨?_, ?_, ?_⟩ <;> rw [if_pos he, if_pos he]
        · simp only [if_neg he]
          exact hR2 (k + 1) (by omega)
      · show c.1 4 + popI (c.2 10 0) = m.2 34 7 + popI (upd (m.2 24) z (m.2 10 (8 * s + w)) 0)
        rw [pk_un (show (0 : Nat) ≠ z by omega), hC.2.1, (hR2 0 (by omega)).2.2]
      · show c.1 5 + 1 = m.2 34 8 + 1
        rw [hC.2.2]
end Stores
