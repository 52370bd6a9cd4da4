/-! HISTORY TIED -/
def zH (c m : CS) : Prop := c.1 14 = m.1 31 ∧ (∀ k, k < nh c → c.2 18 k = m.2 32 k) ∧ (∀ i j, i < nh c → j < nh c → c.2 18 i = c.2 18 j → i = j) ∧ (∀ k, k < 64 → c.2 19 k = m.2 33 k) ∧ c.1 15 = m.2 33 64
def zK (c m : CS) : Prop := c.1 2 = m.2 34 0 ∧ ∀ k, k < 5 → c.2 20 k = m.2 34 (1 + k)
theorem zH_nh {c m : CS} (h : zH c m) : nhM m = nh c := by
  unfold nhM nh
  rw [h.1]
theorem ds_h {c m : CS} (h : zH c m) (x : Int32) : dsM m.2 (nh c) x = hfd c.2 (nh c) x := by
  unfold dsM hfd
  rw [lstG_fst]
  · exact fst1_cong (fun k _ k2 => by rw [h.2.1 k (by omega)])
  · intro i j i1 i2 j1 j2 hi hj
    rw [← h.2.1 i (by omega)] at hi
    rw [← h.2.1 j (by omega)] at hj
    simp only [beq_iff_eq] at hi hj
    exact h.2.2.1 i j (by omega) (by omega) (by rw [hi, hj])
theorem shu_at (g : Nat → Int32) (x : Int32) (hi j : Nat) : upd (shu g 0 hi) 0 x j = if j = 0 then x else if j ≤ hi then g (j - 1) else g j := by
  by_cases h0 : j = 0
  · rw [h0, pk_us, if_pos rfl]
  · rw [pk_un h0, if_neg h0]
    unfold shu
    by_cases h1 : j ≤ hi
    · rw [if_pos (by omega), if_pos h1]
    · rw [if_neg (by omega), if_neg h1]
theorem hist_tie {c m : CS} {hs : Nat} (hH : HD c.1 hs) (h : zH c m) (x : Int32) : zH (ntS c x) (pnS m x) := by
  have hn := nh_eq hH
  have hnm : nhM m = hs := by rw [zH_nh h, hn]
  have hd : dsM m.2 hs x = hfd c.2 hs x := by rw [← hn]; exact ds_h h x
  obtain ⟨a1, a2, a3, a4, a5⟩ := h
  rw [hn] at a2 a3
  obtain ⟨h14, h64⟩ := hH
  unfold ntS pnS ntV ntF ntK
  rw [hn, hnm, hd]
  cases hf : hfd c.2 hs x with
  | some k =>
    have hk := fst1_some hf
    simp only [beq_iff_eq] at hk
    have hn2 : nh (c.1, up2 (up2 c.2 19 (upd (c.2 19) k (c.2 19 k + 1))) 18 (upd (shu (c.2 18) 0 k) 0 x)) = hs := hn
    refine ⟨a1, ?_, ?_, ?_, ?_⟩
    · intro j hj
      have hj : j < hs := by rw [← hn2]; exact hj
      show upd (shu (c.2 18) 0 k) 0 x j = upd (shu (m.2 32) 0 k) 0 x j
      rw [shu_at, shu_at]
      split
      · rfl
      · split
        · exact a2 _ (by omega)
        · exact a2 _ hj
    · intro i j hi hj he
      have hi : i < hs := by rw [← hn2]; exact hi
      have hj : j < hs := by rw [← hn2]; exact hj
      have he : upd (shu (c.2 18) 0 k) 0 x i = upd (shu (c.2 18) 0 k) 0 x j := he
      rw [shu_at, shu_at, ← hk.2.2] at he
      by_cases p1 : i = 0 <;> by_cases p2 : j = 0
      · omega
      · rw [if_pos p1, if_neg p2] at he
        by_cases p3 : j ≤ k
        · rw [if_pos p3] at he
          have := a3 _ _ (by omega) (by omega) he
          omega
        · rw [if_neg p3] at he
          have := a3 _ _ (by omega) (by omega) he
          omega
      · rw [if_neg p1, if_pos p2] at he
        by_cases p3 : i ≤ k
        · rw [if_pos p3] at he
          have := a3 _ _ (by omega) (by omega) he
          omega
        · rw [if_neg p3] at he
          have := a3 _ _ (by omega) (by omega) he
          omega
      · rw [if_neg p1, if_neg p2] at he
        by_cases p3 : i ≤ k <;> by_cases p4 : j ≤ k
        · rw [if_pos p3, if_pos p4] at he
          have := a3 _ _ (by omega) (by omega) he
          omega
        · rw [if_pos p3, if_neg p4] at he
          have := a3 _ _ (by omega) (by omega) he
          omega
        · rw [if_neg p3, if_pos p4] at he
          have := a3 _ _ (by omega) (by omega) he
          omega
        · rw [if_neg p3, if_neg p4] at he
          exact a3 _ _ (by omega) (by omega) he
    · intro j hj
      show upd (c.2 19) k (c.2 19 k + 1) j = upd (m.2 33) k (m.2 33 k + 1) j
      by_cases he : j = k
      · rw [he, pk_us, pk_us, a4 k (by omega)]
      · rw [pk_un he, pk_un he]
        exact a4 j hj
    · show c.1 15 = upd (m.2 33) k (m.2 33 k + 1) 64
      rw [pk_un (by omega)]
      exact a5
  | none =>
    have hx : ∀ k, k < hs → c.2 18 k ≠ x := by
      intro k hk he
      have := fst1_none.mp hf k (by omega) (by omega)
      simp [he] at this
    dsimp only
    generalize hK : (if hs < 64 then hs else 63) = K
    have hKs : K ≤ hs ∧ K < 64 ∧ (hs < 64 → K = hs) := by
      rw [← hK]
      split <;> omega
    have hn2 : nh (upd (upd c.1 15 (c.1 15 + 1)) 14 (nI (K + 1)), up2 c.2 18 (upd (shu (c.2 18) 0 K) 0 x)) = K + 1 := nI_clamp (by omega)
    refine ⟨?_, ?_, ?_, ?_, ?_⟩
    · show nI (K + 1) = (if hs < 64 then upd m.1 31 (nI (hs + 1)) else m.1) 31
      by_cases h6 : hs < 64
      · rw [if_pos h6, hKs.2.2 h6]
        rfl
      · rw [if_neg h6, ← a1, h14]
        congr 1
        rw [if_neg h6] at hK
        omega
    · rw [hn2]
      intro j hj
      show upd (shu (c.2 18) 0 K) 0 x j = upd (shu (m.2 32) 0 hs) 0 x j
      rw [shu_at, shu_at]
      by_cases p1 : j = 0
      · rw [if_pos p1, if_pos p1]
      · rw [if_neg p1, if_neg p1, if_pos (by omega), if_pos (by omega)]
        exact a2 _ (by omega)
    · rw [hn2]
      intro i j hi hj he
      have he : upd (shu (c.2 18) 0 K) 0 x i = upd (shu (c.2 18) 0 K) 0 x j := he
      rw [shu_at, shu_at] at he
      by_cases p1 : i = 0 <;> by_cases p2 : j = 0
      · omega
      · rw [if_pos p1, if_neg p2, if_pos (by omega)] at he
        exact absurd he.symm (hx _ (by omega))
      · rw [if_neg p1, if_pos p2, if_pos (by omega)] at he
        exact absurd he (hx _ (by omega))
      · rw [if_neg p1, if_neg p2, if_pos (by omega), if_pos (by omega)] at he
        have := a3 _ _ (by omega) (by omega) he
        omega
    · intro j hj
      show c.2 19 j = upd (m.2 33) 64 (m.2 33 64 + 1) j
      rw [pk_un (by omega)]
      exact a4 j hj
    · show c.1 15 + 1 = upd (m.2 33) 64 (m.2 33 64 + 1) 64
      rw [pk_us, a5]
theorem ntS_kp (c : CS) (x : Int32) : (∀ k, k ≠ 14 → k ≠ 15 → (ntS c x).1 k = c.1 k) ∧ ∀ k, k ≠ 18 → k ≠ 19 → (ntS c x).2 k = c.2 k := by
  unfold ntS ntV ntF
  cases hfd c.2 (nh c) x with
  | some j =>
    refine ⟨fun _ _ _ => rfl, fun k k1 k2 => ?_⟩
    show up2 (up2 c.2 19 _) 18 _ k = c.2 k
    rw [up2_n _ k1, up2_n _ k2]
  | none =>
    refine ⟨fun k k1 k2 => ?_, fun k k1 k2 => up2_n _ k1⟩
    show upd (upd c.1 15 _) 14 _ k = c.1 k
    rw [pk_un k1, pk_un k2]
/-! REACHING TIED -/
/-- the reference's reaching, behind its first steps -/
def rh2 (S wd V kd : Nat) (m : CS) (x bit wt : Int32) : Option (CS × Int32) := match fdM S wd m x with
  | some r => some (tuS wd kd (twS m r bit wt) (sN S x) (r - 8 * sN S x), if m.2 9 r &&& bit = 0 then 1 else 0)
  | none => match frM m x with
    | some r => rrM S wd V kd m x r bit wt
    | none => if ¬ wt = 0 ∧ m.1 6 = 0 then some (cnt m 7 1, 3)
      else if cpB S wd m x = true then (plM S wd V kd m x 0 0).map (fun q => (twS q.1 q.2 bit wt, 3))
      else some (cnt (cnt m 6 1) 7 (if wt = 0 then 0 else 1), 4)
theorem rhM_eq (S wd V kd : Nat) (m : CS) (x bit wt : Int32) : rhM S wd V kd m x bit wt = rh2 S wd V kd (rh1 m x) x bit wt := by
  have h := rh1_kp m x
  have e1 : fdM S wd (rh1 m x) x = lstG (hasM m.2 x) none (8 * sN S x) wd := by
    unfold fdM
    congr 1
    funext j
    unfold hasM
    rw [h.2 7 (by omega) (by omega) (by omega), h.2 8 (by omega) (by omega) (by omega)]
  have e2 : frM (rh1 m x) x = lstG (fun k => m.2 22 k == x) none 0 (nzM m) := by
    unfold frM nzM
    rw [h.2 22 (by omega) (by omega) (by omega), h.1 21 (by omega)]
  have e3 := cpB_of (h.2 7 (by omega) (by omega) (by omega)) (h.2 11 (by omega) (by omega) (by omega)) S wd x
  unfold rhM rh2
  rw [e1, e2, e3, h.2 9 (by omega) (by omega) (by omega), h.1 6 (by omega)]
  cases lstG (hasM m.2 x) none (8 * sN S x) wd with
  | some r => rfl
  | none =>
    cases lstG (fun k => m.2 22 k == x) none 0 (nzM m) with
    | some r => rfl
    | none => rfl
section Reach
variable {S wd V kd N : Nat} {c m : CS} {x bit wt : Int32}
/-- the class behind reaching and writing -/
def pfx (S wd V kd : Nat) (c : CS) (x bit wt : Int32) : CS := if wt = 0 then (rhS S wd V kd c x bit wt).1 else wpS S wd (rhS S wd V kd c x bit wt).1 x bit
/-- what a reach shows -/
def RCH (S wd V kd N : Nat) (c m : CS) (x bit wt : Int32) : Prop := ∃ m', rh2 S wd V kd m x bit wt = some (m', (rhS S wd V kd c x bit wt).2) ∧ zT S wd qT 0 (pfx S wd V kd c x bit wt) m' ∧ TK S wd kd (N + 1) (pfx S wd V kd c x bit wt) m' ∧ mZ m m'
theorem twS_TK (hk : kd < 10) {c' : CS} (h : TK S wd kd N c m) (hA : RA c c') (r : Nat) : TK S wd kd N c' (twS m r bit wt) := by
  have hkp := twS_kp m r bit wt
  exact TK_of hk h hA (by rw [hkp.1]) (by rw [hkp.1]) (fun k k1 k2 => hkp.2 k (by omega) (by omega) (by omega))
theorem wpS_kp (S wd : Nat) (c : CS) (x bit : Int32) : (wpS S wd c x bit).2 2 = c.2 2 ∧ (wpS S wd c x bit).2 3 = c.2 3 := by
  unfold wpS
  split
  · exact ⟨rfl, rfl⟩
  · split
    · exact ⟨rfl, rfl⟩
    · split <;> exact ⟨rfl, rfl⟩
theorem uwS_RA (wd kd : Nat) (c : CS) (s w : Nat) (bit : Int32) : RA (rUse wd kd c s w) (uwS wd kd c s w bit).1 := by
  unfold uwS
  split
  · exact ⟨⟨rfl, rfl, rfl, rfl, rfl, rfl, rfl⟩, rfl, rfl, rfl⟩
  · exact RA.rf _
theorem uwS_pt (wd kd : Nat) (c : CS) (s w : Nat) (bit : Int32) : (∀ k, k < 16 → (uwS wd kd c s w bit).1.1 k = (ptS c (s * wd + w) bit).1 k) ∧ ∀ k, k < 22 → (uwS wd kd c s w bit).1.2 k = (ptS c (s * wd + w) bit).2 k := by
  have hro := rUse_RO wd kd c s w
  unfold uwS ptS
  split
  · refine ⟨fun k hk => ?_, fun k hk => ?_⟩
    · show upd (rUse wd kd c s w).1 3 (c.1 3 + 1) k = upd c.1 3 (c.1 3 + 1) k
      by_cases h3 : k = 3
      · rw [h3, pk_us, pk_us]
      · rw [pk_un h3, pk_un h3]
        exact hro.1 k hk
    · show up2 (rUse wd kd c s w).2 4 _ k = up2 c.2 4 _ k
      by_cases h4 : k = 4
      · rw [h4, up2_s, up2_s]
      · rw [up2_n _ h4, up2_n _ h4]
        exact hro.2 k hk
  · exact ⟨hro.1, hro.2⟩
theorem reach_way {w : Nat} (hM : MD m.1 S wd V kd) (hb : NB bit) (h : zT S wd qT 0 c m) (hK : TK S wd kd N c m) (hfw : fw S wd c x = some w) : RCH S wd V kd N c m x bit wt := by
  have hs := hM.lt x
  have hw8 := hM.w8
  have hk := hM.2.2.2.2.2.2.2
  have hf := fw_some hfw
  have hd : fst1 (hasL c.2 x) (sN S x * wd) wd = some (sN S x * wd + w) := by
    have := fdW_w (S := S) (wd := wd) (c := c) x
    rw [hfw] at this
    exact this
  have hdm := fdM_w h hs
  rw [hfw] at hdm
  have hdm : fdM S wd m x = some (8 * sN S x + w) := hdm
  have e9 := ((h.1 (sN S x) w hs hf.1 trivial).2.1 hf.2.1).2.1
  have eR : rhS S wd V kd c x bit wt = uwS wd kd c (sN S x) w bit := by
    unfold rhS
    rw [hd]
    dsimp only
    rw [Nat.add_sub_cancel_left]
  have e2 : (uwS wd kd c (sN S x) w bit).2 = if m.2 9 (8 * sN S x + w) &&& bit = 0 then 1 else 0 := by
    rw [← e9]
    unfold uwS
    split <;> rfl
  have hA := uwS_RA wd kd c (sN S x) w bit
  have hpt := uwS_pt wd kd c (sN S x) w bit
  have h1 := part_way h hs hf.1 hw8.2 hf.2.1 hb
  have h2 : zT S wd qT 0 (uwS wd kd c (sN S x) w bit).1 (tw1 m (8 * sN S x + w) bit) := h1.of (fun k hk _ => hpt.1 k (by omega)) (fun k hk => hpt.2 k (by omega)) rfl rfl rfl (fun _ _ => rfl) (fun _ _ _ => rfl)
  have hptk : (ptS c (sN S x * wd + w) bit).2 2 = c.2 2 ∧ (ptS c (sN S x * wd + w) bit).2 3 = c.2 3 := by
    unfold ptS
    split <;> exact ⟨rfl, rfl⟩
  have hfw2 : fw S wd (uwS wd kd c (sN S x) w bit).1 x = some w := by
    rw [fw_of ((hpt.2 2 (by omega)).trans hptk.1) ((hpt.2 3 (by omega)).trans hptk.2)]
    exact hfw
  have hp : zT S wd qT 0 (pfx S wd V kd c x bit wt) (twS m (8 * sN S x + w) bit wt) := by
    unfold pfx
    rw [eR, twS_eq]
    by_cases h0 : wt = 0
    · rw [if_pos h0, if_pos h0]
      exact h2
    · rw [if_neg h0, if_neg h0]
      exact write_way h2 hs hw8.2 hfw2
  have hAx : RA (rUse wd kd c (sN S x) w) (pfx S wd V kd c x bit wt) := by
    unfold pfx
    rw [eR]
    split
    · exact hA
    · have hB := wpS_RA S wd (uwS wd kd c (sN S x) w bit).1 x bit
      obtain ⟨⟨a1, a2, a3, a4, a5, a6, a7⟩, a8, a9, a10⟩ := hA
      obtain ⟨⟨b1, b2, b3, b4, b5, b6, b7⟩, b8, b9, b10⟩ := hB
      exact ⟨⟨b1.trans a1, b2.trans a2, b3.trans a3, b4.trans a4, b5.trans a5, b6.trans a6, b7.trans a7⟩, b8.trans a8, b9.trans a9, b10.trans a10⟩
  have hkp := tuS_kp wd kd (twS m (8 * sN S x + w) bit wt) (sN S x) w
  have hK2 := TK_use hk (twS_TK (bit := bit) (wt := wt) hk hK (RA.rf c) (8 * sN S x + w)) hw8.2 hs hf.1
  refine ⟨tuS wd kd (twS m (8 * sN S x + w) bit wt) (sN S x) w, ?_, ?_, ?_, ?_⟩
  · unfold rh2
    rw [hdm, eR, e2]
    dsimp only
    rw [Nat.add_sub_cancel_left]
  · exact hp.of (fun _ _ _ => rfl) (fun _ _ => rfl) (hkp.1 5 (by omega)) (hkp.1 6 (by omega)) (hkp.1 21 (by omega)) (fun k k1 => hkp.2 k (by omega)) (fun k _ _ => congrFun (hkp.2 34 (by omega)) k)
  · exact TK_of hk hK2 hAx rfl rfl (fun _ _ _ => rfl)
  · exact (twS_mZ m _ bit wt).tr (mZ.up (hkp.1 31 (by omega)) (hkp.2 32 (by omega)) (hkp.2 33 (by omega)) (hkp.2 34 (by omega)))
theorem wpS_pfx_RA (c0 : CS) : RA c0 (if wt = 0 then c0 else wpS S wd c0 x bit) := by
  split
  · exact RA.rf c0
  · exact wpS_RA S wd c0 x bit
/-- behind a placing: the part is taken and written -/
theorem take_way {c1 m1 : CS} {w : Nat} {y t t0 ch : Int32} (hk : kd < 10) (hs : sN S x < S) (h8 : wd ≤ 8) (h : zT S wd qT y c1 (stM m1 (8 * sN S x + w) t ch)) (hK : TK S wd kd N c1 m1) (h9 : m1.2 9 (8 * sN S x + w) = t0) (h10 : m1.2 10 (8 * sN S x + w) = ch) (hfw : fw S wd c1 x = some w) (hy : t0 &&& bit = 0 → y = 1 ∧ t = t0 ||| bit) (hn : ¬ t0 &&& bit = 0 → y = 0 ∧ t = t0) :
    zT S wd qT 0 (if wt = 0 then c1 else wpS S wd c1 x bit) (twS m1 (8 * sN S x + w) bit wt) ∧ TK S wd kd N (if wt = 0 then c1 else wpS S wd c1 x bit) (twS m1 (8 * sN S x + w) bit wt) := by
  have h1 := tw1_of h h9 h10 hy hn
  refine ⟨?_, twS_TK hk hK (wpS_pfx_RA c1) _⟩
  rw [twS_eq]
  by_cases h0 : wt = 0
  · rw [if_pos h0, if_pos h0]
    exact h1
  · rw [if_neg h0, if_neg h0]
    exact write_way h1 hs h8 hfw
theorem reach_none (hCI : CI S wd V kd c) (hMI : MI S wd V kd m) (hN : N < 2 ^ 30) (hb : NB bit) (h : zT S wd qT 0 c m) (hK : TK S wd kd N c m) (hfw : fw S wd c x = none) (hfr : fdR c x = none) : RCH S wd V kd N c m x bit wt := by
  have hM := hMI.1
  have hs := hM.lt x
  have hw8 := hM.w8
  have hk := hM.2.2.2.2.2.2.2
  have hd := fdW_none hfw
  have hr : fst1 (fun k => c.2 8 k == x) 0 (nz c) = none := hfr
  have hdm := fdM_w h hs
  rw [hfw] at hdm
  have hdm : fdM S wd m x = none := hdm
  have hrm : frM m x = none := by rw [frM_r h]; exact hfr
  have hpl := h.2.2.2.2.2.1.2
  have hcp := cp_w h (x := x) hs
  have hrhS : rhS S wd V kd c x bit wt = if ¬ wt = 0 ∧ c.1 1 = 0 then (c, 3) else if allL c.2 wd (sN S x) = true then ((upd c.1 3 (c.1 3 + 1), c.2), 4) else (plS S wd V kd (upd c.1 3 (c.1 3 + 1), c.2) x bit 0, 3) := by
    unfold rhS
    rw [hd, hr]
  have hrh2 : rh2 S wd V kd m x bit wt = if ¬ wt = 0 ∧ c.1 1 = 0 then some (cnt m 7 1, 3) else if cpB S wd m x = true then (plM S wd V kd m x 0 0).map (fun q => (twS q.1 q.2 bit wt, 3)) else some (cnt (cnt m 6 1) 7 (if wt = 0 then 0 else 1), 4) := by
    unfold rh2
    rw [hdm, hrm, hpl]
  unfold RCH pfx
  rw [hrhS, hrh2]
  by_cases hc1 : ¬ wt = 0 ∧ c.1 1 = 0
  · rw [if_pos hc1, if_pos hc1]
    refine ⟨cnt m 7 1, rfl, ?_, ?_, cnt_mZ m (by omega) 1⟩
    · rw [if_neg hc1.1]
      exact write_none h hfw hfr
    · refine TK_mono hk (TK_of hk hK (wpS_pfx_RA c) rfl rfl (fun k k1 k2 => up2_n _ (by omega))) (by omega)
  · rw [if_neg hc1, if_neg hc1]
    have h1 := h.c3
    have hK1 : TK S wd kd N (upd c.1 3 (c.1 3 + 1), c.2) m := TK_of hk hK ⟨⟨rfl, rfl, rfl, rfl, rfl, rfl, rfl⟩, rfl, rfl, rfl⟩ rfl rfl (fun _ _ _ => rfl)
    by_cases hal : allL c.2 wd (sN S x) = true
    · rw [if_pos hal, if_neg (show ¬ cpB S wd m x = true by rw [hcp, hal]; decide)]
      have h2 : zT S wd qT 0 (upd c.1 3 (c.1 3 + 1), c.2) (cnt m 6 1) := h1.f6
      refine ⟨_, rfl, ?_, ?_, (cnt_mZ m (by omega) 1).tr (cnt_mZ _ (by omega) _)⟩
      · by_cases h0 : wt = 0
        · rw [if_pos h0, if_pos h0]
          refine h2.of (fun _ _ _ => rfl) (fun _ _ => rfl) rfl rfl rfl (fun k k1 => up2_n _ (by omega)) (fun k k1 k2 => ?_)
          show upd ((cnt m 6 1).2 34) 7 ((cnt m 6 1).2 34 7 + 0) k = _
          rw [i0, upd_self _ rfl]
        · rw [if_neg h0, if_neg h0]
          exact write_none h2 hfw hfr
      · refine TK_mono hk (TK_of hk hK1 (wpS_pfx_RA _) rfl rfl (fun k k1 k2 => ?_)) (by omega)
        show up2 (up2 m.2 34 _) 34 _ k = _
        rw [up2_n _ (by omega), up2_n _ (by omega)]
    · have hal : allL c.2 wd (sN S x) = false := by simpa using hal
      rw [if_neg (show ¬ allL c.2 wd (sN S x) = true by rw [hal]; decide), if_pos (show cpB S wd m x = true by rw [hcp, hal]; rfl)]
      obtain ⟨w, m1, hw, q1, q2, q3, q4, q5, q6⟩ := place_tie (t := bit) (ch := 0) (t0 := 0) (ch0 := 0) (f3_CI hCI (c.1 3 + 1)) hMI hN h1 hK1 hfw hfr hal hb
      have ht := take_way (bit := bit) (wt := wt) hk hs hw8.2 q4 q5 q2 q3 q6 (fun _ => ⟨rfl, (Int32.zero_or).symm⟩) (fun z => absurd Int32.zero_and z)
      refine ⟨twS m1 (8 * sN S x + w) bit wt, ?_, ht.1, ht.2, (plM_mZ hk q1).tr (twS_mZ m1 _ bit wt)⟩
      rw [q1]
      rfl
theorem rmM_MI (h : MI S wd V kd m) {z k : Nat} (hz : nzM m = z) (hk : k < z) : MI S wd V kd (upd m.1 21 (nI (z - 1)), trF m.2 k (z - 1)) := by
  obtain ⟨h1, h2, ⟨u, hu, hu2⟩, h4, h5, h6⟩ := h
  have hkd := h1.2.2.2.2.2.2.2
  have hV := h1.2.2.2.2.2.2.1
  have : nzM m = u := nzM_eq hu2 (by omega)
  refine ⟨h1, ?_, ⟨z - 1, by omega, rfl⟩, h4, h5, NB.sh h6 _ _⟩
  exact MR_of hkd h2 rfl (fun h => h) rfl rfl
theorem rmC_CI (h : CI S wd V kd c) {z k : Nat} (hz : nz c = z) (hk : k < z) : CI S wd V kd (upd c.1 10 (nI (z - 1)), rmF c.2 k (z - 1)) := by
  obtain ⟨h1, ⟨u, hu⟩, h5, h10⟩ := h
  have : nz c = u := nz_eq hu
  obtain ⟨r9, r10, r1, r2⟩ := hu
  exact ⟨RA.rc (c := c) ⟨⟨rfl, rfl, rfl, rfl, rfl, rfl, rfl⟩, rfl, rfl, rfl⟩ h1, ⟨z - 1, r9, rfl, by omega, r2⟩, h5, NB.sh h10 _ _⟩
theorem reach_row {k : Nat} (hCI : CI S wd V kd c) (hMI : MI S wd V kd m) (hN : N < 2 ^ 30) (hb : NB bit) (h : zT S wd qT 0 c m) (hK : TK S wd kd N c m) (hfw : fw S wd c x = none) (hfr : fdR c x = some k) : RCH S wd V kd N c m x bit wt := by
  have hM := hMI.1
  have hs := hM.lt x
  have hw8 := hM.w8
  have hkd := hM.2.2.2.2.2.2.2
  have hV := hM.2.2.2.2.2.2.1
  have hd := fdW_none hfw
  have hr : fst1 (fun k => c.2 8 k == x) 0 (nz c) = some k := hfr
  have hk := fst1_some hr
  simp only [beq_iff_eq] at hk
  have hdm := fdM_w h hs
  rw [hfw] at hdm
  have hdm : fdM S wd m x = none := hdm
  have hrm : frM m x = some k := by rw [frM_r h]; exact hfr
  have hcp := cp_w h (x := x) hs
  have hnzm := zR_nz h.2.2.2.2.1
  obtain ⟨z, hz⟩ := hCI.2.1
  have hnz := nz_eq hz
  have hz4 := hz.2.2
  obtain ⟨t8, t9, t10⟩ := h.2.2.2.2.1.2 k (by omega)
  have f6 : (ftS c k bit).2 6 = c.2 6 := by
    unfold ftS
    split <;> rfl
  have f2 : (ftS c k bit).2 2 = c.2 2 ∧ (ftS c k bit).2 3 = c.2 3 ∧ (ftS c k bit).2 8 = c.2 8 ∧ (ftS c k bit).1 10 = c.1 10 := by
    unfold ftS
    split <;> exact ⟨rfl, rfl, rfl, rfl⟩
  have fA : RA c (ftS c k bit) := by
    unfold ftS
    split
    · exact ⟨⟨rfl, rfl, rfl, rfl, rfl, rfl, rfl⟩, rfl, rfl, rfl⟩
    · exact RA.rf c
  have eA : allL (ftS c k bit).2 wd (sN S x) = allL c.2 wd (sN S x) := by
    unfold allL
    rw [f6]
  have hrhS : rhS S wd V kd c x bit wt = (if allL c.2 wd (sN S x) = true then ftS c k bit else plS S wd V kd (upd (ftS c k bit).1 10 (nI (z - 1)), rmF (ftS c k bit).2 k (z - 1)) x ((ftS c k bit).2 9 k) (c.2 10 k), 2) := by
    unfold rhS rcS
    rw [hd, hr]
    dsimp only
    rw [hk.2.2, eA, hnz]
  have hrh2 : rh2 S wd V kd m x bit wt = rrM S wd V kd m x k bit wt := by
    unfold rh2
    rw [hdm, hrm]
  unfold RCH pfx
  rw [hrhS, hrh2]
  unfold rrM
  dsimp only
  by_cases hal : allL c.2 wd (sN S x) = true
  · rw [if_pos hal, if_neg (show ¬ cpB S wd m x = true by rw [hcp, hal]; decide)]
    have h1 := part_row h (show k < nz c by omega) hb
    refine ⟨rr2 m k bit wt, rfl, ?_, ?_, rr2_mZ m k bit wt⟩
    · rw [rr2_eq]
      by_cases h0 : wt = 0
      · rw [if_pos h0, if_pos h0]
        exact h1
      · rw [if_neg h0, if_neg h0]
        refine write_row h1 ?_ ?_
        · rw [fw_of f2.1 f2.2.1]; exact hfw
        · rw [fdR_of f2.2.2.1 f2.2.2.2]; exact hfr
    · have hKf := TK_of hkd hK fA rfl rfl (fun _ _ _ => rfl) (m' := m)
      have hrk : (rr2 m k bit wt).1 = m.1 ∧ ∀ j, 13 ≤ j → j ≤ 19 → (rr2 m k bit wt).2 j = m.2 j := by
        have hr1 : (rr1 m k bit).1 = m.1 ∧ ∀ j, 13 ≤ j → j ≤ 19 → (rr1 m k bit).2 j = m.2 j := by
          unfold rr1
          split
          · refine ⟨rfl, fun j j1 j2 => ?_⟩
            show up2 (up2 m.2 23 _) 34 _ j = m.2 j
            rw [up2_n _ (by omega), up2_n _ (by omega)]
          · exact ⟨rfl, fun _ _ _ => rfl⟩
        unfold rr2
        split
        · exact hr1
        · split
          · refine ⟨hr1.1, fun j j1 j2 => ?_⟩
            show up2 (rr1 m k bit).2 24 _ j = m.2 j
            rw [up2_n _ (by omega)]
            exact hr1.2 j j1 j2
          · refine ⟨hr1.1, fun j j1 j2 => ?_⟩
            show up2 (rr1 m k bit).2 34 _ j = m.2 j
            rw [up2_n _ (by omega)]
            exact hr1.2 j j1 j2
      refine TK_mono hkd (TK_of hkd hKf (wpS_pfx_RA _) (by rw [hrk.1]) (by rw [hrk.1]) hrk.2) (by omega)
  · have hal : allL c.2 wd (sN S x) = false := by simpa using hal
    rw [if_neg (show ¬ allL c.2 wd (sN S x) = true by rw [hal]; decide), if_pos (show cpB S wd m x = true by rw [hcp, hal]; rfl)]
    have hd9 : ∀ j, j ≠ k → (ftS c k bit).2 9 j = c.2 9 j := by
      intro j hj
      unfold ftS
      split
      · exact pk_un hj
      · rfl
    have hdc : ∀ i, i < 11 → i ≠ 9 → (ftS c k bit).2 i = c.2 i := by
      intro i _ hi
      unfold ftS
      split
      · exact up2_n _ hi
      · rfl
    have hf1 : (ftS c k bit).1 0 = c.1 0 ∧ (ftS c k bit).1 1 = c.1 1 ∧ (ftS c k bit).1 3 = c.1 3 + (if c.2 9 k &&& bit = 0 then 1 else 0) ∧ (ftS c k bit).1 4 = c.1 4 ∧ (ftS c k bit).1 5 = c.1 5 ∧ (ftS c k bit).2 9 k = if c.2 9 k &&& bit = 0 then c.2 9 k ||| bit else c.2 9 k := by
      unfold ftS
      by_cases h0 : c.2 9 k &&& bit = 0
      · simp only [if_pos h0]
        exact ⟨rfl, rfl, rfl, rfl, rfl, pk_us⟩
      · refine ⟨?_, ?_, ?_, ?_, ?_, ?_⟩ <;> simp only [if_neg h0, i0]
    have h1 := rem_tie (c1 := ftS c k bit) h hnz (by omega) (show k < z by omega) hf1.1 hf1.2.1 hf1.2.2.1 hf1.2.2.2.1 hf1.2.2.2.2.1 hdc hd9
    have hCf := rmC_CI (ftS_CI hCI k bit) (z := z) (k := k) (by unfold nz; rw [f2.2.2.2]; exact hnz) (by omega)
    have hMr := rmM_MI hMI (z := z) (k := k) (by rw [hnzm, hnz]) (by omega)
    rw [show nzM m - 1 = z - 1 by rw [hnzm, hnz]]
    have hfw1 : fw S wd (upd (ftS c k bit).1 10 (nI (z - 1)), rmF (ftS c k bit).2 k (z - 1)) x = none := by
      rw [fw_of (c := c) (c' := (upd (ftS c k bit).1 10 (nI (z - 1)), rmF (ftS c k bit).2 k (z - 1))) f2.1 f2.2.1]
      exact hfw
    have hfr1 : fdR (upd (ftS c k bit).1 10 (nI (z - 1)), rmF (ftS c k bit).2 k (z - 1)) x = none := by
      unfold fdR
      rw [fst1_none]
      intro j _ hj
      have hj : j < z - 1 := by
        have e : nz (upd (ftS c k bit).1 10 (nI (z - 1)), rmF (ftS c k bit).2 k (z - 1)) = z - 1 := nI_clamp (by omega)
        omega
      show (shf ((ftS c k bit).2 8) k (z - 1) j == x) = false
      rw [f2.2.2.1, beq_eq_false_iff_ne]
      intro he
      by_cases hjk : j < k
      · rw [shf_lo _ hjk, ← hk.2.2] at he
        have := h.2.1.2 j k (by omega) (by omega) he
        omega
      · rw [shf_in _ (by omega) hj, ← hk.2.2] at he
        have := h.2.1.2 (j + 1) k (by omega) (by omega) he
        omega
    have hal1 : allL (rmF (ftS c k bit).2 k (z - 1)) wd (sN S x) = false := by
      have : allL (rmF (ftS c k bit).2 k (z - 1)) wd (sN S x) = allL (ftS c k bit).2 wd (sN S x) := rfl
      rw [this, eA]
      exact hal
    have hK1 : TK S wd kd N (upd (ftS c k bit).1 10 (nI (z - 1)), rmF (ftS c k bit).2 k (z - 1)) (upd m.1 21 (nI (z - 1)), trF m.2 k (z - 1)) := by
      have hKf := TK_of hkd hK fA rfl rfl (fun _ _ _ => rfl) (m' := m)
      refine TK_of hkd hKf ⟨⟨rfl, rfl, rfl, rfl, rfl, rfl, rfl⟩, rfl, rfl, rfl⟩ rfl rfl (fun j j1 j2 => ?_)
      show up2 (up2 (up2 m.2 22 _) 23 _) 24 _ j = m.2 j
      rw [up2_n _ (by omega), up2_n _ (by omega), up2_n _ (by omega)]
    have hbt : NB ((ftS c k bit).2 9 k) := by
      rw [hf1.2.2.2.2.2, t9]
      split
      · exact (h.2.2.2.2.2.2.1.2 k).or hb
      · exact h.2.2.2.2.2.2.1.2 k
    obtain ⟨w, m1, hw, q1, q2, q3, q4, q5, q6⟩ := place_tie (t := (ftS c k bit).2 9 k) (ch := c.2 10 k) (t0 := m.2 23 k) (ch0 := m.2 24 k) hCf hMr hN h1 hK1 hfw1 hfr1 hal1 hbt
    have ht := take_way (bit := bit) (wt := wt) hkd hs hw8.2 q4 q5 q2 (q3.trans t10.symm) q6 (fun z0 => by rw [hf1.2.2.2.2.2, t9, if_pos z0, if_pos z0]; exact ⟨rfl, rfl⟩) (fun z0 => by rw [hf1.2.2.2.2.2, t9, if_neg z0, if_neg z0]; exact ⟨rfl, rfl⟩)
    refine ⟨twS m1 (8 * sN S x + w) bit wt, ?_, ht.1, ht.2, ?_⟩
    · rw [q1]
      rfl
    · have e0 : mZ m (upd m.1 21 (nI (z - 1)), trF m.2 k (z - 1)) := ⟨rfl, rfl, rfl, fun _ _ => rfl⟩
      exact e0.tr ((plM_mZ hkd q1).tr (twS_mZ m1 _ bit wt))
theorem reach_tie (hCI : CI S wd V kd c) (hMI : MI S wd V kd m) (hN : N < 2 ^ 30) (hb : NB bit) (h : zT S wd qT 0 c m) (hK : TK S wd kd N c m) : RCH S wd V kd N c m x bit wt := by
  cases hf : fw S wd c x with
  | some w => exact reach_way hMI.1 hb h hK hf
  | none =>
    cases hr : fdR c x with
    | some k => exact reach_row hCI hMI hN hb h hK hf hr
    | none => exact reach_none hCI hMI hN hb h hK hf hr
end Reach
