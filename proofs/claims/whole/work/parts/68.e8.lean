/-! PLACING TIED -/
theorem TK_of {S wd kd N : Nat} {c m c' m' : CS} (hk : kd < 10) (h : TK S wd kd N c m) (hA : RA c c') (h12 : m'.1 12 = m.1 12) (h20 : m'.1 20 = m.1 20) (hm : ∀ k, 13 ≤ k → k ≤ 19 → m'.2 k = m.2 k) : TK S wd kd N c' m' := by
  obtain ⟨⟨-, -, -, a16, a17, a18, a19⟩, b22, b23, b24⟩ := hA
  have m13 := hm 13 (by omega) (by omega)
  have m14 := hm 14 (by omega) (by omega)
  have m15 := hm 15 (by omega) (by omega)
  have m16 := hm 16 (by omega) (by omega)
  have m17 := hm 17 (by omega) (by omega)
  have m18 := hm 18 (by omega) (by omega)
  have m19 := hm 19 (by omega) (by omega)
  rcases kd_cases hk with rfl | rfl | rfl | rfl | rfl | rfl | rfl | rfl | rfl | rfl
  · show c'.1 19 = m'.1 20
    rw [a19, h20]
    exact h
  · show TI S wd (c'.2 22) (m'.2 16) ∧ ∀ s, s < S → c'.2 23 s = m'.2 18 s
    rw [b22, b23, m16, m18]
    exact h
  · show ∀ s n, s < S → 1 ≤ n → n < 8 → bitN (c'.2 22 s) n = tb (m'.2 19 (8 * s + n))
    rw [b22, m19]
    exact h
  · show TI S wd (c'.2 22) (m'.2 16)
    rw [b22, m16]
    exact h
  · show TI S wd (c'.2 22) (m'.2 17) ∧ ∀ s w, s < S → w < wd → ∃ a, a ≤ 3 ∧ m'.2 17 (8 * s + w) = nI a
    rw [b22, m17]
    exact h
  iterate 4
    · show c'.1 16 = nI _ ∧ c'.1 17 = m'.1 12 ∧ TI S wd (c'.2 22) (m'.2 13) ∧ TI S wd (c'.2 23) (m'.2 14) ∧ TI S wd (c'.2 24) (m'.2 15)
      rw [a16, a17, h12, b22, b23, b24, m13, m14, m15]
      exact h
  · show T9 S wd N c' m'
    unfold T9
    rw [a16, a17, a18, h12, b22, m13]
    exact h
/-- history and counts of the kinds are left alone -/
def mZ (m m' : CS) : Prop := m'.1 31 = m.1 31 ∧ m'.2 32 = m.2 32 ∧ m'.2 33 = m.2 33 ∧ ∀ k, k < 6 → m'.2 34 k = m.2 34 k
theorem mZ.rf (m : CS) : mZ m m := ⟨rfl, rfl, rfl, fun _ _ => rfl⟩
theorem mZ.tr {m m1 m2 : CS} (h : mZ m m1) (h' : mZ m1 m2) : mZ m m2 := ⟨h'.1.trans h.1, h'.2.1.trans h.2.1, h'.2.2.1.trans h.2.2.1, fun k hk => (h'.2.2.2 k hk).trans (h.2.2.2 k hk)⟩
theorem mZ.up {m m' : CS} (h1 : m'.1 31 = m.1 31) (h2 : m'.2 32 = m.2 32) (h3 : m'.2 33 = m.2 33) (h4 : m'.2 34 = m.2 34) : mZ m m' := ⟨h1, h2, h3, fun k _ => by rw [h4]⟩
theorem cnt_mZ (m : CS) {j : Nat} (hj : 6 ≤ j) (y : Int32) : mZ m (cnt m j y) := ⟨rfl, rfl, rfl, fun k hk => pk_un (by omega)⟩
theorem twS_mZ (m : CS) (r : Nat) (bit wt : Int32) : mZ m (twS m r bit wt) := by
  have h1 : mZ m (tw1 m r bit) := by
    unfold tw1
    split
    · exact ⟨rfl, rfl, rfl, fun k hk => pk_un (by omega)⟩
    · exact mZ.rf m
  unfold twS
  split
  · exact h1
  · split
    · exact h1.tr ⟨rfl, rfl, rfl, fun _ _ => rfl⟩
    · exact h1.tr ⟨rfl, rfl, rfl, fun k hk => pk_un (by omega)⟩
theorem rr2_mZ (m : CS) (r : Nat) (bit wt : Int32) : mZ m (rr2 m r bit wt) := by
  have h1 : mZ m (rr1 m r bit) := by
    unfold rr1
    split
    · exact ⟨rfl, rfl, rfl, fun k hk => pk_un (by omega)⟩
    · exact mZ.rf m
  unfold rr2
  split
  · exact h1
  · split
    · exact h1.tr ⟨rfl, rfl, rfl, fun _ _ => rfl⟩
    · exact h1.tr (cnt_mZ _ (by omega) _)
theorem crS_mZ (V : Nat) (m : CS) (x t ch : Int32) : mZ m (crS V m x t ch) := by
  unfold crS
  split
  · exact ⟨rfl, rfl, rfl, fun _ _ => rfl⟩
  · exact ⟨rfl, rfl, rfl, fun k hk => pk_un (by omega)⟩
theorem pl2_mZ (wd kd : Nat) (m : CS) (s r : Nat) (x t ch : Int32) : mZ m (pl2 wd kd m s r x t ch) := by
  have h := pl2_kp wd kd m s r x t ch
  exact mZ.up (h.1 31 (by omega)) (h.2 32 (by omega)) (h.2 33 (by omega)) (h.2 34 (by omega))
theorem plM_mZ {S wd V kd : Nat} {m m' : CS} (hk : kd < 10) {x t ch : Int32} {r : Nat} (hp : plM S wd V kd m x t ch = some (m', r)) : mZ m m' := by
  unfold plM at hp
  split at hp
  · cases hp
    exact pl2_mZ _ _ _ _ _ _ _ _
  · obtain ⟨q, hq1, hq2⟩ := Option.map_eq_some_iff.mp hp
    cases hq2
    obtain ⟨m1, r1⟩ := q
    have h := pkS_kp hk hq1
    refine (mZ.up (h.1 31 (by omega)) (h.2 32 (by omega) (by omega) (by omega) (by omega)) (h.2 33 (by omega) (by omega) (by omega) (by omega)) (h.2 34 (by omega) (by omega) (by omega) (by omega))).tr ?_
    refine mZ.tr ?_ (pl2_mZ _ _ _ _ _ _ _ _)
    have h8 : mZ m1 (c8S m1) := ⟨rfl, rfl, rfl, fun k hk => pk_un (by omega)⟩
    exact h8.tr (crS_mZ _ _ _ _ _)
section Place
variable {S wd V kd N : Nat} {y : Int32} {c m : CS}
theorem stM_kp {m m' : CS} (h : ∀ k, (k < 13 ∨ 21 < k ∧ k < 25) → m'.2 k = m.2 k) (r : Nat) (t ch : Int32) : ∀ k, (k < 13 ∨ 21 < k ∧ k < 25) → (stM m' r t ch).2 k = (stM m r t ch).2 k := by
  intro k k1
  show up2 (up2 m'.2 9 (upd (m'.2 9) r t)) 10 (upd (m'.2 10) r ch) k = up2 (up2 m.2 9 (upd (m.2 9) r t)) 10 (upd (m.2 10) r ch) k
  rw [h 9 (by omega), h 10 (by omega)]
  unfold up2
  split
  · rfl
  · split
    · rfl
    · exact h k k1
theorem allL_f {f : Nat → Nat → Int32} {s : Nat} (h : allL f wd s = false) : ∃ w, w < wd ∧ f 6 (s * wd + w) = 0 := by
  unfold allL at h
  cases hq : fst1 (fun w => f 6 (s * wd + w) == 0) 0 wd with
  | none => rw [hq] at h; cases h
  | some w =>
    have := fst1_some hq
    simp only [beq_iff_eq] at this
    exact ⟨w, by omega, this.2.2⟩
theorem come_tie {s w : Nat} {x t ch t0 ch0 : Int32} (hM : MD m.1 S wd V kd) (hN : N < 2 ^ 30) (hx : sN S x = s) (hs : s < S) (hw : w < wd) (h : zT S wd (qN s w) y c m) (hK : TK S wd kd N c m) (hnw : ∀ w', w' < wd → w' ≠ w → c.2 3 (s * wd + w') ≠ 0 → c.2 2 (s * wd + w') ≠ x) (hnr : ∀ k, k < nz c → c.2 8 k ≠ x) (ht : NB t) :
    zT S wd qT y (rCome wd kd (c.1, putF c.2 (s * wd + w) x t ch) s w) (stM (pl2 wd kd m s (8 * s + w) x t0 ch0) (8 * s + w) t ch) ∧ TK S wd kd (N + 1) (rCome wd kd (c.1, putF c.2 (s * wd + w) x t ch) s w) (pl2 wd kd m s (8 * s + w) x t0 ch0) ∧ (pl2 wd kd m s (8 * s + w) x t0 ch0).2 9 (8 * s + w) = t0 ∧ (pl2 wd kd m s (8 * s + w) x t0 ch0).2 10 (8 * s + w) = ch0 ∧ fw S wd (rCome wd kd (c.1, putF c.2 (s * wd + w) x t ch) s w) x = some w := by
  have hw8 := hM.w8
  have hk := hM.2.2.2.2.2.2.2
  have e : pl2 wd kd m s (8 * s + w) x t0 ch0 = tcS wd kd (m.1, puM m.2 (8 * s + w) x t0 ch0) s w := by
    unfold pl2
    rw [Nat.add_sub_cancel_left]
  rw [e]
  have hro := rCome_RO wd kd (c.1, putF c.2 (s * wd + w) x t ch) s w
  have hkp := tcS_kp wd kd (m.1, puM m.2 (8 * s + w) x t0 ch0) s w
  have h1 := put_tie (ch := ch) (t0 := t0) (ch0 := ch0) hx hs hw hw8.2 h hnw hnr ht
  have hz : zT S wd qT y (rCome wd kd (c.1, putF c.2 (s * wd + w) x t ch) s w) (stM (tcS wd kd (m.1, puM m.2 (8 * s + w) x t0 ch0) s w) (8 * s + w) t ch) :=
    h1.of (fun k hk _ => hro.1 k (by omega)) (fun k hk => hro.2 k (by omega)) (hkp.1 5 (by omega)) (hkp.1 6 (by omega)) (hkp.1 21 (by omega)) (stM_kp (fun k k1 => hkp.2 k (by omega)) _ _ _) (fun k _ _ => congrFun (hkp.2 34 (by omega)) k)
  refine ⟨hz, ?_, ?_, ?_, ?_⟩
  · refine TK_come hk hN ?_ hw8.2 hs hw
    refine TK_of hk hK (putF_RA c _ x t ch) rfl rfl (fun k k1 k2 => ?_)
    · show puM m.2 (8 * s + w) x t0 ch0 k = m.2 k
      simp only [puM, up2_n _ (show k ≠ 7 by omega), up2_n _ (show k ≠ 8 by omega), up2_n _ (show k ≠ 9 by omega), up2_n _ (show k ≠ 10 by omega)]
  · rw [hkp.2 9 (by omega)]
    exact pk_us
  · rw [hkp.2 10 (by omega)]
    exact pk_us
  · subst hx
    refine fw_is hz.2.1 hs hw ?_ ?_
    · rw [hro.2 3 (by omega)]
      show upd (c.2 3) _ 1 _ ≠ 0
      rw [pk_us]
      decide
    · rw [hro.2 2 (by omega)]
      exact pk_us
theorem place_tie {x t ch t0 ch0 : Int32} (hCI : CI S wd V kd c) (hMI : MI S wd V kd m) (hN : N < 2 ^ 30) (h : zT S wd qT y c m) (hK : TK S wd kd N c m) (hfw : fw S wd c x = none) (hfr : fdR c x = none) (hfree : allL c.2 wd (sN S x) = false) (ht : NB t) :
    ∃ w m', w < wd ∧ plM S wd V kd m x t0 ch0 = some (m', 8 * sN S x + w) ∧ m'.2 9 (8 * sN S x + w) = t0 ∧ m'.2 10 (8 * sN S x + w) = ch0 ∧ zT S wd qT y (plS S wd V kd c x t ch) (stM m' (8 * sN S x + w) t ch) ∧ TK S wd kd (N + 1) (plS S wd V kd c x t ch) m' ∧ fw S wd (plS S wd V kd c x t ch) x = some w := by
  have hM := hMI.1
  have hs := hM.lt x
  have hk := hM.2.2.2.2.2.2.2
  have hnr : ∀ k, k < nz c → c.2 8 k ≠ x := by
    intro k hk he
    have := fst1_none.mp hfr k (by omega) (by omega)
    simp [he] at this
  cases hE : fst1 (fun w => c.2 3 (sN S x * wd + w) == 0) 0 wd with
  | some w =>
    have hw := fst1_some hE
    have e1 := em_w h hs
    rw [hE] at e1
    obtain ⟨a1, a2, a3, a4, a5⟩ := come_tie (ch := ch) (t0 := t0) (ch0 := ch0) hM hN rfl hs (show w < wd by omega) (h.weak _) hK (fun w' hw' _ hn => fw_none hfw hw' hn) hnr ht
    have eS : plS S wd V kd c x t ch = rCome wd kd (c.1, putF c.2 (sN S x * wd + w) x t ch) (sN S x) w := by
      unfold plS
      rw [hE]
    rw [eS]
    refine ⟨w, pl2 wd kd m (sN S x) (8 * sN S x + w) x t0 ch0, by omega, ?_, a3, a4, a1, a2, a5⟩
    unfold plM
    rw [e1]
    rfl
  | none =>
    have e1 := em_w h hs
    rw [hE] at e1
    obtain ⟨w, m1, hw, q1, q2, q3, -⟩ := TK_pick hM hMI.2.1 hs hN hK (fun w hw => h.2.2.1 (sN S x) w hs hw) (allL_f hfree) true
    have q3 := q3 rfl
    have hn0 : c.2 3 (sN S x * wd + w) ≠ 0 := by
      have := fst1_none.mp hE w (by omega) (by omega)
      simpa using this
    have hro := rSettle_RO wd kd c (sN S x) w
    have hkp := pkS_kp hk q2
    have h1 : zT S wd qT y (rSettle wd kd c (sN S x) w) m1 := h.of (fun k hk _ => hro.1 k (by omega)) (fun k hk => hro.2 k (by omega)) (hkp.1 5 (by omega)) (hkp.1 6 (by omega)) (hkp.1 21 (by omega)) (fun k k1 => hkp.2 k (by omega) (by omega) (by omega) (by omega)) (fun k _ _ => congrFun (hkp.2 34 (by omega) (by omega) (by omega) (by omega)) k)
    have hC1 := rSettle_CI hCI (sN S x) w
    obtain ⟨z, hz⟩ := hC1.2.1
    have hM1 : MD m1.1 S wd V kd := hM.of (hkp.1 1 (by omega)) (hkp.1 2 (by omega)) (hkp.1 3 (by omega)) (hkp.1 4 (by omega))
    have hnz : nz (rSettle wd kd c (sN S x) w) = nz c := by unfold nz; rw [hro.1 10 (by omega)]
    have e2 := hro.2 2 (by omega)
    have e3 := hro.2 3 (by omega)
    have e8 := hro.2 8 (by omega)
    have hn1 : (rSettle wd kd c (sN S x) w).2 3 (sN S x * wd + w) ≠ 0 := by rw [e3]; exact hn0
    have h2 := out_tie hz h1 hs hw hn1
    have hrw := po_rows hz (sN S x * wd + w)
    have hRA := poS_RA V (rSettle wd kd c (sN S x) w) (sN S x * wd + w)
    rw [e2, e8, hnz] at hrw
    have p23 : (poS V (rSettle wd kd c (sN S x) w) (sN S x * wd + w)).2 2 = c.2 2 ∧ (poS V (rSettle wd kd c (sN S x) w) (sN S x * wd + w)).2 3 = c.2 3 := by
      rw [← e2, ← e3]
      unfold poS
      split
      · exact ⟨rfl, rfl⟩
      · split <;> exact ⟨rfl, rfl⟩
    have hK2 : TK S wd kd N (poS V (rSettle wd kd c (sN S x) w) (sN S x * wd + w)) (pl1 V m1 (8 * sN S x + w)) := by
      have hcr := crS_kp V (c8S m1) (m1.2 8 (8 * sN S x + w)) (m1.2 9 (8 * sN S x + w)) (m1.2 10 (8 * sN S x + w))
      refine TK_of hk q3 hRA (hcr.1 12 (by omega)) (hcr.1 20 (by omega)) (fun k k1 k2 => ?_)
      rw [show pl1 V m1 (8 * sN S x + w) = crS V (c8S m1) (m1.2 8 (8 * sN S x + w)) (m1.2 9 (8 * sN S x + w)) (m1.2 10 (8 * sN S x + w)) from rfl, hcr.2 k (by omega) (by omega)]
      show up2 m1.2 34 _ k = _
      exact up2_n _ (by omega)
    have hM2 : MD (pl1 V m1 (8 * sN S x + w)).1 S wd V kd := by
      have hcr := crS_kp V (c8S m1) (m1.2 8 (8 * sN S x + w)) (m1.2 9 (8 * sN S x + w)) (m1.2 10 (8 * sN S x + w))
      exact hM1.of (hcr.1 1 (by omega)) (hcr.1 2 (by omega)) (hcr.1 3 (by omega)) (hcr.1 4 (by omega))
    obtain ⟨a1, a2, a3, a4, a5⟩ := come_tie (ch := ch) (t0 := t0) (ch0 := ch0) hM2 hN rfl hs hw h2 hK2 (fun w' hw' _ hn => by rw [p23.2] at hn; rw [p23.1]; exact fw_none hfw hw' hn) (by
      intro k hk2 he
      rcases hrw k hk2 with e | ⟨i, i1, i2⟩
      · rw [e] at he
        exact fw_none hfw hw hn0 he
      · rw [i2] at he
        exact hnr i i1 he) ht
    have eS : plS S wd V kd c x t ch = rCome wd kd ((poS V (rSettle wd kd c (sN S x) w) (sN S x * wd + w)).1, putF (poS V (rSettle wd kd c (sN S x) w) (sN S x * wd + w)).2 (sN S x * wd + w) x t ch) (sN S x) w := by
      unfold plS
      rw [hE, q1]
    rw [eS]
    refine ⟨w, pl2 wd kd (pl1 V m1 (8 * sN S x + w)) (sN S x) (8 * sN S x + w) x t0 ch0, hw, ?_, a3, a4, a1, a2, a5⟩
    unfold plM
    rw [e1, q2]
    rfl
end Place
