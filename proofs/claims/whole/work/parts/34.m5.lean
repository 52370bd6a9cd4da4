/-! THE REFERENCE: what its steps keep; accessOf, access -/
theorem MR_of {wd kd : Nat} {m m' : CS} (hk : kd < 10) (hM : MR wd kd m) (h20 : m'.1 20 = m.1 20) (h16 : BL (m.2 16) → BL (m'.2 16)) (h18 : m'.2 18 = m.2 18) (h35 : m'.2 35 = m.2 35) : MR wd kd m' := by
  rcases kd_cases hk with rfl | rfl | rfl | rfl | rfl | rfl | rfl | rfl | rfl | rfl
  · show ∃ x, x < 2 ^ 31 ∧ m'.1 20 = nI x
    rw [h20]
    exact hM
  · show (∀ s, s < 16 → ∃ h0, h0 < wd ∧ m'.2 18 s = nI h0) ∧ BL (m'.2 16) ∧ BL (m'.2 35)
    rw [h18, h35]
    exact ⟨hM.1, h16 hM.2.1, hM.2.2⟩
  all_goals trivial
theorem ltM_BL {g : Nat → Int32} (h : BL g) (b0 wd w : Nat) : BL (ltM g b0 wd w) := by
  have h1 : BL (upd g (b0 + w) 1) := h.up _ (Or.inr rfl)
  unfold ltM
  split
  · exact h1
  · intro j
    unfold onl
    split
    · split
      · exact Or.inr rfl
      · exact Or.inl rfl
    · exact h1 j
theorem tcS_MI {S wd V kd : Nat} {m : CS} (h : MI S wd V kd m) (s w : Nat) : MI S wd V kd (tcS wd kd m s w) := by
  obtain ⟨hD, hM, hz, hh, h10, h24⟩ := h
  refine ⟨hD, MR_of hD.2.2.2.2.2.2.2 hM rfl (fun hb => ?_) rfl rfl, hz, hh, h10, h24⟩
  show BL (if kd = 7 then _ else _)
  split
  · exact ltM_BL hb _ _ _
  · exact hb.up _ (Or.inl rfl)
theorem tuS_MI {S wd V kd : Nat} {m : CS} (h : MI S wd V kd m) (s w : Nat) : MI S wd V kd (tuS wd kd m s w) := by
  obtain ⟨hD, hM, hz, hh, h10, h24⟩ := h
  refine ⟨hD, MR_of hD.2.2.2.2.2.2.2 hM rfl (fun hb => ?_) rfl rfl, hz, hh, h10, h24⟩
  show BL (if kd = 7 then _ else _)
  split
  · exact ltM_BL hb _ _ _
  · exact hb.up _ (Or.inr rfl)
theorem cnt_MI {S wd V kd : Nat} {m : CS} (h : MI S wd V kd m) (k : Nat) (y : Int32) : MI S wd V kd (cnt m k y) := h.up rfl (fun j hj => up2_n _ (by omega))
theorem tw1_MI {S wd V kd : Nat} {m : CS} (h : MI S wd V kd m) (r : Nat) (bit : Int32) : MI S wd V kd (tw1 m r bit) := by
  unfold tw1
  split
  · exact h.up rfl (fun j hj => by dsimp only; rw [up2_n _ (by omega), up2_n _ (by omega)])
  · exact h
theorem twS_MI {S wd V kd : Nat} {m : CS} (h : MI S wd V kd m) (r : Nat) {bit : Int32} (hb : NB bit) (wt : Int32) : MI S wd V kd (twS m r bit wt) := by
  have h1 := tw1_MI h r bit
  unfold twS
  split
  · exact h1
  · split
    · obtain ⟨hD, hM, hz, hh, h10, h24⟩ := h1
      exact ⟨hD, MR_of hD.2.2.2.2.2.2.2 hM rfl id rfl rfl, hz, hh, NB.up h10 _ ((h10 _).or hb), h24⟩
    · exact h1.up rfl (fun j hj => up2_n _ (by omega))
theorem puM_MI {S wd V kd : Nat} {m : CS} (h : MI S wd V kd m) (r : Nat) (x t : Int32) {ch : Int32} (hc : NB ch) : MI S wd V kd (m.1, puM m.2 r x t ch) := by
  obtain ⟨hD, hM, hz, hh, h10, h24⟩ := h
  exact ⟨hD, MR_of hD.2.2.2.2.2.2.2 hM rfl id rfl rfl, hz, hh, NB.up h10 _ hc, h24⟩
theorem crS_MI {S wd V kd : Nat} {m : CS} (h : MI S wd V kd m) (x t : Int32) {ch : Int32} (hc : NB ch) : MI S wd V kd (crS V m x t ch) := by
  obtain ⟨hD, hM, ⟨z, hzV, hz⟩, hh, h10, h24⟩ := h
  have hV := hD.2.2.2.2.2.2.1
  have hze := nzM_eq hz (by omega)
  unfold crS
  rw [hze]
  split
  · exact ⟨hD, MR_of hD.2.2.2.2.2.2.2 hM rfl id rfl rfl, ⟨z + 1, by omega, rfl⟩, hh, h10, NB.up h24 _ hc⟩
  · exact ⟨hD, MR_of hD.2.2.2.2.2.2.2 hM rfl id rfl rfl, ⟨z, hzV, rfl⟩, hh, h10, NB.sh (NB.up h24 _ hc) _ _⟩
theorem cbM_BL {g o : Nat → Int32} (hg : BL g) (ho : BL o) (b0 k : Nat) : BL (cbM g b0 o k) := by
  intro j
  unfold cbM
  split
  · exact hg _
  · exact ho _
theorem pkS_MI {S wd V kd : Nat} {m m' : CS} (h : MI S wd V kd m) {s r : Nat} (hs : s < 16) {mv : Bool} (hp : pkS wd kd m s mv = some (m', r)) : MI S wd V kd m' := by
  obtain ⟨hD, hM, ⟨z, hzV, hz⟩, ⟨hs2, hh64, hh⟩, h10, h24⟩ := id h
  have hk := hD.2.2.2.2.2.2.2
  have hw8 := hD.w8
  obtain ⟨kv, kf⟩ := pkS_kp hk hp
  refine ⟨hD.of (kv 1 (by omega)) (kv 2 (by omega)) (kv 3 (by omega)) (kv 4 (by omega)), ?_, ⟨z, hzV, (kv 21 (by omega)).trans hz⟩, ⟨hs2, hh64, (kv 31 (by omega)).trans hh⟩, by rw [kf 10 (by omega) (by omega) (by omega) (by omega)]; exact h10, by rw [kf 24 (by omega) (by omega) (by omega) (by omega)]; exact h24⟩
  rcases kd_cases hk with rfl | rfl | rfl | rfl | rfl | rfl | rfl | rfl | rfl | rfl
  · simp only [pkS] at hp
    split at hp
    · cases hp
    · obtain ⟨w, hw, e⟩ := Option.map_eq_some_iff.mp hp
      cases e
      cases mv with
      | false => exact hM
      | true => exact ⟨((1103515245 * m.1 20 + 12345 : Int32).toBitVec.toNat) % 2 ^ 31, Nat.mod_lt _ (by decide), pk_and _ 31 (by decide)⟩
  · obtain ⟨q, hq, e⟩ := Option.map_eq_some_iff.mp hp
    cases e
    obtain ⟨hh0, hB, hB2⟩ := hM
    obtain ⟨h0, hlt, e0⟩ := hh0 s hs
    rw [e0, nI_clamp (show h0 < 2 ^ 31 by omega)] at hq
    have hb := hndO_BL hw8.1 (cpM_BL hB hB2 _ _) hlt hq
    cases mv with
    | false => exact ⟨hh0, hB, hb.1⟩
    | true =>
      refine ⟨fun s2 hs2 => ?_, cbM_BL hb.1 hB _ _, hb.1⟩
      show ∃ h0, h0 < wd ∧ upd (m.2 18) s (nI ((q.2 + 1) % wd)) s2 = nI h0
      by_cases hj : s2 = s
      · subst hj
        exact ⟨(q.2 + 1) % wd, Nat.mod_lt _ (by omega), pk_us⟩
      · rw [pk_un hj]
        exact hh0 s2 hs2
  all_goals trivial
theorem plM_MI {S wd V kd : Nat} {m m' : CS} (h : MI S wd V kd m) (x t : Int32) {ch : Int32} (hc : NB ch) {r : Nat} (hp : plM S wd V kd m x t ch = some (m', r)) : MI S wd V kd m' := by
  have hD := h.1
  have hs := hD.lt x
  have hS := hD.S16
  unfold plM at hp
  split at hp
  · cases hp
    exact tcS_MI (puM_MI h _ _ _ hc) _ _
  · obtain ⟨⟨m1, q⟩, hq, e⟩ := Option.map_eq_some_iff.mp hp
    cases e
    have h1 := pkS_MI h (by omega) hq
    have h2 : MI S wd V kd (c8S m1) := h1.up rfl (fun j hj => up2_n _ (by omega))
    exact tcS_MI (puM_MI (crS_MI h2 _ _ (h1.2.2.2.2.1 _)) _ _ _ hc) _ _
theorem rr2_MI {S wd V kd : Nat} {m : CS} (h : MI S wd V kd m) (r : Nat) {bit : Int32} (hb : NB bit) (wt : Int32) : MI S wd V kd (rr2 m r bit wt) := by
  have h1 : MI S wd V kd (rr1 m r bit) := by
    unfold rr1
    split
    · exact h.up rfl (fun j hj => by dsimp only; rw [up2_n _ (by omega), up2_n _ (by omega)])
    · exact h
  unfold rr2
  split
  · exact h1
  · split
    · obtain ⟨hD, hM, hz, hh, h10, h24⟩ := h1
      exact ⟨hD, MR_of hD.2.2.2.2.2.2.2 hM rfl id rfl rfl, hz, hh, h10, NB.up h24 _ ((h24 _).or hb)⟩
    · exact cnt_MI h1 _ _
theorem rrM_MI {S wd V kd : Nat} {m m' : CS} (h : MI S wd V kd m) (x : Int32) {r : Nat} (hr : r < nzM m) {bit : Int32} (hb : NB bit) (wt : Int32) {q : Int32} (hp : rrM S wd V kd m x r bit wt = some (m', q)) : MI S wd V kd m' := by
  unfold rrM at hp
  split at hp
  · obtain ⟨⟨m2, r2⟩, hq, e⟩ := Option.map_eq_some_iff.mp hp
    cases e
    obtain ⟨hD, hM, ⟨z, hzV, hz⟩, hh, h10, h24⟩ := id h
    have hV := hD.2.2.2.2.2.2.1
    have hze := nzM_eq hz (by omega)
    rw [hze] at hq hr
    refine twS_MI (plM_MI ?_ _ _ (h24 r) hq) _ hb _
    exact ⟨hD, MR_of hD.2.2.2.2.2.2.2 hM rfl id rfl rfl, ⟨z - 1, by omega, rfl⟩, hh, h10, NB.sh h24 _ _⟩
  · cases hp
    exact rr2_MI h r hb wt
theorem rhM_MI {S wd V kd : Nat} {m m' : CS} (h : MI S wd V kd m) (x : Int32) {bit : Int32} (hb : NB bit) (wt : Int32) {q : Int32} (hp : rhM S wd V kd m x bit wt = some (m', q)) : MI S wd V kd m' ∧ ∃ k, k < 5 ∧ q = nI k := by
  have h1 := rh1_MI h x
  obtain ⟨kv, kf⟩ := rh1_kp m x
  unfold rhM at hp
  split at hp
  · cases hp
    refine ⟨tuS_MI (twS_MI h1 _ hb _) _ _, ?_⟩
    split
    · exact ⟨1, by omega, rfl⟩
    · exact ⟨0, by omega, rfl⟩
  · split at hp
    · rename_i r hr
      refine ⟨rrM_MI h1 x ?_ hb wt hp, ?_⟩
      · have := lstG_lt (N := nzM m) (by omega) (fun j hj => by cases hj) hr
        unfold nzM at this ⊢
        rw [kv 21 (by omega)]
        exact this
      · unfold rrM at hp
        split at hp
        · obtain ⟨w, hw, e⟩ := Option.map_eq_some_iff.mp hp
          cases e
          exact ⟨2, by omega, rfl⟩
        · cases hp
          exact ⟨2, by omega, rfl⟩
    · split at hp
      · cases hp
        exact ⟨cnt_MI h1 _ _, 3, by omega, rfl⟩
      · split at hp
        · obtain ⟨⟨m2, r2⟩, hq, e⟩ := Option.map_eq_some_iff.mp hp
          cases e
          exact ⟨twS_MI (plM_MI h1 _ _ NB.z hq) _ hb _, 3, by omega, rfl⟩
        · cases hp
          exact ⟨cnt_MI (cnt_MI h1 _ _) _ _, 4, by omega, rfl⟩
/-- an access, counted by its kind -/
def aoM (S wd V kd : Nat) (m : CS) (x : Int32) (p : Nat) (wt : Int32) : Option (CS × Int32) := (rhM S wd V kd m x (bitI p) wt).map (fun q => (cnt q.1 (1 + q.2.toNatClampNeg) 1, q.2))
theorem aoM_MI {S wd V kd : Nat} {m m' : CS} (h : MI S wd V kd m) (x : Int32) {p : Nat} (hp4 : p < 4) (wt : Int32) {q : Int32} (hp : aoM S wd V kd m x p wt = some (m', q)) : MI S wd V kd m' ∧ ∃ k, k < 5 ∧ q = nI k := by
  obtain ⟨⟨m2, r2⟩, hq, e⟩ := Option.map_eq_some_iff.mp hp
  cases e
  have := rhM_MI h x (bitI_NB hp4) wt hq
  exact ⟨cnt_MI this.1 _ _, this.2⟩
section M5
variable {l : Launch} {G : EG} {a : Nat → Nat} {m : CS} {S wd V kd s w z : Nat} {ws : va_W}
set_option maxRecDepth 100000 in
theorem k_M_accessOf (h : MI S wd V kd m) (x : Int32) {p : Nat} (hp4 : p < 4) (wt : Int32) {m' : CS} {q : Int32} (hp : aoM S wd V kd m x p wt = some (m', q)) : Con l G y_M_accessOf c_M_accessOf 5 (some .int) (rz 6 144) [.ref (a 40), .int x, .int (nI p), .int wt] (mF G a m.1 m.2) (DI q (mF G a m'.1 m'.2)) := by
  refine Con.of rfl rfl (fun X C E hR hl hnm => ?_)
  obtain ⟨⟨m2, r2⟩, hq, e⟩ := Option.map_eq_some_iff.mp hp
  cases e
  obtain ⟨-, k, hk, ek⟩ := rhM_MI h x (bitI_NB hp4) wt hq
  dsimp only at E ek
  subst ek
  rw [nI_clamp (show k < 2 ^ 31 by omega)] at E
  refine e_aload_n C d_M_accessOf_0 rfl ?_
  refine e_iload_n C d_M_accessOf_1 rfl ?_
  refine e_iload_n C d_M_accessOf_2 rfl ?_
  refine e_iload_n C d_M_accessOf_3 rfl ?_
  refine e_cVi C hR 0 (k_M_reach h x hp4 wt hq) g875 g14 g872 g874 (gt_sel 12 (by decide +kernel) (by decide +kernel)) d_M_accessOf_4 rfl ey_M_reach rfl rfl rfl rfl ⟨Nat.zero_le _, Nat.zero_le _⟩ ?_
  refine e_istore C d_M_accessOf_7 rfl ?_
  refine e_aload_n C d_M_accessOf_9 rfl ?_
  refine e_get C 0 (k := 34) in_M g778 d_M_accessOf_10 rfl rfl rfl rfl ?_
  refine e_iconst C d_M_accessOf_13 (v := nI 1) (by decide) ?_
  refine e_iload C d_M_accessOf_14 rfl ?_
  refine e_iadd C d_M_accessOf_16 ?_
  refine e_top (nI_add _ _) ?_
  refine e_dup2 C d_M_accessOf_17 rfl rfl ?_
  refine e_iald C 22 0 d_M_accessOf_18 rfl rfl (1 + k) rfl (by omega) (by omega) ?_
  refine e_iconst C d_M_accessOf_19 (v := 1) (by decide) ?_
  refine e_iadd C d_M_accessOf_20 ?_
  refine e_iast C 22 0 d_M_accessOf_21 rfl rfl (1 + k) rfl (by omega) (by omega) ?_
  refine e_iload C d_M_accessOf_22 rfl ?_
  exact e_iret C E d_M_accessOf_24 (Nat.le_refl _) (Nat.le_refl _) rfl ⟨rfl, rfl⟩
def th0 (m : CS) : CS := (upd m.1 0 0, m.2)
theorem th0_MI (h : MI S wd V kd m) : MI S wd V kd (th0 m) := by
  obtain ⟨hD, hM, hz, hh, h10, h24⟩ := h
  exact ⟨hD, MR_of hD.2.2.2.2.2.2.2 hM rfl id rfl rfl, hz, hh, h10, h24⟩
theorem k_M_access (h : MI S wd V kd m) (x : Int32) {p : Nat} (hp4 : p < 4) (wt : Int32) {m' : CS} {q : Int32} (hp : aoM S wd V kd (th0 m) x p wt = some (m', q)) : Con l G y_M_access c_M_access 4 (some .int) (rz 7 168) [.ref (a 40), .int x, .int (nI p), .int wt] (mF G a m.1 m.2) (DI q (mF G a m'.1 m'.2)) := by
  refine Con.of rfl rfl (fun X C E hR hl hnm => ?_)
  refine e_aload_n C d_M_access_0 rfl ?_
  refine e_iconst C d_M_access_1 (v := 0) (by decide) ?_
  refine e_put C 0 (k := 0) in_M tk_M nm_M g744 d_M_access_2 rfl rfl rfl rfl rfl rfl rfl rfl ?_
  refine e_eq (ws' := mF G a (th0 m).1 (th0 m).2) rfl ?_
  refine e_iload_n C d_M_access_5 rfl ?_
  refine e_iconst C d_M_access_6 (v := 0) (by decide) ?_
  refine e_iconst C d_M_access_7 (v := nI 3) (by decide) ?_
  refine e_cSi C hR (k_M_within _ _ _) g867 g14 g865 g866 d_M_access_8 rfl ey_M_within rfl rfl ⟨Nat.zero_le _, Nat.zero_le _⟩ ?_
  refine e_if_eq C d_M_access_11 (tgt := 24) (by decide) (fun h11 => ?_) (fun h11 => ?_)
  · rw [bI_0] at h11
    simp only [Bool.and_eq_false_iff, Bool.not_eq_false', decide_eq_true_eq] at h11
    rcases h11 with h | h
    · exact absurd h (nI_pos (by omega))
    · rw [nI_ltI (by omega) (by omega)] at h
      omega
  · skip
    refine e_aload_n C d_M_access_14 rfl ?_
    refine e_iload_n C d_M_access_15 rfl ?_
    refine e_iload_n C d_M_access_16 rfl ?_
    refine e_iload_n C d_M_access_17 rfl ?_
    refine e_cVi C hR 0 (k_M_accessOf (th0_MI h) x hp4 wt hp) g871 g14 g868 g870 (gt_sel 11 (by decide +kernel) (by decide +kernel)) d_M_access_18 rfl ey_M_accessOf rfl rfl rfl rfl ⟨Nat.zero_le _, Nat.zero_le _⟩ ?_
    refine e_goto C d_M_access_21 (tgt := 29) (by decide) ?_
    exact e_iret C E d_M_access_29 (Nat.le_refl _) (Nat.le_refl _) rfl ⟨rfl, rfl⟩
theorem k_M_access1 (x wt : Int32) {p : Int32} (hp : p < 0 ∨ ¬ p < 4) : Con l G y_M_access c_M_access 4 (some .int) (rz 7 168) [.ref (a 40), .int x, .int p, .int wt] (mF G a m.1 m.2) (DI 0 (mF G a (upd (th0 m).1 0 1) m.2)) := by
  refine Con.of rfl rfl (fun X C E hR hl hnm => ?_)
  refine e_aload_n C d_M_access_0 rfl ?_
  refine e_iconst C d_M_access_1 (v := 0) (by decide) ?_
  refine e_put C 0 (k := 0) in_M tk_M nm_M g744 d_M_access_2 rfl rfl rfl rfl rfl rfl rfl rfl ?_
  refine e_eq (ws' := mF G a (th0 m).1 (th0 m).2) rfl ?_
  refine e_iload_n C d_M_access_5 rfl ?_
  refine e_iconst C d_M_access_6 (v := 0) (by decide) ?_
  refine e_iconst C d_M_access_7 (v := 3) (by decide) ?_
  refine e_cSi C hR (k_M_within _ _ _) g867 g14 g865 g866 d_M_access_8 rfl ey_M_within rfl rfl ⟨Nat.zero_le _, Nat.zero_le _⟩ ?_
  refine e_if_eq C d_M_access_11 (tgt := 24) (by decide) (fun h11 => ?_) (fun h11 => ?_)
  · skip
    refine e_aload_n C d_M_access_24 rfl ?_
    refine e_iconst C d_M_access_25 (v := 1) (by decide) ?_
    refine e_cVi C hR 0 (k_M_fail 1) g985 g14 g982 g984 (gt_sel 38 (by decide +kernel) (by decide +kernel)) d_M_access_26 rfl ey_M_fail rfl rfl rfl rfl ⟨Nat.zero_le _, Nat.zero_le _⟩ ?_
    exact e_iret C E d_M_access_29 (Nat.le_refl _) (Nat.le_refl _) rfl ⟨rfl, rfl⟩
  · rw [bI_n] at h11
    simp only [Bool.and_eq_true, Bool.not_eq_true', decide_eq_false_iff_not] at h11
    rcases hp with h | h
    · exact absurd h h11.1
    · refine absurd ?_ h11.2
      rw [Int32.lt_iff_toInt_lt] at h ⊢
      have e4 : (4 : Int32).toInt = 4 := by decide
      have e3 : (3 : Int32).toInt = 3 := by decide
      omega
end M5
