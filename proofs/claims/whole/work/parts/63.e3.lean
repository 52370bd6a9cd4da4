theorem nI_neg {b : Nat} (h : b < 2 ^ 31) : (-nI b).toInt = -(b : Int) := by
  rw [Int32.toInt_neg, nI_toInt h]
  exact Int.bmod_eq_of_le (by omega) (by omega)
theorem nI_ns {b : Nat} (h : b < 2 ^ 30) : -nI b - 1 = -nI (b + 1) := by
  apply Int32.toInt_inj.mp
  rw [Int32.toInt_sub, nI_neg (by omega), nI_neg (by omega), show (1 : Int32).toInt = 1 from rfl]
  rw [Int.bmod_eq_of_le (by omega) (by omega)]
  omega
theorem T9_use {S wd N : Nat} {c m : CS} {s w : Nat} (h : T9 S wd N c m) (h8 : wd ≤ 8) (hs : s < S) (hw : w < wd) : T9 S wd (N + 1) (rUse wd 9 c s w) (tuS wd 9 m s w) := by
  obtain ⟨h16, T, B, τ, h1, h2, h3, h4, h5, h6, h7, hx⟩ := h
  refine ⟨h16, T + 1, B, τ, by omega, ?_, ?_, h4, by omega, h6, fun b b1 b2 => ⟨(h7 b b1 b2).1, by have := (h7 b b1 b2).2; omega⟩, ?_⟩
  · show c.1 17 + 1 = _
    rw [h2, nI_1]
  · show m.1 12 + 1 = _
    rw [h3, nI_1]
  · intro s' w' hs' hw'
    show (∃ t, t ≤ T + 1 ∧ upd (c.2 22) (s * wd + w) (c.1 17 + 1) (s' * wd + w') = nI t ∧ upd (m.2 13) (8 * s + w) (m.1 12 + 1) (8 * s' + w') = nI t) ∨ ∃ b, 1 ≤ b ∧ b ≤ B ∧ upd (c.2 22) (s * wd + w) (c.1 17 + 1) (s' * wd + w') = -nI b ∧ upd (m.2 13) (8 * s + w) (m.1 12 + 1) (8 * s' + w') = -nI (τ b)
    by_cases hj : s' = s ∧ w' = w
    · obtain ⟨rfl, rfl⟩ := hj
      left
      refine ⟨T + 1, by omega, ?_, ?_⟩
      · rw [pk_us, h2, nI_1]
      · rw [pk_us, h3, nI_1]
    · rw [pk_un (fun q => hj (slot_inj hw' hw q)), pk_un (fun q => hj (by omega))]
      rcases hx s' w' hs' hw' with ⟨t, t1, t2, t3⟩ | hb
      · exact Or.inl ⟨t, by omega, t2, t3⟩
      · exact Or.inr hb
theorem T9_come {S wd N : Nat} {c m : CS} {s w : Nat} (hN : N < 2 ^ 30) (h : T9 S wd N c m) (h8 : wd ≤ 8) (hs : s < S) (hw : w < wd) : T9 S wd (N + 1) (rCome wd 9 c s w) (tcS wd 9 m s w) := by
  obtain ⟨h16, T, B, τ, h1, h2, h3, h4, h5, h6, h7, hx⟩ := h
  refine ⟨h16, T + 1, B + 1, fun b => if b = B + 1 then T + 1 else τ b, by omega, ?_, ?_, ?_, by omega, ?_, ?_, ?_⟩
  · show c.1 17 + 1 = _
    rw [h2, nI_1]
  · show m.1 12 + 1 = _
    rw [h3, nI_1]
  · show c.1 18 - 1 = _
    rw [h4, nI_ns (by omega)]
  · intro i j i1 ij jB
    dsimp only
    rw [if_neg (show ¬ i = B + 1 by omega)]
    by_cases hj : j = B + 1
    · rw [if_pos hj]
      have := (h7 i i1 (by omega)).2
      omega
    · rw [if_neg hj]
      exact h6 i j i1 ij (by omega)
  · intro b b1 b2
    dsimp only
    by_cases hb : b = B + 1
    · rw [if_pos hb]; omega
    · rw [if_neg hb]
      have := h7 b b1 (by omega)
      omega
  · intro s' w' hs' hw'
    show (∃ t, t ≤ T + 1 ∧ upd (c.2 22) (s * wd + w) (if c.1 16 = 9 then c.1 18 - 1 else c.1 17 + 1) (s' * wd + w') = nI t ∧ upd (m.2 13) (8 * s + w) (-(m.1 12 + 1)) (8 * s' + w') = nI t) ∨ ∃ b, 1 ≤ b ∧ b ≤ B + 1 ∧ upd (c.2 22) (s * wd + w) (if c.1 16 = 9 then c.1 18 - 1 else c.1 17 + 1) (s' * wd + w') = -nI b ∧ upd (m.2 13) (8 * s + w) (-(m.1 12 + 1)) (8 * s' + w') = -nI (if b = B + 1 then T + 1 else τ b)
    rw [if_pos h16]
    by_cases hj : s' = s ∧ w' = w
    · obtain ⟨rfl, rfl⟩ := hj
      right
      refine ⟨B + 1, by omega, by omega, ?_, ?_⟩
      · rw [pk_us, h4, nI_ns (by omega)]
      · rw [pk_us, h3, nI_1, if_pos rfl]
    · rw [pk_un (fun q => hj (slot_inj hw' hw q)), pk_un (fun q => hj (by omega))]
      rcases hx s' w' hs' hw' with ⟨t, t1, t2, t3⟩ | ⟨b, b1, b2, b3, b4⟩
      · exact Or.inl ⟨t, by omega, t2, t3⟩
      · exact Or.inr ⟨b, b1, by omega, b3, by rw [if_neg (by omega)]; exact b4⟩
theorem T9_le {S wd N : Nat} {c m : CS} (hN : N < 2 ^ 30) (h : T9 S wd N c m) {s i j : Nat} (hs : s < S) (hi : i < wd) (hj : j < wd) : c.2 22 (s * wd + j) ≤ c.2 22 (s * wd + i) ↔ m.2 13 (8 * s + j) ≤ m.2 13 (8 * s + i) := by
  obtain ⟨-, T, B, τ, h1, -, -, -, h5, h6, h7, hx⟩ := h
  rcases hx s i hs hi with ⟨t, t1, t2, t3⟩ | ⟨b, b1, b2, b3, b4⟩ <;> rcases hx s j hs hj with ⟨u, u1, u2, u3⟩ | ⟨d, d1, d2, d3, d4⟩
  · rw [t2, t3, u2, u3]
  · rw [t2, t3, d3, d4, Int32.le_iff_toInt_le, Int32.le_iff_toInt_le, nI_toInt (by omega), nI_neg (by omega), nI_neg (by have := h7 d d1 d2; omega)]
    constructor <;> intro _ <;> omega
  · have := h7 b b1 b2
    rw [b3, b4, u2, u3, Int32.le_iff_toInt_le, Int32.le_iff_toInt_le, nI_toInt (by omega), nI_neg (by omega), nI_neg (by omega)]
    constructor <;> intro _ <;> omega
  · have e1 := h7 b b1 b2
    have e2 := h7 d d1 d2
    rw [b3, b4, d3, d4, Int32.le_iff_toInt_le, Int32.le_iff_toInt_le, nI_neg (by omega), nI_neg (by omega), nI_neg (by omega), nI_neg (by omega)]
    rcases Nat.lt_trichotomy b d with q | q | q
    · have := h6 b d b1 q d2
      constructor <;> intro _ <;> omega
    · rw [q]
      constructor <;> intro _ <;> omega
    · have := h6 d b d1 q b2
      constructor <;> intro _ <;> omega
theorem TK_mono {S wd kd N N' : Nat} {c m : CS} (hk : kd < 10) (h : TK S wd kd N c m) (hN : N ≤ N') : TK S wd kd N' c m := by
  rcases kd_cases hk with rfl | rfl | rfl | rfl | rfl | rfl | rfl | rfl | rfl | rfl
  all_goals first | exact h | skip
  obtain ⟨h16, T, B, τ, h1, hr⟩ := h
  exact ⟨h16, T, B, τ, by omega, hr⟩
theorem TK_use {S wd kd N : Nat} {c m : CS} {s w : Nat} (hk : kd < 10) (h : TK S wd kd N c m) (h8 : wd ≤ 8) (hs : s < S) (hw : w < wd) : TK S wd kd (N + 1) (rUse wd kd c s w) (tuS wd kd m s w) := by
  rcases kd_cases hk with rfl | rfl | rfl | rfl | rfl | rfl | rfl | rfl | rfl | rfl
  · exact h
  · exact ⟨TI.up h.1 h8 hw rfl, h.2⟩
  · exact TK6_pt hs hw h8 h
  · exact ltM_tie h h8 hs hw
  · refine ⟨TI.up h.1 h8 hw rfl, ?_⟩
    intro s' w' hs' hw'
    show ∃ a, a ≤ 3 ∧ upd (m.2 17) (8 * s + w) 0 (8 * s' + w') = nI a
    by_cases hj : 8 * s' + w' = 8 * s + w
    · rw [hj, pk_us]; exact ⟨0, by omega, rfl⟩
    · rw [pk_un hj]; exact h.2 s' w' hs' hw'
  iterate 4
    · exact ⟨h.1, congrArg (· + 1) h.2.1, TI.up h.2.2.1 h8 hw (congrArg (· + 1) h.2.1), h.2.2.2.1, TI.up h.2.2.2.2 h8 hw (congrArg (· + 1) (h.2.2.2.2 s w hs hw))⟩
  · exact T9_use h h8 hs hw
theorem TK_come {S wd kd N : Nat} {c m : CS} {s w : Nat} (hk : kd < 10) (hN : N < 2 ^ 30) (h : TK S wd kd N c m) (h8 : wd ≤ 8) (hs : s < S) (hw : w < wd) : TK S wd kd (N + 1) (rCome wd kd c s w) (tcS wd kd m s w) := by
  rcases kd_cases hk with rfl | rfl | rfl | rfl | rfl | rfl | rfl | rfl | rfl | rfl
  · exact h
  · exact ⟨TI.up h.1 h8 hw rfl, h.2⟩
  · exact TK6_pt hs hw h8 h
  · exact ltM_tie h h8 hs hw
  · refine ⟨TI.up h.1 h8 hw rfl, ?_⟩
    intro s' w' hs' hw'
    show ∃ a, a ≤ 3 ∧ upd (m.2 17) (8 * s + w) 2 (8 * s' + w') = nI a
    by_cases hj : 8 * s' + w' = 8 * s + w
    · rw [hj, pk_us]; exact ⟨2, by omega, rfl⟩
    · rw [pk_un hj]; exact h.2 s' w' hs' hw'
  iterate 4
    · exact ⟨h.1, congrArg (· + 1) h.2.1, TI.up h.2.2.1 h8 hw (by rw [if_neg (by rw [h.1]; decide)]; exact congrArg (· + 1) h.2.1), TI.up h.2.2.2.1 h8 hw (congrArg (· + 1) h.2.1), TI.up h.2.2.2.2 h8 hw rfl⟩
  · exact T9_come hN h h8 hs hw
