/-! THE CLASS'S PUBLIC METHODS, where they return: the others -/
/-- what count answers -/
def ctI (c : CS) (q : Nat) : Int32 := match q with
  | 0 => c.1 2
  | 1 => c.2 20 0
  | 2 => c.2 20 1
  | 3 => c.2 20 2
  | 4 => c.2 20 3
  | 5 => c.2 20 4
  | 6 => c.1 3
  | 7 => c.1 4
  | 8 => c.1 5
  | 9 => c.1 10
  | 10 => c.1 11
  | 11 => c.1 12
  | 12 => c.1 6
  | _ => c.1 7
/-- the ask is a hit -/
def hitB (S wd : Nat) (c : CS) (x : Int32) (p : Nat) : Bool := match fdW S wd c x with
  | none => false
  | some j => !(c.2 4 j &&& bitI p == 0)
def nA (c : CS) : Nat := (c.1 11).toNatClampNeg
def nLc (c : CS) : Nat := (c.1 12).toNatClampNeg
def nD (c : CS) : Nat := (c.1 13).toNatClampNeg
theorem nA_eq {c : CS} {z lc : Nat} (h : AD c.1 z lc) : nA c = z ∧ nLc c = lc := by
  unfold nA nLc
  rw [h.1, h.2.1]
  exact ⟨nI_clamp (by have := h.2.2; omega), nI_clamp (by have := h.2.2; omega)⟩
def asS (c : CS) (x : Int32) (p : Nat) : CS := (adV c.1 c.2 (nA c) (nLc c) x, adF c.2 (nA c) (nLc c) x (nI p))
theorem asS_RA (c : CS) (x : Int32) (p : Nat) : RA c (asS c x p) := by
  unfold asS adV adF
  split <;> exact ⟨⟨rfl, rfl, rfl, rfl, rfl, rfl, rfl⟩, rfl, rfl, rfl⟩
/-- the first line's asks are taken out -/
def tkS (c : CS) : CS := (upd (upd (upd c.1 13 (nI (tk (c.2 14 0) (c.2 12) (c.2 13) (c.2 15) (nA c)).2.2.2.2)) 11 (nI (tk (c.2 14 0) (c.2 12) (c.2 13) (c.2 15) (nA c)).2.2.2.1)) 12 (nI (nLc c - 1)), up2 (tkF c.2 (tk (c.2 14 0) (c.2 12) (c.2 13) (c.2 15) (nA c))) 14 (shf (c.2 14) 0 (nLc c - 1)))
theorem tkS_RA (c : CS) : RA c (tkS c) := ⟨⟨rfl, rfl, rfl, rfl, rfl, rfl, rfl⟩, rfl, rfl, rfl⟩
/-- the asks done, from the k-th on, are accessed -/
def anL (S wd V kd : Nat) (x : Int32) : CS → Nat → Nat → CS
  | c, _, 0 => c
  | c, k, m + 1 => anL S wd V kd x ((pfS S wd V kd c x (c.2 15 k).toNatClampNeg 0).1, up2 (pfS S wd V kd c x (c.2 15 k).toNatClampNeg 0).2 16 (upd ((pfS S wd V kd c x (c.2 15 k).toNatClampNeg 0).2 16) k (pfK S wd V kd c x (c.2 15 k).toNatClampNeg 0))) (k + 1) m
/-- all parts that wait or are done are parts -/
def PT (c : CS) : Prop := (∀ j, ∃ p, p < 4 ∧ c.2 13 j = nI p) ∧ ∀ j, ∃ p, p < 4 ∧ c.2 15 j = nI p
theorem PT_up {g : Nat → Int32} (h : ∀ j, ∃ p, p < 4 ∧ g j = nI p) (k : Nat) {y : Int32} (hy : ∃ p, p < 4 ∧ y = nI p) : ∀ j, ∃ p, p < 4 ∧ upd g k y j = nI p := by
  intro j
  by_cases hj : j = k
  · subst hj
    rw [pk_us]
    exact hy
  · rw [pk_un hj]
    exact h j
theorem tk_PT (x : Int32) (p q r : Nat → Int32) (hq : ∀ j, ∃ p, p < 4 ∧ q j = nI p) (hr : ∀ j, ∃ p, p < 4 ∧ r j = nI p) : ∀ k, (∀ j, ∃ u, u < 4 ∧ (tk x p q r k).2.1 j = nI u) ∧ ∀ j, ∃ u, u < 4 ∧ (tk x p q r k).2.2.1 j = nI u
  | 0 => ⟨hq, hr⟩
  | k + 1 => by
    have h := tk_PT x p q r hq hr k
    unfold tk
    split
    · exact ⟨h.1, PT_up h.2 _ (h.1 k)⟩
    · exact ⟨PT_up h.1 _ (h.1 k), h.2⟩
theorem tkS_PT {c : CS} (h : PT c) : PT (tkS c) := tk_PT _ _ _ _ h.1 h.2 _
section CPub2
variable {l : Launch} {G : EG} {a : Nat → Nat} {c : CS} {n S wd V kd z lc : Nat} {wr ws : va_W}
set_option maxRecDepth 100000 in
theorem k_C_count0 {q : Int32} (hq : q < 0 ∨ 13 < q) : Con l G y_C_count c_C_count 2 (some .int) (rz 0 0) [.ref (a 0), .int q] (cF G a c.1 c.2 n V wr) (DI (-1) (cF G a c.1 c.2 n V wr)) := by
  refine Con.of rfl rfl (fun X C E hR hl hnm => ?_)
  have hq2 : q.toInt < 0 ∨ 13 < q.toInt := by
    rcases hq with h | h
    · left
      simpa [Int32.lt_iff_toInt_lt] using h
    · right
      simpa [Int32.lt_iff_toInt_lt] using h
  have tail : EW X G 2 0 0 19 [(0, .ref (a 0)), (1, .int q)] [] (cF G a c.1 c.2 n V wr) := by
    refine e_iload_n C d_C_count_19 rfl ?_
    refine e_tableOut C d_C_count_20 hq2 (tgt := 152) (by decide) ?_
    refine e_iconst C d_C_count_152 (v := (-1)) (by decide) ?_
    exact e_iret C E d_C_count_153 (Nat.le_refl _) (Nat.le_refl _) rfl ⟨rfl, rfl⟩
  refine e_iload_n C d_C_count_0 rfl ?_
  refine e_iconst C d_C_count_1 (v := 1) (by decide) ?_
  refine e_icmp_lt C d_C_count_2 (tgt := 19) (by decide) (fun h2 => ?_) (fun h2 => ?_)
  · exact e_lv2 tail rfl
  · skip
    refine e_iload_n C d_C_count_5 rfl ?_
    refine e_iconst C d_C_count_6 (v := 5) (by decide) ?_
    refine e_icmp_gt C d_C_count_7 (tgt := 19) (by decide) (fun h7 => ?_) (fun h7 => ?_)
    · exact e_lv2 tail rfl
    · exfalso
      rw [Int32.lt_iff_toInt_lt] at h2 h7
      have e1 : (1 : Int32).toInt = 1 := by decide
      have e5 : (5 : Int32).toInt = 5 := by decide
      rw [e1] at h2
      rw [e5] at h7
      omega
set_option maxRecDepth 100000 in
theorem k_C_count {q : Nat} (hq : q < 14) : Con l G y_C_count c_C_count 2 (some .int) (rz 0 0) [.ref (a 0), .int (nI q)] (cF G a c.1 c.2 n V wr) (DI (ctI c q) (cF G a c.1 c.2 n V wr)) := by
  refine Con.of rfl rfl (fun X C E hR hl hnm => ?_)
  rcases (by omega : q = 0 ∨ q = 1 ∨ q = 2 ∨ q = 3 ∨ q = 4 ∨ q = 5 ∨ q = 6 ∨ q = 7 ∨ q = 8 ∨ q = 9 ∨ q = 10 ∨ q = 11 ∨ q = 12 ∨ q = 13) with rfl | rfl | rfl | rfl | rfl | rfl | rfl | rfl | rfl | rfl | rfl | rfl | rfl | rfl
  · skip
    refine e_iload_n C d_C_count_0 rfl ?_
    refine e_iconst C d_C_count_1 (v := 1) (by decide) ?_
    refine e_icmp_lt C d_C_count_2 (tgt := 19) (by decide) (fun h2 => ?_) (fun h2 => ?_)
    · skip
      refine e_iload_n C d_C_count_19 rfl ?_
      refine e_tableIn C d_C_count_20 (off := 72) (by decide) (by decide) (by decide) (tgt := 92) (by decide) ?_
      refine e_aload_n C d_C_count_92 rfl ?_
      refine e_get C 0 (k := 8) in_C g272 d_C_count_93 rfl rfl rfl rfl ?_
      exact e_iret C E d_C_count_96 (Nat.le_refl _) (Nat.le_refl _) rfl ⟨rfl, rfl⟩
    · exact absurd (by decide) h2
  · skip
    refine e_iload_n C d_C_count_0 rfl ?_
    refine e_iconst C d_C_count_1 (v := 1) (by decide) ?_
    refine e_icmp_lt C d_C_count_2 (tgt := 19) (by decide) (fun h2 => ?_) (fun h2 => ?_)
    · exact absurd h2 (by decide)
    · skip
      refine e_iload_n C d_C_count_5 rfl ?_
      refine e_iconst C d_C_count_6 (v := 5) (by decide) ?_
      refine e_icmp_gt C d_C_count_7 (tgt := 19) (by decide) (fun h7 => ?_) (fun h7 => ?_)
      · exact absurd h7 (by decide)
      · skip
        refine e_aload_n C d_C_count_10 rfl ?_
        refine e_get C 0 (k := 5) in_C g269 d_C_count_11 rfl rfl rfl rfl ?_
        refine e_iload_n C d_C_count_14 rfl ?_
        refine e_iconst C d_C_count_15 (v := 1) (by decide) ?_
        refine e_isub C d_C_count_16 ?_
        refine e_iald C 20 0 d_C_count_17 rfl rfl 0 (by decide) (by omega) (by omega) ?_
        exact e_iret C E d_C_count_18 (Nat.le_refl _) (Nat.le_refl _) rfl ⟨rfl, rfl⟩
  · skip
    refine e_iload_n C d_C_count_0 rfl ?_
    refine e_iconst C d_C_count_1 (v := 1) (by decide) ?_
    refine e_icmp_lt C d_C_count_2 (tgt := 19) (by decide) (fun h2 => ?_) (fun h2 => ?_)
    · exact absurd h2 (by decide)
    · skip
      refine e_iload_n C d_C_count_5 rfl ?_
      refine e_iconst C d_C_count_6 (v := 5) (by decide) ?_
      refine e_icmp_gt C d_C_count_7 (tgt := 19) (by decide) (fun h7 => ?_) (fun h7 => ?_)
      · exact absurd h7 (by decide)
      · skip
        refine e_aload_n C d_C_count_10 rfl ?_
        refine e_get C 0 (k := 5) in_C g269 d_C_count_11 rfl rfl rfl rfl ?_
        refine e_iload_n C d_C_count_14 rfl ?_
        refine e_iconst C d_C_count_15 (v := 1) (by decide) ?_
        refine e_isub C d_C_count_16 ?_
        refine e_iald C 20 0 d_C_count_17 rfl rfl 1 (by decide) (by omega) (by omega) ?_
        exact e_iret C E d_C_count_18 (Nat.le_refl _) (Nat.le_refl _) rfl ⟨rfl, rfl⟩
  · skip
    refine e_iload_n C d_C_count_0 rfl ?_
    refine e_iconst C d_C_count_1 (v := 1) (by decide) ?_
    refine e_icmp_lt C d_C_count_2 (tgt := 19) (by decide) (fun h2 => ?_) (fun h2 => ?_)
    · exact absurd h2 (by decide)
    · skip
      refine e_iload_n C d_C_count_5 rfl ?_
      refine e_iconst C d_C_count_6 (v := 5) (by decide) ?_
      refine e_icmp_gt C d_C_count_7 (tgt := 19) (by decide) (fun h7 => ?_) (fun h7 => ?_)
      · exact absurd h7 (by decide)
      · skip
        refine e_aload_n C d_C_count_10 rfl ?_
        refine e_get C 0 (k := 5) in_C g269 d_C_count_11 rfl rfl rfl rfl ?_
        refine e_iload_n C d_C_count_14 rfl ?_
        refine e_iconst C d_C_count_15 (v := 1) (by decide) ?_
        refine e_isub C d_C_count_16 ?_
        refine e_iald C 20 0 d_C_count_17 rfl rfl 2 (by decide) (by omega) (by omega) ?_
        exact e_iret C E d_C_count_18 (Nat.le_refl _) (Nat.le_refl _) rfl ⟨rfl, rfl⟩
  · skip
    refine e_iload_n C d_C_count_0 rfl ?_
    refine e_iconst C d_C_count_1 (v := 1) (by decide) ?_
    refine e_icmp_lt C d_C_count_2 (tgt := 19) (by decide) (fun h2 => ?_) (fun h2 => ?_)
    · exact absurd h2 (by decide)
    · skip
      refine e_iload_n C d_C_count_5 rfl ?_
      refine e_iconst C d_C_count_6 (v := 5) (by decide) ?_
      refine e_icmp_gt C d_C_count_7 (tgt := 19) (by decide) (fun h7 => ?_) (fun h7 => ?_)
      · exact absurd h7 (by decide)
      · skip
        refine e_aload_n C d_C_count_10 rfl ?_
        refine e_get C 0 (k := 5) in_C g269 d_C_count_11 rfl rfl rfl rfl ?_
        refine e_iload_n C d_C_count_14 rfl ?_
        refine e_iconst C d_C_count_15 (v := 1) (by decide) ?_
        refine e_isub C d_C_count_16 ?_
        refine e_iald C 20 0 d_C_count_17 rfl rfl 3 (by decide) (by omega) (by omega) ?_
        exact e_iret C E d_C_count_18 (Nat.le_refl _) (Nat.le_refl _) rfl ⟨rfl, rfl⟩
  · skip
    refine e_iload_n C d_C_count_0 rfl ?_
    refine e_iconst C d_C_count_1 (v := 1) (by decide) ?_
    refine e_icmp_lt C d_C_count_2 (tgt := 19) (by decide) (fun h2 => ?_) (fun h2 => ?_)
    · exact absurd h2 (by decide)
    · skip
      refine e_iload_n C d_C_count_5 rfl ?_
      refine e_iconst C d_C_count_6 (v := 5) (by decide) ?_
      refine e_icmp_gt C d_C_count_7 (tgt := 19) (by decide) (fun h7 => ?_) (fun h7 => ?_)
      · exact absurd h7 (by decide)
      · skip
        refine e_aload_n C d_C_count_10 rfl ?_
        refine e_get C 0 (k := 5) in_C g269 d_C_count_11 rfl rfl rfl rfl ?_
        refine e_iload_n C d_C_count_14 rfl ?_
        refine e_iconst C d_C_count_15 (v := 1) (by decide) ?_
        refine e_isub C d_C_count_16 ?_
        refine e_iald C 20 0 d_C_count_17 rfl rfl 4 (by decide) (by omega) (by omega) ?_
        exact e_iret C E d_C_count_18 (Nat.le_refl _) (Nat.le_refl _) rfl ⟨rfl, rfl⟩
  · skip
    refine e_iload_n C d_C_count_0 rfl ?_
    refine e_iconst C d_C_count_1 (v := 1) (by decide) ?_
    refine e_icmp_lt C d_C_count_2 (tgt := 19) (by decide) (fun h2 => ?_) (fun h2 => ?_)
    · exact absurd h2 (by decide)
    · skip
      refine e_iload_n C d_C_count_5 rfl ?_
      refine e_iconst C d_C_count_6 (v := 5) (by decide) ?_
      refine e_icmp_gt C d_C_count_7 (tgt := 19) (by decide) (fun h7 => ?_) (fun h7 => ?_)
      · skip
        refine e_iload_n C d_C_count_19 rfl ?_
        refine e_tableIn C d_C_count_20 (off := 77) (by decide) (by decide) (by decide) (tgt := 97) (by decide) ?_
        refine e_aload_n C d_C_count_97 rfl ?_
        refine e_get C 0 (k := 9) in_C g273 d_C_count_98 rfl rfl rfl rfl ?_
        exact e_iret C E d_C_count_101 (Nat.le_refl _) (Nat.le_refl _) rfl ⟨rfl, rfl⟩
      · exact absurd (by decide) h7
  · skip
    refine e_iload_n C d_C_count_0 rfl ?_
    refine e_iconst C d_C_count_1 (v := 1) (by decide) ?_
    refine e_icmp_lt C d_C_count_2 (tgt := 19) (by decide) (fun h2 => ?_) (fun h2 => ?_)
    · exact absurd h2 (by decide)
    · skip
      refine e_iload_n C d_C_count_5 rfl ?_
      refine e_iconst C d_C_count_6 (v := 5) (by decide) ?_
      refine e_icmp_gt C d_C_count_7 (tgt := 19) (by decide) (fun h7 => ?_) (fun h7 => ?_)
      · skip
        refine e_iload_n C d_C_count_19 rfl ?_
        refine e_tableIn C d_C_count_20 (off := 82) (by decide) (by decide) (by decide) (tgt := 102) (by decide) ?_
        refine e_aload_n C d_C_count_102 rfl ?_
        refine e_get C 0 (k := 10) in_C g274 d_C_count_103 rfl rfl rfl rfl ?_
        exact e_iret C E d_C_count_106 (Nat.le_refl _) (Nat.le_refl _) rfl ⟨rfl, rfl⟩
      · exact absurd (by decide) h7
  · skip
    refine e_iload_n C d_C_count_0 rfl ?_
    refine e_iconst C d_C_count_1 (v := 1) (by decide) ?_
    refine e_icmp_lt C d_C_count_2 (tgt := 19) (by decide) (fun h2 => ?_) (fun h2 => ?_)
    · exact absurd h2 (by decide)
    · skip
      refine e_iload_n C d_C_count_5 rfl ?_
      refine e_iconst C d_C_count_6 (v := 5) (by decide) ?_
      refine e_icmp_gt C d_C_count_7 (tgt := 19) (by decide) (fun h7 => ?_) (fun h7 => ?_)
      · skip
        refine e_iload_n C d_C_count_19 rfl ?_
        refine e_tableIn C d_C_count_20 (off := 87) (by decide) (by decide) (by decide) (tgt := 107) (by decide) ?_
        refine e_aload_n C d_C_count_107 rfl ?_
        refine e_get C 0 (k := 11) in_C g275 d_C_count_108 rfl rfl rfl rfl ?_
        exact e_iret C E d_C_count_111 (Nat.le_refl _) (Nat.le_refl _) rfl ⟨rfl, rfl⟩
      · exact absurd (by decide) h7
  · skip
    refine e_iload_n C d_C_count_0 rfl ?_
    refine e_iconst C d_C_count_1 (v := 1) (by decide) ?_
    refine e_icmp_lt C d_C_count_2 (tgt := 19) (by decide) (fun h2 => ?_) (fun h2 => ?_)
    · exact absurd h2 (by decide)
    · skip
      refine e_iload_n C d_C_count_5 rfl ?_
      refine e_iconst C d_C_count_6 (v := 5) (by decide) ?_
      refine e_icmp_gt C d_C_count_7 (tgt := 19) (by decide) (fun h7 => ?_) (fun h7 => ?_)
      · skip
        refine e_iload_n C d_C_count_19 rfl ?_
        refine e_tableIn C d_C_count_20 (off := 92) (by decide) (by decide) (by decide) (tgt := 112) (by decide) ?_
        refine e_aload_n C d_C_count_112 rfl ?_
        refine e_get C 0 (k := 1) in_C g265 d_C_count_113 rfl rfl rfl rfl ?_
        refine e_get C 7 (k := 4) in_Rows g90 d_C_count_116 rfl rfl rfl rfl ?_
        exact e_iret C E d_C_count_119 (Nat.le_refl _) (Nat.le_refl _) rfl ⟨rfl, rfl⟩
      · exact absurd (by decide) h7
  · skip
    refine e_iload_n C d_C_count_0 rfl ?_
    refine e_iconst C d_C_count_1 (v := 1) (by decide) ?_
    refine e_icmp_lt C d_C_count_2 (tgt := 19) (by decide) (fun h2 => ?_) (fun h2 => ?_)
    · exact absurd h2 (by decide)
    · skip
      refine e_iload_n C d_C_count_5 rfl ?_
      refine e_iconst C d_C_count_6 (v := 5) (by decide) ?_
      refine e_icmp_gt C d_C_count_7 (tgt := 19) (by decide) (fun h7 => ?_) (fun h7 => ?_)
      · skip
        refine e_iload_n C d_C_count_19 rfl ?_
        refine e_tableIn C d_C_count_20 (off := 100) (by decide) (by decide) (by decide) (tgt := 120) (by decide) ?_
        refine e_aload_n C d_C_count_120 rfl ?_
        refine e_get C 0 (k := 3) in_C g267 d_C_count_121 rfl rfl rfl rfl ?_
        refine e_get C 11 (k := 5) in_Asks g223 d_C_count_124 rfl rfl rfl rfl ?_
        exact e_iret C E d_C_count_127 (Nat.le_refl _) (Nat.le_refl _) rfl ⟨rfl, rfl⟩
      · exact absurd (by decide) h7
  · skip
    refine e_iload_n C d_C_count_0 rfl ?_
    refine e_iconst C d_C_count_1 (v := 1) (by decide) ?_
    refine e_icmp_lt C d_C_count_2 (tgt := 19) (by decide) (fun h2 => ?_) (fun h2 => ?_)
    · exact absurd h2 (by decide)
    · skip
      refine e_iload_n C d_C_count_5 rfl ?_
      refine e_iconst C d_C_count_6 (v := 5) (by decide) ?_
      refine e_icmp_gt C d_C_count_7 (tgt := 19) (by decide) (fun h7 => ?_) (fun h7 => ?_)
      · skip
        refine e_iload_n C d_C_count_19 rfl ?_
        refine e_tableIn C d_C_count_20 (off := 108) (by decide) (by decide) (by decide) (tgt := 128) (by decide) ?_
        refine e_aload_n C d_C_count_128 rfl ?_
        refine e_get C 0 (k := 3) in_C g267 d_C_count_129 rfl rfl rfl rfl ?_
        refine e_get C 11 (k := 6) in_Asks g225 d_C_count_132 rfl rfl rfl rfl ?_
        exact e_iret C E d_C_count_135 (Nat.le_refl _) (Nat.le_refl _) rfl ⟨rfl, rfl⟩
      · exact absurd (by decide) h7
  · skip
    refine e_iload_n C d_C_count_0 rfl ?_
    refine e_iconst C d_C_count_1 (v := 1) (by decide) ?_
    refine e_icmp_lt C d_C_count_2 (tgt := 19) (by decide) (fun h2 => ?_) (fun h2 => ?_)
    · exact absurd h2 (by decide)
    · skip
      refine e_iload_n C d_C_count_5 rfl ?_
      refine e_iconst C d_C_count_6 (v := 5) (by decide) ?_
      refine e_icmp_gt C d_C_count_7 (tgt := 19) (by decide) (fun h7 => ?_) (fun h7 => ?_)
      · skip
        refine e_iload_n C d_C_count_19 rfl ?_
        refine e_tableIn C d_C_count_20 (off := 116) (by decide) (by decide) (by decide) (tgt := 136) (by decide) ?_
        refine e_aload_n C d_C_count_136 rfl ?_
        refine e_get C 0 (k := 0) in_C g264 d_C_count_137 rfl rfl rfl rfl ?_
        refine e_get C 1 (k := 0) in_Ways g41 d_C_count_140 rfl rfl rfl rfl ?_
        exact e_iret C E d_C_count_143 (Nat.le_refl _) (Nat.le_refl _) rfl ⟨rfl, rfl⟩
      · exact absurd (by decide) h7
  · skip
    refine e_iload_n C d_C_count_0 rfl ?_
    refine e_iconst C d_C_count_1 (v := 1) (by decide) ?_
    refine e_icmp_lt C d_C_count_2 (tgt := 19) (by decide) (fun h2 => ?_) (fun h2 => ?_)
    · exact absurd h2 (by decide)
    · skip
      refine e_iload_n C d_C_count_5 rfl ?_
      refine e_iconst C d_C_count_6 (v := 5) (by decide) ?_
      refine e_icmp_gt C d_C_count_7 (tgt := 19) (by decide) (fun h7 => ?_) (fun h7 => ?_)
      · skip
        refine e_iload_n C d_C_count_19 rfl ?_
        refine e_tableIn C d_C_count_20 (off := 124) (by decide) (by decide) (by decide) (tgt := 144) (by decide) ?_
        refine e_aload_n C d_C_count_144 rfl ?_
        refine e_get C 0 (k := 0) in_C g264 d_C_count_145 rfl rfl rfl rfl ?_
        refine e_get C 1 (k := 1) in_Ways g43 d_C_count_148 rfl rfl rfl rfl ?_
        exact e_iret C E d_C_count_151 (Nat.le_refl _) (Nat.le_refl _) rfl ⟨rfl, rfl⟩
      · exact absurd (by decide) h7
set_option maxRecDepth 100000 in
theorem k_C_askHit (h : CI S wd V kd c) {hs : Nat} (hH : HD c.1 hs) (x : Int32) {p : Nat} (hp : p < 4) (hh : hitB S wd c x p = true) : Con l G y_C_ask c_C_ask 4 (some .int) (rz 6 149) [.ref (a 0), .int x, .int (nI p)] (wK G a c S wd V kd) (DI 0 (wK G a (pfS S wd V kd c x p 0) S wd V kd)) := by
  refine Con.of rfl rfl (fun X C E hR hl hnm => ?_)
  have hC := h.1.1
  have hn1 := hC.n128
  have hsn := sN_lt hC x
  have hb2 : sN S x * wd + wd ≤ S * wd := by
    have := slot_lt (wd := wd) (w := wd - 1) hsn (by have := hC.2.2.2.2; omega)
    have := hC.2.2.2.2
    omega
  unfold hitB fdW at hh
  refine e_iload_n C d_C_ask_0 rfl ?_
  refine e_cSi C hR (k_C_isNoPart0 hp) g382 g1 g380 g381 d_C_ask_1 rfl ey_C_isNoPart rfl rfl ⟨Nat.zero_le _, Nat.zero_le _⟩ ?_
  refine e_if_eq C d_C_ask_4 (tgt := 17) (by decide) (fun h4 => ?_) (fun h4 => ?_)
  · skip
    refine e_aload_n C d_C_ask_17 rfl ?_
    refine e_get C 0 (k := 0) in_C g264 d_C_ask_18 rfl rfl rfl rfl ?_
    refine e_iload_n C d_C_ask_21 rfl ?_
    refine e_cVi C hR 1 (k_Ways_find hC x) g312 g3 g309 g310 g311 d_C_ask_22 rfl ey_Ways_find rfl rfl rfl rfl ⟨Nat.zero_le _, Nat.zero_le _⟩ ?_
    refine e_istore_n C d_C_ask_25 rfl ?_
    refine e_iload_n C d_C_ask_26 rfl ?_
    refine e_iconst C d_C_ask_27 (v := (-1)) (by decide) ?_
    refine e_icmp_eq C d_C_ask_28 (tgt := 57) (by decide) (fun h28 => ?_) (fun h28 => ?_)
    · rw [oI_n1 (fb (by omega))] at h28
      rw [h28] at hh
      cases hh
    · rw [oI_n1 (fb (by omega))] at h28
      obtain ⟨j, hj⟩ := Option.ne_none_iff_exists'.mp h28
      have hj2 := fst1_some hj
      rw [hj] at hh ⊢
      have hh : ¬ c.2 4 j &&& bitI p = 0 := by simpa using hh
      refine e_aload_n C d_C_ask_31 rfl ?_
      refine e_get C 0 (k := 0) in_C g264 d_C_ask_32 rfl rfl rfl rfl ?_
      refine e_get C 1 (k := 5) in_Ways g51 d_C_ask_35 rfl rfl rfl rfl ?_
      refine e_iload_n C d_C_ask_38 rfl ?_
      refine e_iald C 4 0 d_C_ask_39 rfl rfl j rfl (by omega) (by omega) ?_
      refine e_iconst C d_C_ask_40 (v := 1) (by decide) ?_
      refine e_iload_n C d_C_ask_41 rfl ?_
      refine e_ishl C d_C_ask_42 ?_
      refine e_iand C d_C_ask_43 ?_
      refine e_if_eq C d_C_ask_44 (tgt := 57) (by decide) (fun h44 => ?_) (fun h44 => ?_)
      · exact absurd h44 hh
      · skip
        refine e_aload_n C d_C_ask_47 rfl ?_
        refine e_iload_n C d_C_ask_48 rfl ?_
        refine e_iload_n C d_C_ask_49 rfl ?_
        refine e_iconst C d_C_ask_50 (v := 0) (by decide) ?_
        refine e_cVi C hR 0 (k_C_perform h hH x hp 0) g455 g1 g452 g454 (gt_sel 1 (by decide +kernel) (by decide +kernel)) d_C_ask_51 rfl ey_C_perform rfl rfl rfl rfl ⟨Nat.zero_le _, Nat.zero_le _⟩ ?_
        refine e_pop C d_C_ask_54 rfl ?_
        refine e_iconst C d_C_ask_55 (v := 0) (by decide) ?_
        exact e_iret C E d_C_ask_56 (Nat.le_refl _) (Nat.le_refl _) rfl ⟨rfl, rfl⟩
  · exact absurd rfl h4
set_option maxRecDepth 100000 in
theorem k_C_askWait (h : CI S wd V kd c) (hA : AD c.1 z lc) (x : Int32) {p : Nat} (hp : p < 4) (hh : hitB S wd c x p = false) (hr : roomA c.2 z lc x = true) : Con l G y_C_ask c_C_ask 4 (some .int) (rz 6 149) [.ref (a 0), .int x, .int (nI p)] (wK G a c S wd V kd) (DI (if wts c.2 lc x then 2 else 1) (wK G a (asS c x p) S wd V kd)) := by
  refine Con.of rfl rfl (fun X C E hR hl hnm => ?_)
  have hC := h.1.1
  have hn1 := hC.n128
  have hsn := sN_lt hC x
  have hb2 : sN S x * wd + wd ≤ S * wd := by
    have := slot_lt (wd := wd) (w := wd - 1) hsn (by have := hC.2.2.2.2; omega)
    have := hC.2.2.2.2
    omega
  have eA := nA_eq hA
  have wait : EW X G 4 0 0 57 [(0, .ref (a 0)), (1, .int x), (2, .int (nI p))] [] (wK G a c S wd V kd) := by
    refine e_aload_n C d_C_ask_57 rfl ?_
    refine e_get C 0 (k := 3) in_C g267 d_C_ask_58 rfl rfl rfl rfl ?_
    refine e_iload_n C d_C_ask_61 rfl ?_
    refine e_cVi C hR 11 (k_Asks_hasRoomFor hA x) g621 g12 g618 g619 g620 d_C_ask_62 rfl ey_Asks_hasRoomFor rfl rfl rfl rfl ⟨Nat.zero_le _, Nat.zero_le _⟩ ?_
    refine e_if_ne C d_C_ask_65 (tgt := 78) (by decide) (fun h65 => ?_) (fun h65 => ?_)
    · skip
      refine e_aload_n C d_C_ask_78 rfl ?_
      refine e_get C 0 (k := 3) in_C g267 d_C_ask_79 rfl rfl rfl rfl ?_
      refine e_iload_n C d_C_ask_82 rfl ?_
      refine e_iload_n C d_C_ask_83 rfl ?_
      refine e_cVi C hR 11 (k_Asks_add hA x (nI p) hr) g645 g12 g642 g643 g644 d_C_ask_84 rfl ey_Asks_add rfl rfl rfl rfl ⟨Nat.zero_le _, Nat.zero_le _⟩ ?_
      refine e_eq (ws' := wK G a (asS c x p) S wd V kd) (by rw [← wK_of (asS_RA c x p) G a S wd V kd]; unfold asS; rw [eA.1, eA.2]) ?_
      refine e_if_eq C d_C_ask_87 (tgt := 94) (by decide) (fun h87 => ?_) (fun h87 => ?_)
      · rw [bI_0] at h87
        rw [show wts c.2 lc x = true by simpa using h87, if_pos rfl] at E
        refine e_iconst C d_C_ask_94 (v := 2) (by decide) ?_
        exact e_iret C E d_C_ask_95 (Nat.le_refl _) (Nat.le_refl _) rfl ⟨rfl, rfl⟩
      · rw [bI_n] at h87
        rw [show wts c.2 lc x = false by simpa using h87, if_neg (by decide)] at E
        refine e_iconst C d_C_ask_90 (v := 1) (by decide) ?_
        refine e_goto C d_C_ask_91 (tgt := 95) (by decide) ?_
        exact e_iret C E d_C_ask_95 (Nat.le_refl _) (Nat.le_refl _) rfl ⟨rfl, rfl⟩
    · rw [bI_0, hr] at h65
      cases h65
  unfold hitB fdW at hh
  refine e_iload_n C d_C_ask_0 rfl ?_
  refine e_cSi C hR (k_C_isNoPart0 hp) g382 g1 g380 g381 d_C_ask_1 rfl ey_C_isNoPart rfl rfl ⟨Nat.zero_le _, Nat.zero_le _⟩ ?_
  refine e_if_eq C d_C_ask_4 (tgt := 17) (by decide) (fun h4 => ?_) (fun h4 => ?_)
  · skip
    refine e_aload_n C d_C_ask_17 rfl ?_
    refine e_get C 0 (k := 0) in_C g264 d_C_ask_18 rfl rfl rfl rfl ?_
    refine e_iload_n C d_C_ask_21 rfl ?_
    refine e_cVi C hR 1 (k_Ways_find hC x) g312 g3 g309 g310 g311 d_C_ask_22 rfl ey_Ways_find rfl rfl rfl rfl ⟨Nat.zero_le _, Nat.zero_le _⟩ ?_
    refine e_istore_n C d_C_ask_25 rfl ?_
    refine e_iload_n C d_C_ask_26 rfl ?_
    refine e_iconst C d_C_ask_27 (v := (-1)) (by decide) ?_
    refine e_icmp_eq C d_C_ask_28 (tgt := 57) (by decide) (fun h28 => ?_) (fun h28 => ?_)
    · exact e_lv2 wait rfl
    · rw [oI_n1 (fb (by omega))] at h28
      obtain ⟨j, hj⟩ := Option.ne_none_iff_exists'.mp h28
      have hj2 := fst1_some hj
      rw [hj] at hh ⊢
      have hh : c.2 4 j &&& bitI p = 0 := by simpa using hh
      refine e_aload_n C d_C_ask_31 rfl ?_
      refine e_get C 0 (k := 0) in_C g264 d_C_ask_32 rfl rfl rfl rfl ?_
      refine e_get C 1 (k := 5) in_Ways g51 d_C_ask_35 rfl rfl rfl rfl ?_
      refine e_iload_n C d_C_ask_38 rfl ?_
      refine e_iald C 4 0 d_C_ask_39 rfl rfl j rfl (by omega) (by omega) ?_
      refine e_iconst C d_C_ask_40 (v := 1) (by decide) ?_
      refine e_iload_n C d_C_ask_41 rfl ?_
      refine e_ishl C d_C_ask_42 ?_
      refine e_iand C d_C_ask_43 ?_
      refine e_if_eq C d_C_ask_44 (tgt := 57) (by decide) (fun h44 => ?_) (fun h44 => ?_)
      · exact e_lv2 wait rfl
      · exact absurd hh h44
  · exact absurd rfl h4
theorem anL_step {S wd V kd : Nat} {x : Int32} {c : CS} {k p : Nat} (hp : c.2 15 k = nI p) (hp4 : p < 4) (m : Nat) : anL S wd V kd x c k (m + 1) = anL S wd V kd x ((pfS S wd V kd c x p 0).1, up2 (pfS S wd V kd c x p 0).2 16 (upd ((pfS S wd V kd c x p 0).2 16) k (pfK S wd V kd c x p 0))) (k + 1) m := by
  rw [anL, hp, nI_clamp (show p < 2 ^ 31 by omega)]
set_option maxRecDepth 100000 in
theorem k_C_answer (h : CI S wd V kd c) {hs : Nat} (hH : HD c.1 hs) (hA : AD c.1 z lc) (hP : PT c) (hlc : 1 ≤ lc) : Con l G y_C_answer c_C_answer 3 (some .int) (rz 6 149) [.ref (a 0)] (wK G a c S wd V kd) (DI (nI (nD (tkS c))) (wK G a (anL S wd V kd (c.2 14 0) (tkS c) 0 (nD (tkS c))) S wd V kd)) := by
  refine Con.of rfl rfl (fun X C E hR hl hnm => ?_)
  have eA := nA_eq hA
  have hlc4 := hA.2.2
  have h1 : CI S wd V kd (tkS c) := ⟨(tkS_RA c).rc h.1, h.2.1, h.2.2.1, h.2.2.2⟩
  have hP1 := tkS_PT hP
  have hle := tk_le (c.2 14 0) (c.2 12) (c.2 13) (c.2 15) z
  obtain ⟨d, hd, hd16⟩ : ∃ d, (tkS c).1 13 = nI d ∧ d ≤ 16 := by
    refine ⟨(tk (c.2 14 0) (c.2 12) (c.2 13) (c.2 15) (nA c)).2.2.2.2, rfl, ?_⟩
    rw [eA.1]
    omega
  have hnD : nD (tkS c) = d := by unfold nD; rw [hd]; exact nI_clamp (by omega)
  have hH1 : HD (tkS c).1 hs := hH
  rw [hnD] at E
  refine e_aload_n C d_C_answer_0 rfl ?_
  refine e_get C 0 (k := 3) in_C g267 d_C_answer_1 rfl rfl rfl rfl ?_
  refine e_get C 11 (k := 6) in_Asks g225 d_C_answer_4 rfl rfl rfl rfl ?_
  refine e_top hA.2.1 ?_
  refine e_if_ne C d_C_answer_7 (tgt := 20) (by decide) (fun h7 => ?_) (fun h7 => ?_)
  · skip
    refine e_aload_n C d_C_answer_20 rfl ?_
    refine e_get C 0 (k := 3) in_C g267 d_C_answer_21 rfl rfl rfl rfl ?_
    refine e_cVi C hR 11 (k_Asks_takeFirstLine hA hlc) g673 g12 g670 g671 g672 d_C_answer_24 rfl ey_Asks_takeFirstLine rfl rfl rfl rfl ⟨Nat.zero_le _, Nat.zero_le _⟩ ?_
    refine e_eq (ws' := wK G a (tkS c) S wd V kd) (by rw [← wK_of (tkS_RA c) G a S wd V kd]; unfold tkS; rw [eA.1, eA.2]) ?_
    refine e_istore_n C d_C_answer_27 rfl ?_
    refine e_iconst C d_C_answer_28 (v := 0) (by decide) ?_
    refine e_istore_n C d_C_answer_29 rfl ?_
    generalize tkS c = c1 at h1 hP1 hd hH1 E ⊢
    generalize c.2 14 0 = x at E ⊢
    have L : ∀ (m k : Nat) (c2 : CS) (hs2 : Nat), k + m = d → CI S wd V kd c2 → HD c2.1 hs2 → PT c2 → c2.1 13 = nI d → anL S wd V kd x c2 k m = anL S wd V kd x c1 0 d → EW X G 3 0 0 30 [(0, .ref (a 0)), (1, .int x), (2, .int (nI k))] [] (wK G a c2 S wd V kd) := by
      intro m
      induction m with
      | zero =>
        intro k c2 hs2 hk i1 i2 i3 i4 hf
        have hf : c2 = _ := hf
        refine e_iload_n C d_C_answer_30 rfl ?_
        refine e_aload_n C d_C_answer_31 rfl ?_
        refine e_get C 0 (k := 3) in_C g267 d_C_answer_32 rfl rfl rfl rfl ?_
        refine e_get C 11 (k := 7) in_Asks g227 d_C_answer_35 rfl rfl rfl rfl ?_
        refine e_top i4 ?_
        refine e_icmp_ge C d_C_answer_38 (tgt := 71) (by decide) (fun h38 => ?_) (fun h38 => ?_)
        · rw [← hf] at E
          refine e_aload_n C d_C_answer_71 rfl ?_
          refine e_get C 0 (k := 3) in_C g267 d_C_answer_72 rfl rfl rfl rfl ?_
          refine e_get C 11 (k := 7) in_Asks g227 d_C_answer_75 rfl rfl rfl rfl ?_
          refine e_top i4 ?_
          exact e_iret C E d_C_answer_78 (Nat.le_refl _) (Nat.le_refl _) rfl ⟨rfl, rfl⟩
        · exact absurd (nI_le (by omega) (by omega)) h38
      | succ m ih =>
        intro k c2 hs2 hk i1 i2 i3 i4 hf
        obtain ⟨p, hp, ep⟩ := i3.2 k
        obtain ⟨q, hq, eq⟩ := rhS_kind S wd V kd (ntS c2 x) x (bitI p) 0
        rw [anL_step ep hp] at hf
        have ka := pfS_asks S wd V kd c2 x p 0
        have j1 := pfS_CI i1 x hp 0
        obtain ⟨hs3, j2⟩ := pfS_HD i2 S wd V kd x p 0
        refine e_iload_n C d_C_answer_30 rfl ?_
        refine e_aload_n C d_C_answer_31 rfl ?_
        refine e_get C 0 (k := 3) in_C g267 d_C_answer_32 rfl rfl rfl rfl ?_
        refine e_get C 11 (k := 7) in_Asks g227 d_C_answer_35 rfl rfl rfl rfl ?_
        refine e_top i4 ?_
        refine e_icmp_ge C d_C_answer_38 (tgt := 71) (by decide) (fun h38 => ?_) (fun h38 => ?_)
        · exact absurd h38 (nI_ge (by omega) (by omega))
        · skip
          refine e_aload_n C d_C_answer_41 rfl ?_
          refine e_get C 0 (k := 3) in_C g267 d_C_answer_42 rfl rfl rfl rfl ?_
          refine e_get C 11 (k := 4) in_Asks g221 d_C_answer_45 rfl rfl rfl rfl ?_
          refine e_iload_n C d_C_answer_48 rfl ?_
          refine e_aload_n C d_C_answer_49 rfl ?_
          refine e_iload_n C d_C_answer_50 rfl ?_
          refine e_aload_n C d_C_answer_51 rfl ?_
          refine e_get C 0 (k := 3) in_C g267 d_C_answer_52 rfl rfl rfl rfl ?_
          refine e_get C 11 (k := 3) in_Asks g219 d_C_answer_55 rfl rfl rfl rfl ?_
          refine e_iload_n C d_C_answer_58 rfl ?_
          refine e_iald C 15 0 d_C_answer_59 rfl rfl k rfl (by omega) (by omega) ?_
          refine e_top ep ?_
          refine e_iconst C d_C_answer_60 (v := 0) (by decide) ?_
          refine e_cVi C hR 0 (k_C_perform i1 i2 x hp 0) g455 g1 g452 g454 (gt_sel 1 (by decide +kernel) (by decide +kernel)) d_C_answer_61 rfl ey_C_perform rfl rfl rfl rfl ⟨Nat.zero_le _, Nat.zero_le _⟩ ?_
          generalize pfS S wd V kd c2 x p 0 = c3 at hf ka j1 j2 ⊢
          refine e_iast C 16 0 d_C_answer_64 rfl rfl k rfl (by omega) (by omega) ?_
          refine e_eq (wK_of (c := c3) (c' := (c3.1, up2 c3.2 16 (upd (c3.2 16) k (pfK S wd V kd c2 x p 0)))) ⟨⟨rfl, rfl, rfl, rfl, rfl, rfl, rfl⟩, rfl, rfl, rfl⟩ G a S wd V kd) ?_
          refine e_iinc C d_C_answer_65 rfl (nI_1 k) rfl ?_
          refine e_goto C d_C_answer_68 (tgt := 30) (by decide) ?_
          refine e_lv2 (ih (k + 1) _ hs3 (by omega) ?_ j2 ?_ ?_ hf) rfl
          · exact ⟨RA.rc (c := c3) ⟨⟨rfl, rfl, rfl, rfl, rfl, rfl, rfl⟩, rfl, rfl, rfl⟩ j1.1, j1.2.1, j1.2.2.1, j1.2.2.2⟩
          · exact ⟨by show ∀ j, ∃ p, p < 4 ∧ c3.2 13 j = nI p; rw [ka.2 13 (by omega)]; exact i3.1, by show ∀ j, ∃ p, p < 4 ∧ c3.2 15 j = nI p; rw [ka.2 15 (by omega)]; exact i3.2⟩
          · show c3.1 13 = nI d
            rw [ka.1 13 (by omega)]
            exact i4
    exact e_lv2 (L d 0 c1 hs (by omega) h1 hH1 hP1 hd rfl) rfl
  · exact absurd h7 (nI_ne0 (by omega) (by omega))
set_option maxRecDepth 100000 in
theorem k_C_answered {d k : Nat} (hd : c.1 13 = nI d) (hd16 : d ≤ 16) (hk : k < d) (b : Bool) : Con l G y_C_answered c_C_answered 3 (some .int) (rz 5 104) [.ref (a 0), .int (nI k), .int (bI b)] (cF G a c.1 c.2 n V wr) (DI (if b then c.2 16 k else c.2 15 k) (cF G a c.1 c.2 n V wr)) := by
  refine Con.of rfl rfl (fun X C E hR hl hnm => ?_)
  refine e_iload_n C d_C_answered_0 rfl ?_
  refine e_if_lt C d_C_answered_1 (tgt := 24) (by decide) (fun h1 => ?_) (fun h1 => ?_)
  · exact absurd h1 (nI_pos (by omega))
  · skip
    refine e_iload_n C d_C_answered_4 rfl ?_
    refine e_aload_n C d_C_answered_5 rfl ?_
    refine e_get C 0 (k := 3) in_C g267 d_C_answered_6 rfl rfl rfl rfl ?_
    refine e_get C 11 (k := 7) in_Asks g227 d_C_answered_9 rfl rfl rfl rfl ?_
    refine e_top hd ?_
    refine e_icmp_ge C d_C_answered_12 (tgt := 24) (by decide) (fun h12 => ?_) (fun h12 => ?_)
    · exact absurd h12 (nI_ge (by omega) (by omega))
    · cases b with
      | true =>
        refine e_iload_n C d_C_answered_15 rfl ?_
        refine e_if_lt C d_C_answered_16 (tgt := 24) (by decide) (fun h16 => ?_) (fun h16 => ?_)
        · exact absurd h16 (by decide)
        · skip
          refine e_iload_n C d_C_answered_19 rfl ?_
          refine e_iconst C d_C_answered_20 (v := 1) (by decide) ?_
          refine e_icmp_le C d_C_answered_21 (tgt := 34) (by decide) (fun h21 => ?_) (fun h21 => ?_)
          · skip
            refine e_iload_n C d_C_answered_34 rfl ?_
            refine e_if_ne C d_C_answered_35 (tgt := 50) (by decide) (fun h35 => ?_) (fun h35 => ?_)
            · skip
              refine e_aload_n C d_C_answered_50 rfl ?_
              refine e_get C 0 (k := 3) in_C g267 d_C_answered_51 rfl rfl rfl rfl ?_
              refine e_get C 11 (k := 4) in_Asks g221 d_C_answered_54 rfl rfl rfl rfl ?_
              refine e_iload_n C d_C_answered_57 rfl ?_
              refine e_iald C 16 0 d_C_answered_58 rfl rfl k rfl (by omega) (by omega) ?_
              exact e_iret C E d_C_answered_59 (Nat.le_refl _) (Nat.le_refl _) rfl ⟨rfl, rfl⟩
            · exact absurd h35 (by decide)
          · exact absurd (by decide) h21
      | false =>
        refine e_iload_n C d_C_answered_15 rfl ?_
        refine e_if_lt C d_C_answered_16 (tgt := 24) (by decide) (fun h16 => ?_) (fun h16 => ?_)
        · exact absurd h16 (by decide)
        · skip
          refine e_iload_n C d_C_answered_19 rfl ?_
          refine e_iconst C d_C_answered_20 (v := 1) (by decide) ?_
          refine e_icmp_le C d_C_answered_21 (tgt := 34) (by decide) (fun h21 => ?_) (fun h21 => ?_)
          · skip
            refine e_iload_n C d_C_answered_34 rfl ?_
            refine e_if_ne C d_C_answered_35 (tgt := 50) (by decide) (fun h35 => ?_) (fun h35 => ?_)
            · exact absurd rfl h35
            · skip
              refine e_aload_n C d_C_answered_38 rfl ?_
              refine e_get C 0 (k := 3) in_C g267 d_C_answered_39 rfl rfl rfl rfl ?_
              refine e_get C 11 (k := 3) in_Asks g219 d_C_answered_42 rfl rfl rfl rfl ?_
              refine e_iload_n C d_C_answered_45 rfl ?_
              refine e_iald C 15 0 d_C_answered_46 rfl rfl k rfl (by omega) (by omega) ?_
              refine e_goto C d_C_answered_47 (tgt := 59) (by decide) ?_
              exact e_iret C E d_C_answered_59 (Nat.le_refl _) (Nat.le_refl _) rfl ⟨rfl, rfl⟩
          · exact absurd (by decide) h21
theorem b01 {y : Int32} : (if y = 0 then (0 : Int32) else 1) = 0 ∨ (if y = 0 then (0 : Int32) else 1) = 1 := by
  by_cases h : y = 0
  · left; rw [if_pos h]
  · right; rw [if_neg h]
/-- what way answers of a slot -/
def wyI (c : CS) (j q : Nat) : Int32 := match q with
  | 0 => c.2 2 j
  | 1 => if c.2 3 j = 0 then 0 else 1
  | 2 => c.2 4 j
  | 3 => c.2 5 j
  | _ => if c.2 6 j = 0 then 0 else 1
set_option maxRecDepth 100000 in
theorem k_C_way (h : CD c.1 S wd) {s w q : Nat} (hs : s < S) (hw : w < wd) (hq : q < 5) : Con l G y_C_way c_C_way 5 (some .int) (rz 5 104) [.ref (a 0), .int (nI s), .int (nI w), .int (nI q)] (cF G a c.1 c.2 (S * wd) V wr) (DI (wyI c (s * wd + w) q) (cF G a c.1 c.2 (S * wd) V wr)) := by
  refine Con.of rfl rfl (fun X C E hR hl hnm => ?_)
  have hn1 := h.n128
  have hw8 := h.2.2.2.2
  have hS := h.S16
  have hlt := slot_lt hs hw
  refine e_iload_n C d_C_way_0 rfl ?_
  refine e_if_lt C d_C_way_1 (tgt := 30) (by decide) (fun h1 => ?_) (fun h1 => ?_)
  · exact absurd h1 (nI_pos (by omega))
  · skip
    refine e_iload_n C d_C_way_4 rfl ?_
    refine e_aload_n C d_C_way_5 rfl ?_
    refine e_get C 0 (k := 0) in_C g264 d_C_way_6 rfl rfl rfl rfl ?_
    refine e_get C 1 (k := 0) in_Ways g41 d_C_way_9 rfl rfl rfl rfl ?_
    refine e_top h.1 ?_
    refine e_icmp_ge C d_C_way_12 (tgt := 30) (by decide) (fun h12 => ?_) (fun h12 => ?_)
    · exact absurd h12 (nI_ge (by omega) (by omega))
    · skip
      refine e_iload_n C d_C_way_15 rfl ?_
      refine e_if_lt C d_C_way_16 (tgt := 30) (by decide) (fun h16 => ?_) (fun h16 => ?_)
      · exact absurd h16 (nI_pos (by omega))
      · skip
        refine e_iload_n C d_C_way_19 rfl ?_
        refine e_aload_n C d_C_way_20 rfl ?_
        refine e_get C 0 (k := 0) in_C g264 d_C_way_21 rfl rfl rfl rfl ?_
        refine e_get C 1 (k := 1) in_Ways g43 d_C_way_24 rfl rfl rfl rfl ?_
        refine e_top h.2.1 ?_
        refine e_icmp_lt C d_C_way_27 (tgt := 40) (by decide) (fun h27 => ?_) (fun h27 => ?_)
        · skip
          refine e_iload_n C d_C_way_40 rfl ?_
          refine e_aload_n C d_C_way_41 rfl ?_
          refine e_get C 0 (k := 0) in_C g264 d_C_way_42 rfl rfl rfl rfl ?_
          refine e_get C 1 (k := 1) in_Ways g43 d_C_way_45 rfl rfl rfl rfl ?_
          refine e_top h.2.1 ?_
          refine e_imul C d_C_way_48 ?_
          refine e_iload_n C d_C_way_49 rfl ?_
          refine e_iadd C d_C_way_50 ?_
          refine e_top (y := nI (s * wd + w)) (by rw [pk_mul, nI_add]) ?_
          refine e_istore C d_C_way_51 rfl ?_
          refine e_iload_n C d_C_way_53 rfl ?_
          rcases (by omega : q = 0 ∨ q = 1 ∨ q = 2 ∨ q = 3 ∨ q = 4) with rfl | rfl | rfl | rfl | rfl
          · refine e_tableIn C d_C_way_54 (off := 34) (by decide) (by decide) (by decide) (tgt := 88) (by decide) ?_
            refine e_aload_n C d_C_way_88 rfl ?_
            refine e_get C 0 (k := 0) in_C g264 d_C_way_89 rfl rfl rfl rfl ?_
            refine e_get C 1 (k := 3) in_Ways g47 d_C_way_92 rfl rfl rfl rfl ?_
            refine e_iload C d_C_way_95 rfl ?_
            refine e_iald C 2 0 d_C_way_97 rfl rfl _ rfl hlt (by omega) ?_
            exact e_iret C E d_C_way_98 (Nat.le_refl _) (Nat.le_refl _) rfl ⟨rfl, rfl⟩
          · refine e_tableIn C d_C_way_54 (off := 45) (by decide) (by decide) (by decide) (tgt := 99) (by decide) ?_
            refine e_aload_n C d_C_way_99 rfl ?_
            refine e_get C 0 (k := 0) in_C g264 d_C_way_100 rfl rfl rfl rfl ?_
            refine e_get C 1 (k := 4) in_Ways g49 d_C_way_103 rfl rfl rfl rfl ?_
            refine e_iload C d_C_way_106 rfl ?_
            refine e_zald C 3 1 d_C_way_108 rfl rfl _ rfl hlt (by omega) ?_
            refine e_if_eq C d_C_way_109 (tgt := 116) (by decide) (fun h109 => ?_) (fun h109 => ?_)
            · rw [show wyI c (s * wd + w) 1 = 0 by simp only [wyI]; exact if_pos h109] at E
              refine e_iconst C d_C_way_116 (v := 0) (by decide) ?_
              exact e_iret C E d_C_way_117 (Nat.le_refl _) (Nat.le_refl _) rfl ⟨rfl, rfl⟩
            · rw [show wyI c (s * wd + w) 1 = 1 by simp only [wyI]; exact if_neg h109] at E
              refine e_iconst C d_C_way_112 (v := 1) (by decide) ?_
              refine e_goto C d_C_way_113 (tgt := 117) (by decide) ?_
              exact e_iret C E d_C_way_117 (Nat.le_refl _) (Nat.le_refl _) rfl ⟨rfl, rfl⟩
          · refine e_tableIn C d_C_way_54 (off := 64) (by decide) (by decide) (by decide) (tgt := 118) (by decide) ?_
            refine e_aload_n C d_C_way_118 rfl ?_
            refine e_get C 0 (k := 0) in_C g264 d_C_way_119 rfl rfl rfl rfl ?_
            refine e_get C 1 (k := 5) in_Ways g51 d_C_way_122 rfl rfl rfl rfl ?_
            refine e_iload C d_C_way_125 rfl ?_
            refine e_iald C 4 0 d_C_way_127 rfl rfl _ rfl hlt (by omega) ?_
            exact e_iret C E d_C_way_128 (Nat.le_refl _) (Nat.le_refl _) rfl ⟨rfl, rfl⟩
          · refine e_tableIn C d_C_way_54 (off := 75) (by decide) (by decide) (by decide) (tgt := 129) (by decide) ?_
            refine e_aload_n C d_C_way_129 rfl ?_
            refine e_get C 0 (k := 0) in_C g264 d_C_way_130 rfl rfl rfl rfl ?_
            refine e_get C 1 (k := 6) in_Ways g53 d_C_way_133 rfl rfl rfl rfl ?_
            refine e_iload C d_C_way_136 rfl ?_
            refine e_iald C 5 0 d_C_way_138 rfl rfl _ rfl hlt (by omega) ?_
            exact e_iret C E d_C_way_139 (Nat.le_refl _) (Nat.le_refl _) rfl ⟨rfl, rfl⟩
          · refine e_tableIn C d_C_way_54 (off := 86) (by decide) (by decide) (by decide) (tgt := 140) (by decide) ?_
            refine e_aload_n C d_C_way_140 rfl ?_
            refine e_get C 0 (k := 0) in_C g264 d_C_way_141 rfl rfl rfl rfl ?_
            refine e_get C 1 (k := 7) in_Ways g55 d_C_way_144 rfl rfl rfl rfl ?_
            refine e_iload C d_C_way_147 rfl ?_
            refine e_zald C 6 1 d_C_way_149 rfl rfl _ rfl hlt (by omega) ?_
            refine e_if_eq C d_C_way_150 (tgt := 157) (by decide) (fun h150 => ?_) (fun h150 => ?_)
            · rw [show wyI c (s * wd + w) 4 = 0 by simp only [wyI]; exact if_pos h150] at E
              refine e_iconst C d_C_way_157 (v := 0) (by decide) ?_
              exact e_iret C E d_C_way_158 (Nat.le_refl _) (Nat.le_refl _) rfl ⟨rfl, rfl⟩
            · rw [show wyI c (s * wd + w) 4 = 1 by simp only [wyI]; exact if_neg h150] at E
              refine e_iconst C d_C_way_153 (v := 1) (by decide) ?_
              refine e_goto C d_C_way_154 (tgt := 158) (by decide) ?_
              exact e_iret C E d_C_way_158 (Nat.le_refl _) (Nat.le_refl _) rfl ⟨rfl, rfl⟩
        · rw [nI_ltI (by omega) (by omega)] at h27
          omega
/-- what caught answers -/
def cgI (c : CS) (k q : Nat) : Int32 := match q with
  | 0 => c.2 8 k
  | 1 => c.2 9 k
  | _ => c.2 10 k
set_option maxRecDepth 100000 in
theorem k_C_caught (hz : RD c.1 V z) {k q : Nat} (hk : k < z) (hq : q < 3) : Con l G y_C_caught c_C_caught 3 (some .int) (rz 5 104) [.ref (a 0), .int (nI k), .int (nI q)] (cF G a c.1 c.2 n V wr) (DI (cgI c k q) (cF G a c.1 c.2 n V wr)) := by
  refine Con.of rfl rfl (fun X C E hR hl hnm => ?_)
  have hz2 := hz.2.2
  refine e_iload_n C d_C_caught_0 rfl ?_
  refine e_if_lt C d_C_caught_1 (tgt := 15) (by decide) (fun h1 => ?_) (fun h1 => ?_)
  · exact absurd h1 (nI_pos (by omega))
  · skip
    refine e_iload_n C d_C_caught_4 rfl ?_
    refine e_aload_n C d_C_caught_5 rfl ?_
    refine e_get C 0 (k := 1) in_C g265 d_C_caught_6 rfl rfl rfl rfl ?_
    refine e_get C 7 (k := 4) in_Rows g90 d_C_caught_9 rfl rfl rfl rfl ?_
    refine e_top hz.2.1 ?_
    refine e_icmp_lt C d_C_caught_12 (tgt := 25) (by decide) (fun h12 => ?_) (fun h12 => ?_)
    · skip
      refine e_iload_n C d_C_caught_25 rfl ?_
      rcases (by omega : q = 0 ∨ q = 1 ∨ q = 2) with rfl | rfl | rfl
      · refine e_tableIn C d_C_caught_26 (off := 26) (by decide) (by decide) (by decide) (tgt := 52) (by decide) ?_
        refine e_aload_n C d_C_caught_52 rfl ?_
        refine e_get C 0 (k := 1) in_C g265 d_C_caught_53 rfl rfl rfl rfl ?_
        refine e_get C 7 (k := 1) in_Rows g84 d_C_caught_56 rfl rfl rfl rfl ?_
        refine e_iload_n C d_C_caught_59 rfl ?_
        refine e_iald C 8 0 d_C_caught_60 rfl rfl k rfl (by omega) (by omega) ?_
        exact e_iret C E d_C_caught_61 (Nat.le_refl _) (Nat.le_refl _) rfl ⟨rfl, rfl⟩
      · refine e_tableIn C d_C_caught_26 (off := 36) (by decide) (by decide) (by decide) (tgt := 62) (by decide) ?_
        refine e_aload_n C d_C_caught_62 rfl ?_
        refine e_get C 0 (k := 1) in_C g265 d_C_caught_63 rfl rfl rfl rfl ?_
        refine e_get C 7 (k := 2) in_Rows g86 d_C_caught_66 rfl rfl rfl rfl ?_
        refine e_iload_n C d_C_caught_69 rfl ?_
        refine e_iald C 9 0 d_C_caught_70 rfl rfl k rfl (by omega) (by omega) ?_
        exact e_iret C E d_C_caught_71 (Nat.le_refl _) (Nat.le_refl _) rfl ⟨rfl, rfl⟩
      · refine e_tableIn C d_C_caught_26 (off := 46) (by decide) (by decide) (by decide) (tgt := 72) (by decide) ?_
        refine e_aload_n C d_C_caught_72 rfl ?_
        refine e_get C 0 (k := 1) in_C g265 d_C_caught_73 rfl rfl rfl rfl ?_
        refine e_get C 7 (k := 3) in_Rows g88 d_C_caught_76 rfl rfl rfl rfl ?_
        refine e_iload_n C d_C_caught_79 rfl ?_
        refine e_iald C 10 0 d_C_caught_80 rfl rfl k rfl (by omega) (by omega) ?_
        exact e_iret C E d_C_caught_81 (Nat.le_refl _) (Nat.le_refl _) rfl ⟨rfl, rfl⟩
    · rw [nI_ltI (by omega) (by omega)] at h12
      omega
/-- what next answers -/
def nxO (wd kd : Nat) (c : CS) (s : Nat) : Option Nat := match fst1 (fun w => c.2 3 (s * wd + w) == 0) 0 wd with
  | some _ => none
  | none => rChoose wd kd c s
set_option maxRecDepth 100000 in
theorem k_C_next (h : RC S wd kd c) {s : Nat} (hs : s < S) : Con l G y_C_next c_C_next 2 (some .int) (rz 5 104) [.ref (a 0), .int (nI s)] (wK G a c S wd V kd) (DI (oI (nxO wd kd c s)) (wK G a c S wd V kd)) := by
  refine Con.of rfl rfl (fun X C E hR hl hnm => ?_)
  have hS := h.1.S16
  have hw8 := h.1.2.2.2.2
  unfold nxO at E
  refine e_iload_n C d_C_next_0 rfl ?_
  refine e_if_lt C d_C_next_1 (tgt := 15) (by decide) (fun h1 => ?_) (fun h1 => ?_)
  · exact absurd h1 (nI_pos (by omega))
  · skip
    refine e_iload_n C d_C_next_4 rfl ?_
    refine e_aload_n C d_C_next_5 rfl ?_
    refine e_get C 0 (k := 0) in_C g264 d_C_next_6 rfl rfl rfl rfl ?_
    refine e_get C 1 (k := 0) in_Ways g41 d_C_next_9 rfl rfl rfl rfl ?_
    refine e_top h.1.1 ?_
    refine e_icmp_lt C d_C_next_12 (tgt := 25) (by decide) (fun h12 => ?_) (fun h12 => ?_)
    · skip
      refine e_aload_n C d_C_next_25 rfl ?_
      refine e_get C 0 (k := 0) in_C g264 d_C_next_26 rfl rfl rfl rfl ?_
      refine e_iload_n C d_C_next_29 rfl ?_
      refine e_cVi C hR 1 (k_Ways_emptyWay h.1 hs) g514 g3 g511 g512 g513 d_C_next_30 rfl ey_Ways_emptyWay rfl rfl rfl rfl ⟨Nat.zero_le _, Nat.zero_le _⟩ ?_
      refine e_iconst C d_C_next_33 (v := (-1)) (by decide) ?_
      refine e_icmp_eq C d_C_next_34 (tgt := 41) (by decide) (fun h34 => ?_) (fun h34 => ?_)
      · rw [oI_n1 (fb (by omega))] at h34
        rw [h34] at E
        refine e_aload_n C d_C_next_41 rfl ?_
        refine e_get C 0 (k := 2) in_C g266 d_C_next_42 rfl rfl rfl rfl ?_
        refine e_iload_n C d_C_next_45 rfl ?_
        refine e_aload_n C d_C_next_46 rfl ?_
        refine e_get C 0 (k := 0) in_C g264 d_C_next_47 rfl rfl rfl rfl ?_
        refine e_get C 1 (k := 7) in_Ways g55 d_C_next_50 rfl rfl rfl rfl ?_
        refine e_rule_choose C hR h hs g515 d_C_next_53 rfl rfl ⟨Nat.zero_le _, Nat.zero_le _⟩ ?_
        exact e_iret C E d_C_next_56 (Nat.le_refl _) (Nat.le_refl _) rfl ⟨rfl, rfl⟩
      · rw [oI_n1 (fb (by omega))] at h34
        obtain ⟨w, hw⟩ := Option.ne_none_iff_exists'.mp h34
        rw [hw] at E
        refine e_iconst C d_C_next_37 (v := (-1)) (by decide) ?_
        refine e_goto C d_C_next_38 (tgt := 56) (by decide) ?_
        exact e_iret C E d_C_next_56 (Nat.le_refl _) (Nat.le_refl _) rfl ⟨rfl, rfl⟩
    · rw [nI_ltI (by omega) (by omega)] at h12
      omega
set_option maxRecDepth 100000 in
theorem k_C_misses {q : Nat} (h1q : 1 ≤ q) (hq : q ≤ 64) : Con l G y_C_misses c_C_misses 2 (some .int) (rz 5 104) [.ref (a 0), .int (nI q)] (cF G a c.1 c.2 n V wr) (DI (accF (c.2 19) (c.1 15) q (64 - q)) (cF G a c.1 c.2 n V wr)) := by
  refine Con.of rfl rfl (fun X C E hR hl hnm => ?_)
  refine e_iload_n C d_C_misses_0 rfl ?_
  refine e_iconst C d_C_misses_1 (v := nI 1) (by decide) ?_
  refine e_icmp_lt C d_C_misses_2 (tgt := 11) (by decide) (fun h2 => ?_) (fun h2 => ?_)
  · rw [nI_ltI (by omega) (by omega)] at h2
    omega
  · skip
    refine e_iload_n C d_C_misses_5 rfl ?_
    refine e_bipush C d_C_misses_6 (v := nI 64) (by decide) ?_
    refine e_icmp_le C d_C_misses_8 (tgt := 21) (by decide) (fun h8 => ?_) (fun h8 => ?_)
    · skip
      refine e_aload_n C d_C_misses_21 rfl ?_
      refine e_get C 0 (k := 4) in_C g268 d_C_misses_22 rfl rfl rfl rfl ?_
      refine e_iload_n C d_C_misses_25 rfl ?_
      refine e_cVi C hR 17 (k_Hist_countFrom hq) g734 g13 g731 g732 g733 d_C_misses_26 rfl ey_Hist_countFrom rfl rfl rfl rfl ⟨Nat.zero_le _, Nat.zero_le _⟩ ?_
      exact e_iret C E d_C_misses_29 (Nat.le_refl _) (Nat.le_refl _) rfl ⟨rfl, rfl⟩
    · rw [nI_leI (by omega) (by omega)] at h8
      omega
end CPub2
