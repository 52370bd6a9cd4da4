/-! THE CLASS'S PUBLIC METHODS, where they return: the others -/
/-- what count answers -/
def ctI (c : CS) (q : Nat) : Int32 := match q with
  | 0 => c.1 2
  | 1 => c.2 20 0
  | 2 => c.2 20 1
  | 3 => c.2 20 2
  | 4 => c.2 20 3
  | 5 => c.2 20 4
  | 6 => c.1 3
  | 7 => c.1 4
  | 8 => c.1 5
  | 9 => c.1 10
  | 10 => c.1 11
  | 11 => c.1 12
  | 12 => c.1 6
  | _ => c.1 7
/-- the ask is a hit -/
def hitB (S wd : Nat) (c : CS) (x : Int32) (p : Nat) : Bool := match fdW S wd c x with
  | none => false
  | some j => !(c.2 4 j &&& bitI p == 0)
def nA (c : CS) : Nat := (c.1 11).toNatClampNeg
def nLc (c : CS) : Nat := (c.1 12).toNatClampNeg
def nD (c : CS) : Nat := (c.1 13).toNatClampNeg
theorem nA_eq {c : CS} {z lc : Nat} (h : AD c.1 z lc) : nA c = z ∧ nLc c = lc := by
  unfold nA nLc
  rw [h.1, h.2.1]
  exact ⟨nI_clamp (by have := h.2.2; omega), nI_clamp (by have := h.2.2; omega)⟩
def asS (c : CS) (x : Int32) (p : Nat) : CS := (adV c.1 c.2 (nA c) (nLc c) x, adF c.2 (nA c) (nLc c) x (nI p))
theorem asS_RA (c : CS) (x : Int32) (p : Nat) : RA c (asS c x p) := by
  unfold asS adV adF
  split <;> exact ⟨⟨rfl, rfl, rfl, rfl, rfl, rfl, rfl⟩, rfl, rfl, rfl⟩
/-- the first line's asks are taken out -/
def tkS (c : CS) : CS := (upd (upd (upd c.1 13 (nI (tk (c.2 14 0) (c.2 12) (c.2 13) (c.2 15) (nA c)).2.2.2.2)) 11 (nI (tk (c.2 14 0) (c.2 12) (c.2 13) (c.2 15) (nA c)).2.2.2.1)) 12 (nI (nLc c - 1)), up2 (tkF c.2 (tk (c.2 14 0) (c.2 12) (c.2 13) (c.2 15) (nA c))) 14 (shf (c.2 14) 0 (nLc c - 1)))
theorem tkS_RA (c : CS) : RA c (tkS c) := ⟨⟨rfl, rfl, rfl, rfl, rfl, rfl, rfl⟩, rfl, rfl, rfl⟩
/-- the asks done, from the k-th on, are accessed -/
def anL (S wd V kd : Nat) (x : Int32) : CS → Nat → Nat → CS
  | c, _, 0 => c
  | c, k, m + 1 => anL S wd V kd x ((pfS S wd V kd c x (c.2 15 k).toNatClampNeg 0).1, up2 (pfS S wd V kd c x (c.2 15 k).toNatClampNeg 0).2 16 (upd ((pfS S wd V kd c x (c.2 15 k).toNatClampNeg 0).2 16) k (pfK S wd V kd c x (c.2 15 k).toNatClampNeg 0))) (k + 1) m
/-- all parts that wait or are done are parts -/
def PT (c : CS) : Prop := (∀ j, ∃ p, p < 4 ∧ c.2 13 j = nI p) ∧ ∀ j, ∃ p, p < 4 ∧ c.2 15 j = nI p
theorem PT_up {g : Nat → Int32} (h : ∀ j, ∃ p, p < 4 ∧ g j = nI p) (k : Nat) {y : Int32} (hy : ∃ p, p < 4 ∧ y = nI p) : ∀ j, ∃ p, p < 4 ∧ upd g k y j = nI p := by
  intro j
  by_cases hj : j = k
  · subst hj
    rw [pk_us]
    exact hy
  · rw [pk_un hj]
    exact h j
theorem tk_PT (x : Int32) (p q r : Nat → Int32) (hq : ∀ j, ∃ p, p < 4 ∧ q j = nI p) (hr : ∀ j, ∃ p, p < 4 ∧ r j = nI p) : ∀ k, (∀ j, ∃ u, u < 4 ∧ (tk x p q r k).2.1 j = nI u) ∧ ∀ j, ∃ u, u < 4 ∧ (tk x p q r k).2.2.1 j = nI u
  | 0 => ⟨hq, hr⟩
  | k + 1 => by
    have h := tk_PT x p q r hq hr k
    unfold tk
    split
    · exact ⟨h.1, PT_up h.2 _ (h.1 k)⟩
    · exact ⟨PT_up h.1 _ (h.1 k), h.2⟩
theorem tkS_PT {c : CS} (h : PT c) : PT (tkS c) := tk_PT _ _ _ _ h.1 h.2 _
section CPub2
variable {l : Launch} {G : EG} {a : Nat → Nat} {c : CS} {n S wd V kd z lc : Nat} {wr ws : va_W}
set_option maxRecDepth 100000 in
theorem k_C_count0 {q : Int32} (hq : q < 0 ∨ 13 < q) : Con l G y_C_count c_C_count 2 (some .int) (rz 0 0) [.ref (a 0), .int q] (cF G a c.1 c.2 n V wr) (DI (-1) (cF G a c.1 c.2 n V wr)) := by
  refine Con.of rfl rfl (fun X C E hR hl hnm => ?_)
  have hq2 : q.toInt < 0 ∨ 13 < q.toInt := by
    rcases hq with h | h
    · left
      simpa [Int32.lt_iff_toInt_lt] using h
    · right
      simpa [Int32.lt_iff_toInt_lt] using h
  have tail : EW X G 2 0 0 19 [(0, .ref (a 0)), (1, .int q)] [] (cF G a c.1 c.2 n V wr) := by
    refine e_iload_n C d_C_count_19 rfl ?_
    refine e_tableOut C d_C_count_20 hq2 (tgt := 152) (by decide) ?_
    refine e_iconst C d_C_count_152 (v := (-1)) (by decide) ?_
    exact e_iret C E d_C_count_153 (Nat.le_refl _) (Nat.le_refl _) rfl ⟨rfl, rfl⟩
  refine e_iload_n C d_C_count_0 rfl ?_
  refine e_iconst C d_C_count_1 (v := 1) (by decide) ?_
  refine e_icmp_lt C d_C_count_2 (tgt := 19) (by decide) (fun h2 => ?_) (fun h2 => ?_)
  · exact e_lv2 tail rfl
  · skip
    refine e_iload_n C d_C_count_5 rfl ?_
    refine e_iconst C d_C_count_6 (v := 5) (by decide) ?_
    refine e_icmp_gt C d_C_count_7 (tgt := 19) (by decide) (fun h7 => ?_) (fun h7 => ?_)
    · exact e_lv2 tail rfl
    · exfalso
      rw [Int32.lt_iff_toInt_lt] at h2 h7
      have e1 : (1 : Int32).toInt = 1 := by decide
      have e5 : (5 : Int32).toInt = 5 := by decide
      rw [e1] at h2
      rw [e5] at h7
      omega
set_option maxRecDepth 100000 in
theorem k_C_count {q : Nat} (hq : q < 14) : Con l G y_C_count c_C_count 2 (some .int) (rz 0 0) [.ref (a 0), .int (nI q)] (cF G a c.1 c.2 n V wr) (DI (ctI c q) (cF G a c.1 c.2 n V wr)) := by
  refine Con.of rfl rfl (fun X C E hR hl hnm => ?_)
  rcases (by omega : q = 0 ∨ q = 1 ∨ q = 2 ∨ q = 3 ∨ q = 4 ∨ q = 5 ∨ q = 6 ∨ q = 7 ∨ q = 8 ∨ q = 9 ∨ q = 10 ∨ q = 11 ∨ q = 12 ∨ q = 13) with rfl | rfl | rfl | rfl | rfl | rfl | rfl | rfl | rfl | rfl | rfl | rfl | rfl | rfl
  · skip
    refine e_iload_n C d_C_count_0 rfl ?_
    refine e_iconst C d_C_count_1 (v := 1) (by decide) ?_
    refine e_icmp_lt C d_C_count_2 (tgt := 19) (by decide) (fun h2 => ?_) (fun h2 => ?_)
    · skip
      refine e_iload_n C d_C_count_19 rfl ?_
      refine e_tableIn C d_C_count_20 (by decide) (by decide) (by decide) (tgt := 92) (by decide) ?_
      refine e_aload_n C d_C_count_92 rfl ?_
      refine e_get C 0 (k := 8) in_C g272 d_C_count_93 rfl rfl rfl rfl ?_
      exact e_iret C E d_C_count_96 (Nat.le_refl _) (Nat.le_refl _) rfl ⟨rfl, rfl⟩
    · exact absurd (by decide) h2
  · skip
    refine e_iload_n C d_C_count_0 rfl ?_
    refine e_iconst C d_C_count_1 (v := 1) (by decide) ?_
    refine e_icmp_lt C d_C_count_2 (tgt := 19) (by decide) (fun h2 => ?_) (fun h2 => ?_)
    · exact absurd h2 (by decide)
    · skip
      refine e_iload_n C d_C_count_5 rfl ?_
      refine e_iconst C d_C_count_6 (v := 5) (by decide) ?_
      refine e_icmp_gt C d_C_count_7 (tgt := 19) (by decide) (fun h7 => ?_) (fun h7 => ?_)
      · exact absurd h7 (by decide)
      · skip
        refine e_aload_n C d_C_count_10 rfl ?_
        refine e_get C 0 (k := 5) in_C g269 d_C_count_11 rfl rfl rfl rfl ?_
        refine e_iload_n C d_C_count_14 rfl ?_
        refine e_iconst C d_C_count_15 (v := 1) (by decide) ?_
        refine e_isub C d_C_count_16 ?_
        refine e_iald C 20 0 d_C_count_17 rfl rfl 0 (by decide) (by omega) (by omega) ?_
        exact e_iret C E d_C_count_18 (Nat.le_refl _) (Nat.le_refl _) rfl ⟨rfl, rfl⟩
  · skip
    refine e_iload_n C d_C_count_0 rfl ?_
    refine e_iconst C d_C_count_1 (v := 1) (by decide) ?_
    refine e_icmp_lt C d_C_count_2 (tgt := 19) (by decide) (fun h2 => ?_) (fun h2 => ?_)
    · exact absurd h2 (by decide)
    · skip
      refine e_iload_n C d_C_count_5 rfl ?_
      refine e_iconst C d_C_count_6 (v := 5) (by decide) ?_
      refine e_icmp_gt C d_C_count_7 (tgt := 19) (by decide) (fun h7 => ?_) (fun h7 => ?_)
      · exact absurd h7 (by decide)
      · skip
        refine e_aload_n C d_C_count_10 rfl ?_
        refine e_get C 0 (k := 5) in_C g269 d_C_count_11 rfl rfl rfl rfl ?_
        refine e_iload_n C d_C_count_14 rfl ?_
        refine e_iconst C d_C_count_15 (v := 1) (by decide) ?_
        refine e_isub C d_C_count_16 ?_
        refine e_iald C 20 0 d_C_count_17 rfl rfl 1 (by decide) (by omega) (by omega) ?_
        exact e_iret C E d_C_count_18 (Nat.le_refl _) (Nat.le_refl _) rfl ⟨rfl, rfl⟩
  · skip
    refine e_iload_n C d_C_count_0 rfl ?_
    refine e_iconst C d_C_count_1 (v := 1) (by decide) ?_
    refine e_icmp_lt C d_C_count_2 (tgt := 19) (by decide) (fun h2 => ?_) (fun h2 => ?_)
    · exact absurd h2 (by decide)
    · skip
      refine e_iload_n C d_C_count_5 rfl ?_
      refine e_iconst C d_C_count_6 (v := 5) (by decide) ?_
      refine e_icmp_gt C d_C_count_7 (tgt := 19) (by decide) (fun h7 => ?_) (fun h7 => ?_)
      · exact absurd h7 (by decide)
      · skip
        refine e_aload_n C d_C_count_10 rfl ?_
        refine e_get C 0 (k := 5) in_C g269 d_C_count_11 rfl rfl rfl rfl ?_
        refine e_iload_n C d_C_count_14 rfl ?_
        refine e_iconst C d_C_count_15 (v := 1) (by decide) ?_
        refine e_isub C d_C_count_16 ?_
        refine e_iald C 20 0 d_C_count_17 rfl rfl 2 (by decide) (by omega) (by omega) ?_
        exact e_iret C E d_C_count_18 (Nat.le_refl _) (Nat.le_refl _) rfl ⟨rfl, rfl⟩
  · skip
    refine e_iload_n C d_C_count_0 rfl ?_
    refine e_iconst C d_C_count_1 (v := 1) (by decide) ?_
    refine e_icmp_lt C d_C_count_2 (tgt := 19) (by decide) (fun h2 => ?_) (fun h2 => ?_)
    · exact absurd h2 (by decide)
    · skip
      refine e_iload_n C d_C_count_5 rfl ?_
      refine e_iconst C d_C_count_6 (v := 5) (by decide) ?_
      refine e_icmp_gt C d_C_count_7 (tgt := 19) (by decide) (fun h7 => ?_) (fun h7 => ?_)
      · exact absurd h7 (by decide)
      · skip
        refine e_aload_n C d_C_count_10 rfl ?_
        refine e_get C 0 (k := 5) in_C g269 d_C_count_11 rfl rfl rfl rfl ?_
        refine e_iload_n C d_C_count_14 rfl ?_
        refine e_iconst C d_C_count_15 (v := 1) (by decide) ?_
        refine e_isub C d_C_count_16 ?_
        refine e_iald C 20 0 d_C_count_17 rfl rfl 3 (by decide) (by omega) (by omega) ?_
        exact e_iret C E d_C_count_18 (Nat.le_refl _) (Nat.le_refl _) rfl ⟨rfl, rfl⟩
  · skip
    refine e_iload_n C d_C_count_0 rfl ?_
    refine e_iconst C d_C_count_1 (v := 1) (by decide) ?_
    refine e_icmp_lt C d_C_count_2 (tgt := 19) (by decide) (fun h2 => ?_) (fun h2 => ?_)
    · exact absurd h2 (by decide)
    · skip
      refine e_iload_n C d_C_count_5 rfl ?_
      refine e_iconst C d_C_count_6 (v := 5) (by decide) ?_
      refine e_icmp_gt C d_C_count_7 (tgt := 19) (by decide) (fun h7 => ?_) (fun h7 => ?_)
      · exact absurd h7 (by decide)
      · skip
        refine e_aload_n C d_C_count_10 rfl ?_
        refine e_get C 0 (k := 5) in_C g269 d_C_count_11 rfl rfl rfl rfl ?_
        refine e_iload_n C d_C_count_14 rfl ?_
        refine e_iconst C d_C_count_15 (v := 1) (by decide) ?_
        refine e_isub C d_C_count_16 ?_
        refine e_iald C 20 0 d_C_count_17 rfl rfl 4 (by decide) (by omega) (by omega) ?_
        exact e_iret C E d_C_count_18 (Nat.le_refl _) (Nat.le_refl _) rfl ⟨rfl, rfl⟩
  · skip
    refine e_iload_n C d_C_count_0 rfl ?_
    refine e_iconst C d_C_count_1 (v := 1) (by decide) ?_
    refine e_icmp_lt C d_C_count_2 (tgt := 19) (by decide) (fun h2 => ?_) (fun h2 => ?_)
    · exact absurd h2 (by decide)
    · skip
      refine e_iload_n C d_C_count_5 rfl ?_
      refine e_iconst C d_C_count_6 (v := 5) (by decide) ?_
      refine e_icmp_gt C d_C_count_7 (tgt := 19) (by decide) (fun h7 => ?_) (fun h7 => ?_)
      · skip
        refine e_iload_n C d_C_count_19 rfl ?_
        refine e_tableIn C d_C_count_20 (by decide) (by decide) (by decide) (tgt := 97) (by decide) ?_
        refine e_aload_n C d_C_count_97 rfl ?_
        refine e_get C 0 (k := 9) in_C g273 d_C_count_98 rfl rfl rfl rfl ?_
        exact e_iret C E d_C_count_101 (Nat.le_refl _) (Nat.le_refl _) rfl ⟨rfl, rfl⟩
      · exact absurd (by decide) h7
  · skip
    refine e_iload_n C d_C_count_0 rfl ?_
    refine e_iconst C d_C_count_1 (v := 1) (by decide) ?_
    refine e_icmp_lt C d_C_count_2 (tgt := 19) (by decide) (fun h2 => ?_) (fun h2 => ?_)
    · exact absurd h2 (by decide)
    · skip
      refine e_iload_n C d_C_count_5 rfl ?_
      refine e_iconst C d_C_count_6 (v := 5) (by decide) ?_
      refine e_icmp_gt C d_C_count_7 (tgt := 19) (by decide) (fun h7 => ?_) (fun h7 => ?_)
      · skip
        refine e_iload_n C d_C_count_19 rfl ?_
        refine e_tableIn C d_C_count_20 (by decide) (by decide) (by decide) (tgt := 102) (by decide) ?_
        refine e_aload_n C d_C_count_102 rfl ?_
        refine e_get C 0 (k := 10) in_C g274 d_C_count_103 rfl rfl rfl rfl ?_
        exact e_iret C E d_C_count_106 (Nat.le_refl _) (Nat.le_refl _) rfl ⟨rfl, rfl⟩
      · exact absurd (by decide) h7
  · skip
    refine e_iload_n C d_C_count_0 rfl ?_
    refine e_iconst C d_C_count_1 (v := 1) (by decide) ?_
    refine e_icmp_lt C d_C_count_2 (tgt := 19) (by decide) (fun h2 => ?_) (fun h2 => ?_)
    · exact absurd h2 (by decide)
    · skip
      refine e_iload_n C d_C_count_5 rfl ?_
      refine e_iconst C d_C_count_6 (v := 5) (by decide) ?_
      refine e_icmp_gt C d_C_count_7 (tgt := 19) (by decide) (fun h7 => ?_) (fun h7 => ?_)
      · skip
        refine e_iload_n C d_C_count_19 rfl ?_
        refine e_tableIn C d_C_count_20 (by decide) (by decide) (by decide) (tgt := 107) (by decide) ?_
        refine e_aload_n C d_C_count_107 rfl ?_
        refine e_get C 0 (k := 11) in_C g275 d_C_count_108 rfl rfl rfl rfl ?_
        exact e_iret C E d_C_count_111 (Nat.le_refl _) (Nat.le_refl _) rfl ⟨rfl, rfl⟩
      · exact absurd (by decide) h7
  · skip
    refine e_iload_n C d_C_count_0 rfl ?_
    refine e_iconst C d_C_count_1 (v := 1) (by decide) ?_
    refine e_icmp_lt C d_C_count_2 (tgt := 19) (by decide) (fun h2 => ?_) (fun h2 => ?_)
    · exact absurd h2 (by decide)
    · skip
      refine e_iload_n C d_C_count_5 rfl ?_
      refine e_iconst C d_C_count_6 (v := 5) (by decide) ?_
      refine e_icmp_gt C d_C_count_7 (tgt := 19) (by decide) (fun h7 => ?_) (fun h7 => ?_)
      · skip
        refine e_iload_n C d_C_count_19 rfl ?_
        refine e_tableIn C d_C_count_20 (by decide) (by decide) (by decide) (tgt := 112) (by decide) ?_
        refine e_aload_n C d_C_count_112 rfl ?_
        refine e_get C 0 (k := 1) in_C g265 d_C_count_113 rfl rfl rfl rfl ?_
        refine e_get C 7 (k := 4) in_Rows g90 d_C_count_116 rfl rfl rfl rfl ?_
        exact e_iret C E d_C_count_119 (Nat.le_refl _) (Nat.le_refl _) rfl ⟨rfl, rfl⟩
      · exact absurd (by decide) h7
  · skip
    refine e_iload_n C d_C_count_0 rfl ?_
    refine e_iconst C d_C_count_1 (v := 1) (by decide) ?_
    refine e_icmp_lt C d_C_count_2 (tgt := 19) (by decide) (fun h2 => ?_) (fun h2 => ?_)
    · exact absurd h2 (by decide)
    · skip
      refine e_iload_n C d_C_count_5 rfl ?_
      refine e_iconst C d_C_count_6 (v := 5) (by decide) ?_
      refine e_icmp_gt C d_C_count_7 (tgt := 19) (by decide) (fun h7 => ?_) (fun h7 => ?_)
      · skip
        refine e_iload_n C d_C_count_19 rfl ?_
        refine e_tableIn C d_C_count_20 (by decide) (by decide) (by decide) (tgt := 120) (by decide) ?_
        refine e_aload_n C d_C_count_120 rfl ?_
        refine e_get C 0 (k := 3) in_C g267 d_C_count_121 rfl rfl rfl rfl ?_
        refine e_get C 11 (k := 5) in_Asks g223 d_C_count_124 rfl rfl rfl rfl ?_
        exact e_iret C E d_C_count_127 (Nat.le_refl _) (Nat.le_refl _) rfl ⟨rfl, rfl⟩
      · exact absurd (by decide) h7
  · skip
    refine e_iload_n C d_C_count_0 rfl ?_
    refine e_iconst C d_C_count_1 (v := 1) (by decide) ?_
    refine e_icmp_lt C d_C_count_2 (tgt := 19) (by decide) (fun h2 => ?_) (fun h2 => ?_)
    · exact absurd h2 (by decide)
    · skip
      refine e_iload_n C d_C_count_5 rfl ?_
      refine e_iconst C d_C_count_6 (v := 5) (by decide) ?_
      refine e_icmp_gt C d_C_count_7 (tgt := 19) (by decide) (fun h7 => ?_) (fun h7 => ?_)
      · skip
        refine e_iload_n C d_C_count_19 rfl ?_
        refine e_tableIn C d_C_count_20 (by decide) (by decide) (by decide) (tgt := 128) (by decide) ?_
        refine e_aload_n C d_C_count_128 rfl ?_
        refine e_get C 0 (k := 3) in_C g267 d_C_count_129 rfl rfl rfl rfl ?_
        refine e_get C 11 (k := 6) in_Asks g225 d_C_count_132 rfl rfl rfl rfl ?_
        exact e_iret C E d_C_count_135 (Nat.le_refl _) (Nat.le_refl _) rfl ⟨rfl, rfl⟩
      · exact absurd (by decide) h7
  · skip
    refine e_iload_n C d_C_count_0 rfl ?_
    refine e_iconst C d_C_count_1 (v := 1) (by decide) ?_
    refine e_icmp_lt C d_C_count_2 (tgt := 19) (by decide) (fun h2 => ?_) (fun h2 => ?_)
    · exact absurd h2 (by decide)
    · skip
      refine e_iload_n C d_C_count_5 rfl ?_
      refine e_iconst C d_C_count_6 (v := 5) (by decide) ?_
      refine e_icmp_gt C d_C_count_7 (tgt := 19) (by decide) (fun h7 => ?_) (fun h7 => ?_)
      · skip
        refine e_iload_n C d_C_count_19 rfl ?_
        refine e_tableIn C d_C_count_20 (by decide) (by decide) (by decide) (tgt := 136) (by decide) ?_
        refine e_aload_n C d_C_count_136 rfl ?_
        refine e_get C 0 (k := 0) in_C g264 d_C_count_137 rfl rfl rfl rfl ?_
        refine e_get C 1 (k := 0) in_Ways g41 d_C_count_140 rfl rfl rfl rfl ?_
        exact e_iret C E d_C_count_143 (Nat.le_refl _) (Nat.le_refl _) rfl ⟨rfl, rfl⟩
      · exact absurd (by decide) h7
  · skip
    refine e_iload_n C d_C_count_0 rfl ?_
    refine e_iconst C d_C_count_1 (v := 1) (by decide) ?_
    refine e_icmp_lt C d_C_count_2 (tgt := 19) (by decide) (fun h2 => ?_) (fun h2 => ?_)
    · exact absurd h2 (by decide)
    · skip
      refine e_iload_n C d_C_count_5 rfl ?_
      refine e_iconst C d_C_count_6 (v := 5) (by decide) ?_
      refine e_icmp_gt C d_C_count_7 (tgt := 19) (by decide) (fun h7 => ?_) (fun h7 => ?_)
      · skip
        refine e_iload_n C d_C_count_19 rfl ?_
        refine e_tableIn C d_C_count_20 (by decide) (by decide) (by decide) (tgt := 144) (by decide) ?_
        refine e_aload_n C d_C_count_144 rfl ?_
        refine e_get C 0 (k := 0) in_C g264 d_C_count_145 rfl rfl rfl rfl ?_
        refine e_get C 1 (k := 1) in_Ways g43 d_C_count_148 rfl rfl rfl rfl ?_
        exact e_iret C E d_C_count_151 (Nat.le_refl _) (Nat.le_refl _) rfl ⟨rfl, rfl⟩
      · exact absurd (by decide) h7
end CPub2
