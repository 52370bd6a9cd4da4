/-! THE REFERENCE: next, ask, answer -/
def fullB (m : CS) (wd s : Nat) : Bool := (fst1 (fun k => m.2 7 k == 0) (8 * s) wd).isNone
def freeB (m : CS) (wd s : Nat) : Bool := (fst1 (fun k => m.2 11 k == 0) (8 * s) wd).isSome
theorem bit_iff {x : Int32} (hx : NB x) {p : Nat} (hp : p < 4) : ((x >>> (nI p &&& 31)) &&& 1 = 1) ↔ ¬ (x &&& bitI p = 0) := by
  have key : ∀ b, b < 16 → ∀ p, p < 4 → (((nI b >>> (nI p &&& 31)) &&& 1 = 1) ↔ ¬ (nI b &&& bitI p = 0)) := by decide +kernel
  obtain ⟨b, hb, rfl⟩ := hx
  exact key b hb p hp
def hitM (S wd : Nat) (m : CS) (x : Int32) (p : Nat) : Bool := match fdM S wd m x with
  | none => false
  | some r => !(m.2 9 r &&& bitI p == 0)
def wtM (m : CS) (n : Nat) (x : Int32) : Bool := (fst1 (fun k => m.2 26 k == x) 0 n).isSome
/-- an ask is added -/
def as2 (m : CS) (n : Nat) (x : Int32) (p : Nat) : CS := (upd (th0 m).1 25 (nI (n + 1)), up2 (up2 m.2 26 (upd (m.2 26) n x)) 27 (upd (m.2 27) n (nI p)))
section M8
variable {l : Launch} {G : EG} {a : Nat → Nat} {m : CS} {S wd V kd s w z : Nat} {ws : va_W}
theorem k_M_next1 (h : MD m.1 S wd V kd) {x : Int32} (ho : OUT x S) : Con l G y_M_next c_M_next 5 (some .int) (rz 3 67) [.ref (a 40), .int x] (mF G a m.1 m.2) (DI 0 (mF G a (upd (th0 m).1 0 1) m.2)) := by
  refine Con.of rfl rfl (fun X C E hR hl hnm => ?_)
  have hS := h.S16
  refine e_aload_n C d_M_next_0 rfl ?_
  refine e_iconst C d_M_next_1 (v := 0) (by decide) ?_
  refine e_put C 0 (k := 0) in_M tk_M nm_M g744 d_M_next_2 rfl rfl rfl rfl rfl rfl rfl rfl ?_
  refine e_eq (ws' := mF G a (th0 m).1 (th0 m).2) rfl ?_
  refine e_iload_n C d_M_next_5 rfl ?_
  refine e_iconst C d_M_next_6 (v := 0) (by decide) ?_
  refine e_aload_n C d_M_next_7 rfl ?_
  refine e_get C 0 (k := 1) in_M g745 d_M_next_8 rfl rfl rfl rfl ?_
  refine e_top (show _ = nI S from h.1) ?_
  refine e_iconst C d_M_next_11 (v := 1) (by decide) ?_
  refine e_isub C d_M_next_12 ?_
  refine e_cSi C hR (k_M_within _ _ _) g867 g14 g865 g866 d_M_next_13 rfl ey_M_within rfl rfl ⟨Nat.zero_le _, Nat.zero_le _⟩ ?_
  refine e_if_ne C d_M_next_16 (tgt := 25) (by decide) (fun h16 => ?_) (fun h16 => ?_)
  · rw [bI_n, within_f (by omega) ho] at h16
    cases h16
  · skip
    refine e_aload_n C d_M_next_19 rfl ?_
    refine e_iconst C d_M_next_20 (v := 1) (by decide) ?_
    refine e_cVi C hR 0 (k_M_fail 1) g985 g14 g982 g984 (gt_sel 38 (by decide +kernel) (by decide +kernel)) d_M_next_21 rfl ey_M_fail rfl rfl rfl rfl ⟨Nat.zero_le _, Nat.zero_le _⟩ ?_
    exact e_iret C E d_M_next_24 (Nat.le_refl _) (Nat.le_refl _) rfl ⟨rfl, rfl⟩
set_option maxRecDepth 100000 in
theorem k_M_next (h : MI S wd V kd m) {s : Nat} (hs : s < S) {q : Int32} {m' : CS} (hq : (fullB m wd s && freeB m wd s) = false → q = -1 ∧ m' = th0 m) (hp : (fullB m wd s && freeB m wd s) = true → ∃ r, pkS wd kd (th0 m) s false = some (m', r) ∧ q = nI (r - 8 * s)) :
    Con l G y_M_next c_M_next 5 (some .int) (rz 3 67) [.ref (a 40), .int (nI s)] (mF G a m.1 m.2) (DI q (mF G a m'.1 m'.2)) := by
  refine Con.of rfl rfl (fun X C E hR hl hnm => ?_)
  have h0 := th0_MI h
  have hD := h.1
  have hS := hD.S16
  have hw8 := hD.w8
  unfold fullB freeB at hq hp
  rw [← nnB_t, ← anB_f] at hq hp
  refine e_aload_n C d_M_next_0 rfl ?_
  refine e_iconst C d_M_next_1 (v := 0) (by decide) ?_
  refine e_put C 0 (k := 0) in_M tk_M nm_M g744 d_M_next_2 rfl rfl rfl rfl rfl rfl rfl rfl ?_
  refine e_eq (ws' := mF G a (th0 m).1 (th0 m).2) rfl ?_
  refine e_iload_n C d_M_next_5 rfl ?_
  refine e_iconst C d_M_next_6 (v := 0) (by decide) ?_
  refine e_aload_n C d_M_next_7 rfl ?_
  refine e_get C 0 (k := 1) in_M g745 d_M_next_8 rfl rfl rfl rfl ?_
  refine e_top (show _ = nI S from hD.1) ?_
  refine e_iconst C d_M_next_11 (v := 1) (by decide) ?_
  refine e_isub C d_M_next_12 ?_
  refine e_cSi C hR (k_M_within _ _ _) g867 g14 g865 g866 d_M_next_13 rfl ey_M_within rfl rfl ⟨Nat.zero_le _, Nat.zero_le _⟩ ?_
  refine e_if_ne C d_M_next_16 (tgt := 25) (by decide) (fun h16 => ?_) (fun h16 => ?_)
  · skip
    refine e_iconst C d_M_next_25 (v := 1) (by decide) ?_
    refine e_istore_n C d_M_next_26 rfl ?_
    refine e_iconst C d_M_next_27 (v := 0) (by decide) ?_
    refine e_istore_n C d_M_next_28 rfl ?_
    refine e_bipush C d_M_next_29 (v := nI 8) (by decide) ?_
    refine e_iload_n C d_M_next_31 rfl ?_
    refine e_imul C d_M_next_32 ?_
    refine e_top (pk_mul _ _) ?_
    refine e_istore C d_M_next_33 rfl ?_
    have fin : ∀ b1 b2 : Bool, b1 = nnB (fun k => m.2 7 k == 0) true (8 * s) wd → b2 = anB (fun k => m.2 11 k == 0) false (8 * s) wd → EW X G 5 0 0 95 [(0, .ref (a 40)), (1, .int (nI s)), (2, .int (bI b1)), (3, .int (bI b2))] [] (mF G a (th0 m).1 (th0 m).2) := by
      intro b1 b2 e1 e2
      rw [← e1, ← e2] at hq hp
      refine e_iload_n C d_M_next_95 rfl ?_
      refine e_if_eq C d_M_next_96 (tgt := 120) (by decide) (fun h96 => ?_) (fun h96 => ?_)
      · rw [bI_0] at h96
        obtain ⟨rfl, rfl⟩ := hq (by rw [h96]; rfl)
        refine e_iconst C d_M_next_120 (v := (-1)) (by decide) ?_
        exact e_iret C E d_M_next_121 (Nat.le_refl _) (Nat.le_refl _) rfl ⟨rfl, rfl⟩
      · rw [bI_n] at h96
        refine e_iload_n C d_M_next_99 rfl ?_
        refine e_if_eq C d_M_next_100 (tgt := 120) (by decide) (fun h100 => ?_) (fun h100 => ?_)
        · rw [bI_0] at h100
          obtain ⟨rfl, rfl⟩ := hq (by rw [h100, Bool.and_false])
          refine e_iconst C d_M_next_120 (v := (-1)) (by decide) ?_
          exact e_iret C E d_M_next_121 (Nat.le_refl _) (Nat.le_refl _) rfl ⟨rfl, rfl⟩
        · rw [bI_n] at h100
          obtain ⟨r, hr, rfl⟩ := hp (by rw [h96, h100]; rfl)
          have hrg := pkS_rng hw8.1 hD.2.2.2.2.2.2.2 h0.2.1 (show s < 16 by omega) hr
          refine e_aload_n C d_M_next_103 rfl ?_
          refine e_bipush C d_M_next_104 (v := nI 8) (by decide) ?_
          refine e_iload_n C d_M_next_106 rfl ?_
          refine e_imul C d_M_next_107 ?_
          refine e_top (pk_mul _ _) ?_
          refine e_iconst C d_M_next_108 (v := bI false) (by decide) ?_
          refine e_cVi C hR 0 (k_M_pick h0.1 h0.2.1 (show s < 16 by omega) false hr) g935 g14 g932 g934 (gt_sel 27 (by decide +kernel) (by decide +kernel)) d_M_next_109 rfl ey_M_pick rfl rfl rfl rfl ⟨Nat.zero_le _, Nat.zero_le _⟩ ?_
          refine e_bipush C d_M_next_112 (v := nI 8) (by decide) ?_
          refine e_iload_n C d_M_next_114 rfl ?_
          refine e_imul C d_M_next_115 ?_
          refine e_top (pk_mul _ _) ?_
          refine e_isub C d_M_next_116 ?_
          refine e_top (pk_sub hrg.1) ?_
          refine e_goto C d_M_next_117 (tgt := 121) (by decide) ?_
          exact e_iret C E d_M_next_121 (Nat.le_refl _) (Nat.le_refl _) rfl ⟨rfl, rfl⟩
    have L : ∀ (t k : Nat) (b1 b2 : Bool), k + t = 8 * s + wd → 8 * s ≤ k → nnB (fun k => m.2 7 k == 0) b1 k t = nnB (fun k => m.2 7 k == 0) true (8 * s) wd → anB (fun k => m.2 11 k == 0) b2 k t = anB (fun k => m.2 11 k == 0) false (8 * s) wd → EW X G 5 0 0 35 [(0, .ref (a 40)), (1, .int (nI s)), (2, .int (bI b1)), (3, .int (bI b2)), (4, .int (nI k))] [] (mF G a (th0 m).1 (th0 m).2) := by
      intro t
      induction t with
      | zero =>
        intro k b1 b2 hk hk2 e1 e2
        have e1 : b1 = _ := e1
        have e2 : b2 = _ := e2
        refine e_iload C d_M_next_35 rfl ?_
        refine e_bipush C d_M_next_37 (v := nI 8) (by decide) ?_
        refine e_iload_n C d_M_next_39 rfl ?_
        refine e_imul C d_M_next_40 ?_
        refine e_top (pk_mul _ _) ?_
        refine e_aload_n C d_M_next_41 rfl ?_
        refine e_get C 0 (k := 2) in_M g746 d_M_next_42 rfl rfl rfl rfl ?_
        refine e_top (show _ = nI wd from hD.2.1) ?_
        refine e_iadd C d_M_next_45 ?_
        refine e_top (nI_add _ _) ?_
        refine e_icmp_ge C d_M_next_46 (tgt := 95) (by decide) (fun h46 => ?_) (fun h46 => ?_)
        · exact e_lv2 (fin b1 b2 e1 e2) rfl
        · exact absurd (nI_le (by omega) (by omega)) h46
      | succ t ih =>
        intro k b1 b2 hk hk2 e1 e2
        rw [nnB] at e1
        rw [anB] at e2
        have two : ∀ c1 : Bool, c1 = (b1 && !(m.2 7 k == 0)) → EW X G 5 0 0 68 [(0, .ref (a 40)), (1, .int (nI s)), (3, .int (bI b2)), (4, .int (nI k))] [.int (bI c1)] (mF G a (th0 m).1 (th0 m).2) := by
          intro c1 ec
          rw [← ec] at e1
          have three : ∀ c2 : Bool, c2 = (b2 || (m.2 11 k == 0)) → EW X G 5 0 0 88 [(0, .ref (a 40)), (1, .int (nI s)), (2, .int (bI c1)), (4, .int (nI k))] [.int (bI c2)] (mF G a (th0 m).1 (th0 m).2) := by
            intro c2 ec2
            rw [← ec2] at e2
            refine e_istore_n C d_M_next_88 rfl ?_
            refine e_iinc C d_M_next_89 rfl (nI_1 k) rfl ?_
            refine e_goto C d_M_next_92 (tgt := 35) (by decide) ?_
            exact e_lv2 (ih (k + 1) c1 c2 (by omega) (by omega) e1 e2) rfl
          refine e_istore_n C d_M_next_68 rfl ?_
          refine e_iload_n C d_M_next_69 rfl ?_
          refine e_if_ne C d_M_next_70 (tgt := 83) (by decide) (fun h70 => ?_) (fun h70 => ?_)
          · rw [bI_n] at h70
            refine e_iconst C d_M_next_83 (v := 1) (by decide) ?_
            refine e_goto C d_M_next_84 (tgt := 88) (by decide) ?_
            exact e_lv2 (three true (by rw [h70]; rfl)) rfl
          · rw [bI_0] at h70
            refine e_aload_n C d_M_next_73 rfl ?_
            refine e_get C 0 (k := 11) in_M g755 d_M_next_74 rfl rfl rfl rfl ?_
            refine e_iload C d_M_next_77 rfl ?_
            refine e_zald C 5 1 d_M_next_79 rfl rfl k rfl (by omega) (by omega) ?_
            refine e_if_ne C d_M_next_80 (tgt := 87) (by decide) (fun h80 => ?_) (fun h80 => ?_)
            · skip
              refine e_iconst C d_M_next_87 (v := 0) (by decide) ?_
              exact e_lv2 (three false (by rw [h70, Bool.false_or]; symm; simp; exact h80)) rfl
            · skip
              refine e_iconst C d_M_next_83 (v := 1) (by decide) ?_
              refine e_goto C d_M_next_84 (tgt := 88) (by decide) ?_
              exact e_lv2 (three true (by rw [h70, Bool.false_or]; symm; simp; exact h80)) rfl
        refine e_iload C d_M_next_35 rfl ?_
        refine e_bipush C d_M_next_37 (v := nI 8) (by decide) ?_
        refine e_iload_n C d_M_next_39 rfl ?_
        refine e_imul C d_M_next_40 ?_
        refine e_top (pk_mul _ _) ?_
        refine e_aload_n C d_M_next_41 rfl ?_
        refine e_get C 0 (k := 2) in_M g746 d_M_next_42 rfl rfl rfl rfl ?_
        refine e_top (show _ = nI wd from hD.2.1) ?_
        refine e_iadd C d_M_next_45 ?_
        refine e_top (nI_add _ _) ?_
        refine e_icmp_ge C d_M_next_46 (tgt := 95) (by decide) (fun h46 => ?_) (fun h46 => ?_)
        · exact absurd h46 (nI_ge (by omega) (by omega))
        · skip
          refine e_iload_n C d_M_next_49 rfl ?_
          refine e_if_eq C d_M_next_50 (tgt := 67) (by decide) (fun h50 => ?_) (fun h50 => ?_)
          · rw [bI_0] at h50
            refine e_iconst C d_M_next_67 (v := 0) (by decide) ?_
            exact e_lv2 (two false (by rw [h50]; rfl)) rfl
          · rw [bI_n] at h50
            refine e_aload_n C d_M_next_53 rfl ?_
            refine e_get C 0 (k := 7) in_M g751 d_M_next_54 rfl rfl rfl rfl ?_
            refine e_iload C d_M_next_57 rfl ?_
            refine e_zald C 1 1 d_M_next_59 rfl rfl k rfl (by omega) (by omega) ?_
            refine e_if_eq C d_M_next_60 (tgt := 67) (by decide) (fun h60 => ?_) (fun h60 => ?_)
            · skip
              refine e_iconst C d_M_next_67 (v := 0) (by decide) ?_
              exact e_lv2 (two false (by rw [h50, Bool.true_and]; symm; simp; exact h60)) rfl
            · skip
              refine e_iconst C d_M_next_63 (v := 1) (by decide) ?_
              refine e_goto C d_M_next_64 (tgt := 68) (by decide) ?_
              exact e_lv2 (two true (by rw [h50, Bool.true_and]; symm; simp; exact h60)) rfl
    exact e_lv2 (L wd (8 * s) true false rfl (Nat.le_refl _) rfl rfl) rfl
  · rw [bI_0, within_tn hs (by omega)] at h16
    cases h16
theorem k_M_ask1 (x : Int32) {p : Int32} (ho : OUT p 4) : Con l G y_M_ask c_M_ask 6 (some .int) (rz 7 168) [.ref (a 40), .int x, .int p] (mF G a m.1 m.2) (DI 0 (mF G a (upd (th0 m).1 0 1) m.2)) := by
  refine Con.of rfl rfl (fun X C E hR hl hnm => ?_)
  refine e_aload_n C d_M_ask_0 rfl ?_
  refine e_iconst C d_M_ask_1 (v := 0) (by decide) ?_
  refine e_put C 0 (k := 0) in_M tk_M nm_M g744 d_M_ask_2 rfl rfl rfl rfl rfl rfl rfl rfl ?_
  refine e_eq (ws' := mF G a (th0 m).1 (th0 m).2) rfl ?_
  refine e_iload_n C d_M_ask_5 rfl ?_
  refine e_iconst C d_M_ask_6 (v := 0) (by decide) ?_
  refine e_iconst C d_M_ask_7 (v := 3) (by decide) ?_
  refine e_cSi C hR (k_M_within _ _ _) g867 g14 g865 g866 d_M_ask_8 rfl ey_M_within rfl rfl ⟨Nat.zero_le _, Nat.zero_le _⟩ ?_
  refine e_if_ne C d_M_ask_11 (tgt := 20) (by decide) (fun h11 => ?_) (fun h11 => ?_)
  · rw [bI_n] at h11
    have := within_f (n := 4) (by omega) ho
    rw [show nI 4 - 1 = (3 : Int32) by decide] at this
    rw [this] at h11
    cases h11
  · skip
    refine e_aload_n C d_M_ask_14 rfl ?_
    refine e_iconst C d_M_ask_15 (v := 1) (by decide) ?_
    refine e_cVi C hR 0 (k_M_fail 1) g985 g14 g982 g984 (gt_sel 38 (by decide +kernel) (by decide +kernel)) d_M_ask_16 rfl ey_M_fail rfl rfl rfl rfl ⟨Nat.zero_le _, Nat.zero_le _⟩ ?_
    exact e_iret C E d_M_ask_19 (Nat.le_refl _) (Nat.le_refl _) rfl ⟨rfl, rfl⟩
set_option maxRecDepth 100000 in
theorem k_M_askHit (h : MI S wd V kd m) (h9 : ∀ j, NB (m.2 9 j)) (x : Int32) {p : Nat} (hp4 : p < 4) (hh : hitM S wd m x p = true) {m' : CS} {q : Int32} (hp : aoM S wd V kd (th0 m) x p 0 = some (m', q)) : Con l G y_M_ask c_M_ask 6 (some .int) (rz 7 168) [.ref (a 40), .int x, .int (nI p)] (mF G a m.1 m.2) (DI q (mF G a m'.1 m'.2)) := by
  refine Con.of rfl rfl (fun X C E hR hl hnm => ?_)
  have hD := h.1
  have hS := hD.S16
  have hw8 := hD.w8
  have hsn := hD.lt x
  unfold hitM fdM at hh
  refine e_aload_n C d_M_ask_0 rfl ?_
  refine e_iconst C d_M_ask_1 (v := 0) (by decide) ?_
  refine e_put C 0 (k := 0) in_M tk_M nm_M g744 d_M_ask_2 rfl rfl rfl rfl rfl rfl rfl rfl ?_
  refine e_eq (ws' := mF G a (th0 m).1 (th0 m).2) rfl ?_
  refine e_iload_n C d_M_ask_5 rfl ?_
  refine e_iconst C d_M_ask_6 (v := nI 0) (by decide) ?_
  refine e_iconst C d_M_ask_7 (v := nI 3) (by decide) ?_
  refine e_cSi C hR (k_M_within _ _ _) g867 g14 g865 g866 d_M_ask_8 rfl ey_M_within rfl rfl ⟨Nat.zero_le _, Nat.zero_le _⟩ ?_
  refine e_if_ne C d_M_ask_11 (tgt := 20) (by decide) (fun h11 => ?_) (fun h11 => ?_)
  · skip
    refine e_aload_n C d_M_ask_20 rfl ?_
    refine e_iload_n C d_M_ask_21 rfl ?_
    refine e_cVi C hR 0 (k_M_find (m := th0 m) hD x) g879 g14 g876 g878 (gt_sel 13 (by decide +kernel) (by decide +kernel)) d_M_ask_22 rfl ey_M_find rfl rfl rfl rfl ⟨Nat.zero_le _, Nat.zero_le _⟩ ?_
    refine e_istore_n C d_M_ask_25 rfl ?_
    refine e_iload_n C d_M_ask_26 rfl ?_
    refine e_if_lt C d_M_ask_27 (tgt := 52) (by decide) (fun h27 => ?_) (fun h27 => ?_)
    · rw [oI_lt (lb (by omega))] at h27
      rw [show lstG (hasM m.2 x) none (8 * sN S x) wd = none from h27] at hh
      cases hh
    · rw [oI_lt (lb (by omega))] at h27
      obtain ⟨r, hr⟩ := Option.ne_none_iff_exists'.mp h27
      have hr : lstG (hasM m.2 x) none (8 * sN S x) wd = some r := hr
      have hr2 := lstG_rng (lo := 8 * sN S x) (hi := 8 * sN S x + wd) (Nat.le_refl _) (Nat.le_refl _) (fun j hj => by cases hj) hr
      rw [hr] at hh
      have hh : ¬ m.2 9 r &&& bitI p = 0 := by simpa using hh
      refine e_lv [(0, .ref (a 40)), (1, .int x), (2, .int (nI p)), (3, .int (nI r))] (by rw [show lstG (hasM (th0 m).2 x) none (8 * sN S x) wd = some r from hr]; rfl) ?_
      refine e_aload_n C d_M_ask_30 rfl ?_
      refine e_get C 0 (k := 9) in_M g753 d_M_ask_31 rfl rfl rfl rfl ?_
      refine e_iload_n C d_M_ask_34 rfl ?_
      refine e_iald C 3 0 d_M_ask_35 rfl rfl r rfl (by omega) (by omega) ?_
      refine e_iload_n C d_M_ask_36 rfl ?_
      refine e_ishr C d_M_ask_37 ?_
      refine e_iconst C d_M_ask_38 (v := 1) (by decide) ?_
      refine e_iand C d_M_ask_39 ?_
      refine e_iconst C d_M_ask_40 (v := 1) (by decide) ?_
      refine e_icmp_ne C d_M_ask_41 (tgt := 52) (by decide) (fun h41 => ?_) (fun h41 => ?_)
      · exact absurd ((bit_iff (h9 r) hp4).mpr hh) h41
      · skip
        refine e_aload_n C d_M_ask_44 rfl ?_
        refine e_iload_n C d_M_ask_45 rfl ?_
        refine e_iload_n C d_M_ask_46 rfl ?_
        refine e_iconst C d_M_ask_47 (v := 0) (by decide) ?_
        refine e_cVi C hR 0 (k_M_accessOf (th0_MI h) x hp4 0 hp) g871 g14 g868 g870 (gt_sel 11 (by decide +kernel) (by decide +kernel)) d_M_ask_48 rfl ey_M_accessOf rfl rfl rfl rfl ⟨Nat.zero_le _, Nat.zero_le _⟩ ?_
        exact e_iret C E d_M_ask_51 (Nat.le_refl _) (Nat.le_refl _) rfl ⟨rfl, rfl⟩
  · rw [bI_0, within_t (lo := 0) (by omega) (show p ≤ 3 by omega) (by omega)] at h11
    cases h11
set_option maxRecDepth 100000 in
theorem ask_rest {X : EX} (C : EC X G "CacheRulesModel" c_M_ask 6) (hR : X.R = rz 7 168) {n p : Nat} (hn : m.1 25 = nI n) (hn16 : n ≤ 16) (x : Int32) {W' : va_W} {q : Int32} (E : ER X G 0 0 (DI q W') (some .int))
    (hF : (n = 16 ∨ wtM m n x = false ∧ lnN (m.2 26) n = 4) → q = 0 ∧ W' = mF G a (upd (th0 m).1 0 2) m.2) (hW : ¬ (n = 16 ∨ wtM m n x = false ∧ lnN (m.2 26) n = 4) → q = (if wtM m n x then 2 else 1) ∧ W' = mF G a (as2 m n x p).1 (as2 m n x p).2) :
    EW X G 6 0 0 52 [(0, .ref (a 40)), (1, .int x), (2, .int (nI p))] [] (mF G a (th0 m).1 (th0 m).2) := by
  have hle := lnN_le (m.2 26) n
  refine e_iconst C d_M_ask_52 (v := 0) (by decide) ?_
  refine e_istore C d_M_ask_53 rfl ?_
  refine e_iconst C d_M_ask_55 (v := 0) (by decide) ?_
  refine e_istore C d_M_ask_56 rfl ?_
  have fin : ∀ b : Bool, b = wtM m n x → EW X G 6 0 0 96 [(0, .ref (a 40)), (1, .int x), (2, .int (nI p)), (4, .int (bI b))] [] (mF G a (th0 m).1 (th0 m).2) := by
    intro b eb
    rw [← eb] at hF hW
    have bad : (n = 16 ∨ b = false ∧ lnN (m.2 26) n = 4) → EW X G 6 0 0 118 [(0, .ref (a 40))] [] (mF G a (th0 m).1 (th0 m).2) := by
      intro hb
      obtain ⟨rfl, rfl⟩ := hF hb
      refine e_aload_n C d_M_ask_118 rfl ?_
      refine e_iconst C d_M_ask_119 (v := 2) (by decide) ?_
      refine e_cVi C hR 0 (k_M_fail (m := th0 m) 2) g985 g14 g982 g984 (gt_sel 38 (by decide +kernel) (by decide +kernel)) d_M_ask_120 rfl ey_M_fail rfl rfl rfl rfl ⟨Nat.zero_le _, Nat.zero_le _⟩ ?_
      exact e_iret C E d_M_ask_123 (Nat.le_refl _) (Nat.le_refl _) rfl ⟨rfl, rfl⟩
    have good : ¬ (n = 16 ∨ b = false ∧ lnN (m.2 26) n = 4) → EW X G 6 0 0 124 [(0, .ref (a 40)), (1, .int x), (2, .int (nI p)), (4, .int (bI b))] [] (mF G a (th0 m).1 (th0 m).2) := by
      intro hb
      obtain ⟨rfl, rfl⟩ := hW hb
      have hlt : n < 16 := by omega
      refine e_aload_n C d_M_ask_124 rfl ?_
      refine e_get C 0 (k := 26) in_M g770 d_M_ask_125 rfl rfl rfl rfl ?_
      refine e_aload_n C d_M_ask_128 rfl ?_
      refine e_get C 0 (k := 25) in_M g769 d_M_ask_129 rfl rfl rfl rfl ?_
      refine e_iload_n C d_M_ask_132 rfl ?_
      refine e_iast C 16 0 d_M_ask_133 rfl rfl n (show _ = nI n from hn) hlt (by omega) ?_
      refine e_aload_n C d_M_ask_134 rfl ?_
      refine e_get C 0 (k := 27) in_M g771 d_M_ask_135 rfl rfl rfl rfl ?_
      refine e_aload_n C d_M_ask_138 rfl ?_
      refine e_get C 0 (k := 25) in_M g769 d_M_ask_139 rfl rfl rfl rfl ?_
      refine e_iload_n C d_M_ask_142 rfl ?_
      refine e_iast C 17 0 d_M_ask_143 rfl rfl n (show _ = nI n from hn) hlt (by omega) ?_
      refine e_aload_n C d_M_ask_144 rfl ?_
      refine e_dup C d_M_ask_145 rfl ?_
      refine e_get C 0 (k := 25) in_M g769 d_M_ask_146 rfl rfl rfl rfl ?_
      refine e_iconst C d_M_ask_149 (v := 1) (by decide) ?_
      refine e_iadd C d_M_ask_150 ?_
      refine e_top (y := nI (n + 1)) (by rw [show (th0 m).1 25 = nI n from hn]; exact nI_1 n) ?_
      refine e_put C 0 (k := 25) in_M tk_M nm_M g769 d_M_ask_151 rfl rfl rfl rfl rfl rfl rfl rfl ?_
      refine e_iload C d_M_ask_154 rfl ?_
      refine e_if_eq C d_M_ask_156 (tgt := 163) (by decide) (fun h156 => ?_) (fun h156 => ?_)
      · rw [bI_0] at h156
        rw [h156, if_neg (by decide)] at E
        refine e_iconst C d_M_ask_163 (v := 1) (by decide) ?_
        exact e_iret C E d_M_ask_164 (Nat.le_refl _) (Nat.le_refl _) rfl ⟨rfl, rfl⟩
      · rw [bI_n] at h156
        rw [h156, if_pos rfl] at E
        refine e_iconst C d_M_ask_159 (v := 2) (by decide) ?_
        refine e_goto C d_M_ask_160 (tgt := 164) (by decide) ?_
        exact e_iret C E d_M_ask_164 (Nat.le_refl _) (Nat.le_refl _) rfl ⟨rfl, rfl⟩
    refine e_aload_n C d_M_ask_96 rfl ?_
    refine e_get C 0 (k := 25) in_M g769 d_M_ask_97 rfl rfl rfl rfl ?_
    refine e_top (show _ = nI n from hn) ?_
    refine e_bipush C d_M_ask_100 (v := nI 16) (by decide) ?_
    refine e_icmp_eq C d_M_ask_102 (tgt := 118) (by decide) (fun h102 => ?_) (fun h102 => ?_)
    · rw [nI_eq (by omega) (by omega)] at h102
      exact e_lv2 (bad (Or.inl h102)) rfl
    · rw [nI_eq (by omega) (by omega)] at h102
      refine e_iload C d_M_ask_105 rfl ?_
      refine e_if_ne C d_M_ask_107 (tgt := 124) (by decide) (fun h107 => ?_) (fun h107 => ?_)
      · rw [bI_n] at h107
        exact e_lv2 (good (fun z => by rcases z with z | z; exact h102 z; rw [h107] at z; exact absurd z.1 (by decide))) rfl
      · rw [bI_0] at h107
        refine e_aload_n C d_M_ask_110 rfl ?_
        refine e_cVi C hR 0 (k_M_lines (m := th0 m) hn hn16) g993 g14 g990 g992 (gt_sel 39 (by decide +kernel) (by decide +kernel)) d_M_ask_111 rfl ey_M_lines rfl rfl rfl rfl ⟨Nat.zero_le _, Nat.zero_le _⟩ ?_
        refine e_iconst C d_M_ask_114 (v := nI 4) (by decide) ?_
        refine e_icmp_ne C d_M_ask_115 (tgt := 124) (by decide) (fun h115 => ?_) (fun h115 => ?_)
        · rw [nI_eq (show lnN ((th0 m).2 26) n < 2 ^ 31 by show lnN (m.2 26) n < _; omega) (by omega)] at h115
          exact e_lv2 (good (fun z => by rcases z with z | z; exact h102 z; exact h115 z.2)) rfl
        · rw [nI_eq (show lnN ((th0 m).2 26) n < 2 ^ 31 by show lnN (m.2 26) n < _; omega) (by omega)] at h115
          exact e_lv2 (bad (Or.inr ⟨h107, h115⟩)) rfl
  have L : ∀ (t k : Nat) (b : Bool), k + t = n → anB (fun k => m.2 26 k == x) b k t = anB (fun k => m.2 26 k == x) false 0 n → EW X G 6 0 0 58 [(0, .ref (a 40)), (1, .int x), (2, .int (nI p)), (4, .int (bI b)), (5, .int (nI k))] [] (mF G a (th0 m).1 (th0 m).2) := by
    intro t
    induction t with
    | zero =>
      intro k b hk hf
      have hf : b = _ := hf
      rw [anB_f] at hf
      refine e_iload C d_M_ask_58 rfl ?_
      refine e_aload_n C d_M_ask_60 rfl ?_
      refine e_get C 0 (k := 25) in_M g769 d_M_ask_61 rfl rfl rfl rfl ?_
      refine e_top (show _ = nI n from hn) ?_
      refine e_icmp_ge C d_M_ask_64 (tgt := 96) (by decide) (fun h64 => ?_) (fun h64 => ?_)
      · exact e_lv2 (fin b hf) rfl
      · exact absurd (nI_le (by omega) (by omega)) h64
    | succ t ih =>
      intro k b hk hf
      rw [anB] at hf
      refine e_iload C d_M_ask_58 rfl ?_
      refine e_aload_n C d_M_ask_60 rfl ?_
      refine e_get C 0 (k := 25) in_M g769 d_M_ask_61 rfl rfl rfl rfl ?_
      refine e_top (show _ = nI n from hn) ?_
      refine e_icmp_ge C d_M_ask_64 (tgt := 96) (by decide) (fun h64 => ?_) (fun h64 => ?_)
      · exact absurd h64 (nI_ge (by omega) (by omega))
      · skip
        refine e_iload C d_M_ask_67 rfl ?_
        refine e_if_ne C d_M_ask_69 (tgt := 83) (by decide) (fun h69 => ?_) (fun h69 => ?_)
        · rw [bI_n] at h69
          subst h69
          rw [Bool.true_or] at hf
          refine e_iconst C d_M_ask_83 (v := 1) (by decide) ?_
          refine e_goto C d_M_ask_84 (tgt := 88) (by decide) ?_
          refine e_istore C d_M_ask_88 rfl ?_
          refine e_iinc C d_M_ask_90 rfl (nI_1 k) rfl ?_
          refine e_goto C d_M_ask_93 (tgt := 58) (by decide) ?_
          exact e_lv2 (ih (k + 1) true (by omega) hf) rfl
        · rw [bI_0] at h69
          subst h69
          rw [Bool.false_or] at hf
          refine e_aload_n C d_M_ask_72 rfl ?_
          refine e_get C 0 (k := 26) in_M g770 d_M_ask_73 rfl rfl rfl rfl ?_
          refine e_iload C d_M_ask_76 rfl ?_
          refine e_iald C 16 0 d_M_ask_78 rfl rfl k rfl (by omega) (by omega) ?_
          refine e_iload_n C d_M_ask_79 rfl ?_
          refine e_icmp_ne C d_M_ask_80 (tgt := 87) (by decide) (fun h80 => ?_) (fun h80 => ?_)
          · rw [show (m.2 26 k == x) = false by simp; exact h80] at hf
            refine e_iconst C d_M_ask_87 (v := 0) (by decide) ?_
            refine e_istore C d_M_ask_88 rfl ?_
            refine e_iinc C d_M_ask_90 rfl (nI_1 k) rfl ?_
            refine e_goto C d_M_ask_93 (tgt := 58) (by decide) ?_
            exact e_lv2 (ih (k + 1) false (by omega) hf) rfl
          · rw [show (m.2 26 k == x) = true by simp; exact h80] at hf
            refine e_iconst C d_M_ask_83 (v := 1) (by decide) ?_
            refine e_goto C d_M_ask_84 (tgt := 88) (by decide) ?_
            refine e_istore C d_M_ask_88 rfl ?_
            refine e_iinc C d_M_ask_90 rfl (nI_1 k) rfl ?_
            refine e_goto C d_M_ask_93 (tgt := 58) (by decide) ?_
            exact e_lv2 (ih (k + 1) true (by omega) hf) rfl
  exact e_lv2 (L n 0 false (by omega) rfl) rfl
set_option maxRecDepth 100000 in
theorem k_M_askNo (h : MI S wd V kd m) (h9 : ∀ j, NB (m.2 9 j)) {n : Nat} (hn : m.1 25 = nI n) (hn16 : n ≤ 16) (x : Int32) {p : Nat} (hp4 : p < 4) (hh : hitM S wd m x p = false) {W' : va_W} {q : Int32}
    (hF : (n = 16 ∨ wtM m n x = false ∧ lnN (m.2 26) n = 4) → q = 0 ∧ W' = mF G a (upd (th0 m).1 0 2) m.2) (hW : ¬ (n = 16 ∨ wtM m n x = false ∧ lnN (m.2 26) n = 4) → q = (if wtM m n x then 2 else 1) ∧ W' = mF G a (as2 m n x p).1 (as2 m n x p).2) :
    Con l G y_M_ask c_M_ask 6 (some .int) (rz 7 168) [.ref (a 40), .int x, .int (nI p)] (mF G a m.1 m.2) (DI q W') := by
  refine Con.of rfl rfl (fun X C E hR hl hnm => ?_)
  have hD := h.1
  have hS := hD.S16
  have hw8 := hD.w8
  have hsn := hD.lt x
  have rest := ask_rest (a := a) C hR hn hn16 x E hF hW
  unfold hitM fdM at hh
  refine e_aload_n C d_M_ask_0 rfl ?_
  refine e_iconst C d_M_ask_1 (v := 0) (by decide) ?_
  refine e_put C 0 (k := 0) in_M tk_M nm_M g744 d_M_ask_2 rfl rfl rfl rfl rfl rfl rfl rfl ?_
  refine e_eq (ws' := mF G a (th0 m).1 (th0 m).2) rfl ?_
  refine e_iload_n C d_M_ask_5 rfl ?_
  refine e_iconst C d_M_ask_6 (v := nI 0) (by decide) ?_
  refine e_iconst C d_M_ask_7 (v := nI 3) (by decide) ?_
  refine e_cSi C hR (k_M_within _ _ _) g867 g14 g865 g866 d_M_ask_8 rfl ey_M_within rfl rfl ⟨Nat.zero_le _, Nat.zero_le _⟩ ?_
  refine e_if_ne C d_M_ask_11 (tgt := 20) (by decide) (fun h11 => ?_) (fun h11 => ?_)
  · skip
    refine e_aload_n C d_M_ask_20 rfl ?_
    refine e_iload_n C d_M_ask_21 rfl ?_
    refine e_cVi C hR 0 (k_M_find (m := th0 m) hD x) g879 g14 g876 g878 (gt_sel 13 (by decide +kernel) (by decide +kernel)) d_M_ask_22 rfl ey_M_find rfl rfl rfl rfl ⟨Nat.zero_le _, Nat.zero_le _⟩ ?_
    refine e_istore_n C d_M_ask_25 rfl ?_
    refine e_iload_n C d_M_ask_26 rfl ?_
    refine e_if_lt C d_M_ask_27 (tgt := 52) (by decide) (fun h27 => ?_) (fun h27 => ?_)
    · exact e_lv2 rest rfl
    · rw [oI_lt (lb (by omega))] at h27
      obtain ⟨r, hr⟩ := Option.ne_none_iff_exists'.mp h27
      have hr : lstG (hasM m.2 x) none (8 * sN S x) wd = some r := hr
      have hr2 := lstG_rng (lo := 8 * sN S x) (hi := 8 * sN S x + wd) (Nat.le_refl _) (Nat.le_refl _) (fun j hj => by cases hj) hr
      rw [hr] at hh
      have hh : m.2 9 r &&& bitI p = 0 := by simpa using hh
      refine e_lv [(0, .ref (a 40)), (1, .int x), (2, .int (nI p)), (3, .int (nI r))] (by rw [show lstG (hasM (th0 m).2 x) none (8 * sN S x) wd = some r from hr]; rfl) ?_
      refine e_aload_n C d_M_ask_30 rfl ?_
      refine e_get C 0 (k := 9) in_M g753 d_M_ask_31 rfl rfl rfl rfl ?_
      refine e_iload_n C d_M_ask_34 rfl ?_
      refine e_iald C 3 0 d_M_ask_35 rfl rfl r rfl (by omega) (by omega) ?_
      refine e_iload_n C d_M_ask_36 rfl ?_
      refine e_ishr C d_M_ask_37 ?_
      refine e_iconst C d_M_ask_38 (v := 1) (by decide) ?_
      refine e_iand C d_M_ask_39 ?_
      refine e_iconst C d_M_ask_40 (v := 1) (by decide) ?_
      refine e_icmp_ne C d_M_ask_41 (tgt := 52) (by decide) (fun h41 => ?_) (fun h41 => ?_)
      · exact e_lv2 rest rfl
      · exact absurd hh ((bit_iff (h9 r) hp4).mp h41)
  · rw [bI_0, within_t (lo := 0) (by omega) (show p ≤ 3 by omega) (by omega)] at h11
    cases h11
theorem k_M_answer1 (hn : m.1 25 = 0) : Con l G y_M_answer c_M_answer 4 (some .int) (rz 7 168) [.ref (a 40)] (mF G a m.1 m.2) (DI 0 (mF G a (upd (th0 m).1 0 1) m.2)) := by
  refine Con.of rfl rfl (fun X C E hR hl hnm => ?_)
  refine e_aload_n C d_M_answer_0 rfl ?_
  refine e_iconst C d_M_answer_1 (v := 0) (by decide) ?_
  refine e_put C 0 (k := 0) in_M tk_M nm_M g744 d_M_answer_2 rfl rfl rfl rfl rfl rfl rfl rfl ?_
  refine e_eq (ws' := mF G a (th0 m).1 (th0 m).2) rfl ?_
  refine e_aload_n C d_M_answer_5 rfl ?_
  refine e_get C 0 (k := 25) in_M g769 d_M_answer_6 rfl rfl rfl rfl ?_
  refine e_if_ne C d_M_answer_9 (tgt := 18) (by decide) (fun h9 => ?_) (fun h9 => ?_)
  · exact absurd hn h9
  · skip
    refine e_aload_n C d_M_answer_12 rfl ?_
    refine e_iconst C d_M_answer_13 (v := 1) (by decide) ?_
    refine e_cVi C hR 0 (k_M_fail 1) g985 g14 g982 g984 (gt_sel 38 (by decide +kernel) (by decide +kernel)) d_M_answer_14 rfl ey_M_fail rfl rfl rfl rfl ⟨Nat.zero_le _, Nat.zero_le _⟩ ?_
    exact e_iret C E d_M_answer_17 (Nat.le_refl _) (Nat.le_refl _) rfl ⟨rfl, rfl⟩
end M8
/-- one ask of the line is answered: before and behind its access -/
def an1 (m : CS) (d k : Nat) : CS := (m.1, up2 m.2 29 (upd (m.2 29) d (m.2 27 k)))
def an2 (m : CS) (d : Nat) (q : Int32) : CS := (upd m.1 28 (nI (d + 1)), up2 m.2 30 (upd (m.2 30) d q))
def an3 (m : CS) (t k : Nat) : CS := (m.1, up2 (up2 m.2 26 (upd (m.2 26) t (m.2 26 k))) 27 (upd (m.2 27) t (m.2 27 k)))
/-- the asks from the k-th on: t stay so far, d are done so far -/
def anM (S wd V kd : Nat) (x : Int32) : Nat → Nat → Nat → Nat → CS → Option (CS × Nat × Nat)
  | 0, _, t, d, m => some (m, t, d)
  | q + 1, k, t, d, m => if m.2 26 k = x then (aoM S wd V kd (an1 m d k) x (m.2 27 k).toNatClampNeg 0).bind (fun r => anM S wd V kd x q (k + 1) t (d + 1) (an2 r.1 d r.2)) else anM S wd V kd x q (k + 1) (t + 1) d (an3 m t k)
theorem twS_kp (m : CS) (r : Nat) (bit wt : Int32) : (twS m r bit wt).1 = m.1 ∧ ∀ k, k ≠ 9 → k ≠ 10 → k ≠ 34 → (twS m r bit wt).2 k = m.2 k := by
  refine ⟨twS_1 m r bit wt, fun k h1 h2 h3 => ?_⟩
  have ht : (tw1 m r bit).2 k = m.2 k := by
    unfold tw1
    split
    · dsimp only
      rw [up2_n _ h3, up2_n _ h1]
    · rfl
  unfold twS
  split
  · exact ht
  · split
    · dsimp only
      rw [up2_n _ h2]
      exact ht
    · dsimp only
      rw [up2_n _ h3]
      exact ht
theorem tcS_kp (wd kd : Nat) (m : CS) (s w : Nat) : (∀ k, k ≠ 12 → (tcS wd kd m s w).1 k = m.1 k) ∧ ∀ k, (k < 13 ∨ 19 < k) → (tcS wd kd m s w).2 k = m.2 k := by
  refine ⟨fun k hk => pk_un hk, fun k hk => ?_⟩
  unfold tcS
  dsimp only
  rw [up2_n _ (by omega), up2_n _ (by omega), up2_n _ (by omega), up2_n _ (by omega), up2_n _ (by omega), up2_n _ (by omega)]
theorem tuS_kp (wd kd : Nat) (m : CS) (s w : Nat) : (∀ k, k ≠ 12 → (tuS wd kd m s w).1 k = m.1 k) ∧ ∀ k, (k < 13 ∨ 19 < k) → (tuS wd kd m s w).2 k = m.2 k := by
  refine ⟨fun k hk => pk_un hk, fun k hk => ?_⟩
  unfold tuS
  dsimp only
  rw [up2_n _ (by omega), up2_n _ (by omega), up2_n _ (by omega), up2_n _ (by omega), up2_n _ (by omega)]
theorem crS_kp (V : Nat) (m : CS) (x t ch : Int32) : (∀ k, k ≠ 21 → (crS V m x t ch).1 k = m.1 k) ∧ ∀ k, (k < 22 ∨ 24 < k) → k ≠ 34 → (crS V m x t ch).2 k = m.2 k := by
  unfold crS
  split
  · exact ⟨fun k hk => pk_un hk, fun k hk h4 => by unfold cr1; dsimp only; rw [up2_n _ (by omega), up2_n _ (by omega), up2_n _ (by omega)]⟩
  · refine ⟨fun k hk => by dsimp only; rw [pk_un hk]; exact pk_un hk, fun k hk h4 => ?_⟩
    unfold trF waS cr1
    dsimp only
    rw [up2_n _ (by omega), up2_n _ (by omega), up2_n _ (by omega), up2_n _ h4, up2_n _ (by omega), up2_n _ (by omega), up2_n _ (by omega)]
theorem pl2_kp (wd kd : Nat) (m : CS) (s r : Nat) (x t ch : Int32) : (∀ k, k ≠ 12 → (pl2 wd kd m s r x t ch).1 k = m.1 k) ∧ ∀ k, 19 < k → (pl2 wd kd m s r x t ch).2 k = m.2 k := by
  have h := tcS_kp wd kd (m.1, puM m.2 r x t ch) s (r - 8 * s)
  refine ⟨h.1, fun k hk => (h.2 k (by omega)).trans ?_⟩
  unfold puM
  dsimp only
  rw [up2_n _ (by omega), up2_n _ (by omega), up2_n _ (by omega), up2_n _ (by omega)]
/-- an access leaves asks and answers alone -/
def MK (m m' : CS) : Prop := (∀ k, k ≠ 12 → k ≠ 20 → k ≠ 21 → k ≠ 31 → m'.1 k = m.1 k) ∧ ∀ k, 24 < k → k < 32 → m'.2 k = m.2 k
theorem MK.rf (m : CS) : MK m m := ⟨fun _ _ _ _ _ => rfl, fun _ _ _ => rfl⟩
theorem MK.tr {a b c : CS} (h : MK a b) (h2 : MK b c) : MK a c := ⟨fun k k1 k2 k3 k4 => (h2.1 k k1 k2 k3 k4).trans (h.1 k k1 k2 k3 k4), fun k k1 k2 => (h2.2 k k1 k2).trans (h.2 k k1 k2)⟩
theorem plM_MK {S wd V kd : Nat} {m m' : CS} (hk : kd < 10) {x t ch : Int32} {r : Nat} (hp : plM S wd V kd m x t ch = some (m', r)) : MK m m' := by
  unfold plM at hp
  split at hp
  · cases hp
    exact ⟨fun k k1 _ _ _ => (pl2_kp _ _ _ _ _ _ _ _).1 k k1, fun k k1 _ => (pl2_kp _ _ _ _ _ _ _ _).2 k (by omega)⟩
  · obtain ⟨⟨m1, q⟩, hq, e⟩ := Option.map_eq_some_iff.mp hp
    cases e
    have h1 := pkS_kp hk hq
    have h2 := crS_kp V (c8S m1) (m1.2 8 q) (m1.2 9 q) (m1.2 10 q)
    refine ⟨fun k k1 k2 k3 _ => ((pl2_kp _ _ _ _ _ _ _ _).1 k k1).trans ((h2.1 k k3).trans (h1.1 k k2)), fun k k1 k2 => ((pl2_kp _ _ _ _ _ _ _ _).2 k (by omega)).trans ((h2.2 k (by omega) (by omega)).trans ?_)⟩
    show up2 m1.2 34 _ k = _
    rw [up2_n _ (by omega)]
    exact h1.2 k (by omega) (by omega) (by omega) (by omega)
theorem cnt_MK (m : CS) (j : Nat) (y : Int32) : MK m (cnt m j y) := ⟨fun _ _ _ _ _ => rfl, fun k k1 k2 => up2_n _ (by omega)⟩
theorem twS_MK (m : CS) (r : Nat) (bit wt : Int32) : MK m (twS m r bit wt) := ⟨fun k _ _ _ _ => by rw [(twS_kp m r bit wt).1], fun k k1 k2 => (twS_kp m r bit wt).2 k (by omega) (by omega) (by omega)⟩
theorem rr2_MK (m : CS) (r : Nat) (bit wt : Int32) : MK m (rr2 m r bit wt) := by
  have h1 : MK m (rr1 m r bit) := by
    unfold rr1
    split
    · exact ⟨fun _ _ _ _ _ => rfl, fun k k1 k2 => by dsimp only; rw [up2_n _ (by omega), up2_n _ (by omega)]⟩
    · exact MK.rf m
  unfold rr2
  split
  · exact h1
  · split
    · exact h1.tr ⟨fun _ _ _ _ _ => rfl, fun k k1 k2 => up2_n _ (by omega)⟩
    · exact h1.tr (cnt_MK _ _ _)
theorem rrM_MK {S wd V kd : Nat} {m m' : CS} (hk : kd < 10) {x bit wt : Int32} {r : Nat} {q : Int32} (hp : rrM S wd V kd m x r bit wt = some (m', q)) : MK m m' := by
  unfold rrM at hp
  split at hp
  · obtain ⟨⟨m2, r2⟩, hq, e⟩ := Option.map_eq_some_iff.mp hp
    cases e
    refine MK.tr ?_ ((plM_MK hk hq).tr (twS_MK _ _ _ _))
    refine ⟨fun k _ _ k3 _ => pk_un k3, fun k k1 k2 => ?_⟩
    unfold trF
    dsimp only
    rw [up2_n _ (by omega), up2_n _ (by omega), up2_n _ (by omega)]
  · cases hp
    exact rr2_MK _ _ _ _
theorem rhM_MK {S wd V kd : Nat} {m m' : CS} (hk : kd < 10) {x bit wt q : Int32} (hp : rhM S wd V kd m x bit wt = some (m', q)) : MK m m' := by
  have h1 : MK m (rh1 m x) := ⟨fun k _ _ _ k4 => (rh1_kp m x).1 k k4, fun k k1 k2 => (rh1_kp m x).2 k (by omega) (by omega) (by omega)⟩
  unfold rhM at hp
  split at hp
  · rename_i r hr
    cases hp
    refine h1.tr ((twS_MK (rh1 m x) r bit wt).tr ?_)
    exact ⟨fun k k1 _ _ _ => (tuS_kp _ _ _ _ _).1 k k1, fun k k1 _ => (tuS_kp _ _ _ _ _).2 k (by omega)⟩
  · split at hp
    · exact h1.tr (rrM_MK hk hp)
    · split at hp
      · cases hp
        exact h1.tr (cnt_MK _ _ _)
      · split at hp
        · obtain ⟨⟨m2, r2⟩, hq, e⟩ := Option.map_eq_some_iff.mp hp
          cases e
          exact h1.tr ((plM_MK hk hq).tr (twS_MK _ _ _ _))
        · cases hp
          exact h1.tr ((cnt_MK _ _ _).tr (cnt_MK _ _ _))
theorem aoM_MK {S wd V kd : Nat} {m m' : CS} (hk : kd < 10) {x : Int32} {p : Nat} {wt q : Int32} (hp : aoM S wd V kd m x p wt = some (m', q)) : MK m m' := by
  obtain ⟨⟨m2, r2⟩, hq, e⟩ := Option.map_eq_some_iff.mp hp
  cases e
  exact (rhM_MK hk hq).tr (cnt_MK _ _ _)
section M9
variable {l : Launch} {G : EG} {a : Nat → Nat} {m : CS} {S wd V kd s w z : Nat} {ws : va_W}
set_option maxRecDepth 100000 in
theorem k_M_answer (h : MI S wd V kd m) {n : Nat} (hn : m.1 25 = nI n) (hn1 : 1 ≤ n) (hn16 : n ≤ 16) (hP : ∀ j, ∃ p, p < 4 ∧ m.2 27 j = nI p) {m' : CS} {t d : Nat} (hp : anM S wd V kd (m.2 26 0) n 0 0 0 (upd (th0 m).1 28 0, m.2) = some (m', t, d)) :
    Con l G y_M_answer c_M_answer 4 (some .int) (rz 7 168) [.ref (a 40)] (mF G a m.1 m.2) (DI (nI d) (mF G a (upd m'.1 25 (nI t)) m'.2)) := by
  refine Con.of rfl rfl (fun X C E hR hl hnm => ?_)
  have hk10 := h.1.2.2.2.2.2.2.2
  have h0 : MI S wd V kd (upd (th0 m).1 28 0, m.2) := by
    obtain ⟨hD, hM, hz, hh, h10, h24⟩ := h
    exact ⟨hD, MR_of hk10 hM rfl id rfl rfl, hz, hh, h10, h24⟩
  refine e_aload_n C d_M_answer_0 rfl ?_
  refine e_iconst C d_M_answer_1 (v := 0) (by decide) ?_
  refine e_put C 0 (k := 0) in_M tk_M nm_M g744 d_M_answer_2 rfl rfl rfl rfl rfl rfl rfl rfl ?_
  refine e_eq (ws' := mF G a (th0 m).1 (th0 m).2) rfl ?_
  refine e_aload_n C d_M_answer_5 rfl ?_
  refine e_get C 0 (k := 25) in_M g769 d_M_answer_6 rfl rfl rfl rfl ?_
  refine e_top (show _ = nI n from hn) ?_
  refine e_if_ne C d_M_answer_9 (tgt := 18) (by decide) (fun h9 => ?_) (fun h9 => ?_)
  · skip
    refine e_aload_n C d_M_answer_18 rfl ?_
    refine e_get C 0 (k := 26) in_M g770 d_M_answer_19 rfl rfl rfl rfl ?_
    refine e_iconst C d_M_answer_22 (v := 0) (by decide) ?_
    refine e_iald C 16 0 d_M_answer_23 rfl rfl 0 rfl (by omega) (by omega) ?_
    refine e_istore_n C d_M_answer_24 rfl ?_
    refine e_iconst C d_M_answer_25 (v := 0) (by decide) ?_
    refine e_istore_n C d_M_answer_26 rfl ?_
    refine e_aload_n C d_M_answer_27 rfl ?_
    refine e_iconst C d_M_answer_28 (v := 0) (by decide) ?_
    refine e_put C 0 (k := 28) in_M tk_M nm_M g772 d_M_answer_29 rfl rfl rfl rfl rfl rfl rfl rfl ?_
    refine e_iconst C d_M_answer_32 (v := 0) (by decide) ?_
    refine e_istore_n C d_M_answer_33 rfl ?_
    refine e_eq (ws' := mF G a (upd (th0 m).1 28 0) m.2) rfl ?_
    have hP0 : ∀ j, ∃ p, p < 4 ∧ (upd (th0 m).1 28 0, m.2).2 27 j = nI p := hP
    have hn0 : (upd (th0 m).1 28 0, m.2).1 25 = nI n := hn
    have hd0 : (upd (th0 m).1 28 0, m.2).1 28 = nI 0 := rfl
    show EW X G _ _ _ _ _ _ (mF G a (upd (th0 m).1 28 0, m.2).1 (upd (th0 m).1 28 0, m.2).2)
    refine e_lv [(0, .ref (a 40)), (1, .int (m.2 26 0)), (2, .int (nI 0)), (3, .int (nI 0))] rfl ?_
    generalize (upd (th0 m).1 28 0, m.2) = m0 at h0 hP0 hn0 hd0 hp ⊢
    generalize m.2 26 0 = x at hp ⊢
    have L : ∀ (q k t1 d1 : Nat) (m1 : CS), k + q = n → t1 + d1 ≤ k → MI S wd V kd m1 → (∀ j, ∃ p, p < 4 ∧ m1.2 27 j = nI p) → m1.1 25 = nI n → m1.1 28 = nI d1 → anM S wd V kd x q k t1 d1 m1 = some (m', t, d) → EW X G 4 0 0 34 [(0, .ref (a 40)), (1, .int x), (2, .int (nI t1)), (3, .int (nI k))] [] (mF G a m1.1 m1.2) := by
      intro q
      induction q with
      | zero =>
        intro k t1 d1 m1 hk htd i1 i2 i3 i4 hf
        cases hf
        refine e_iload_n C d_M_answer_34 rfl ?_
        refine e_aload_n C d_M_answer_35 rfl ?_
        refine e_get C 0 (k := 25) in_M g769 d_M_answer_36 rfl rfl rfl rfl ?_
        refine e_top i3 ?_
        refine e_icmp_ge C d_M_answer_39 (tgt := 134) (by decide) (fun h39 => ?_) (fun h39 => ?_)
        · skip
          refine e_aload_n C d_M_answer_134 rfl ?_
          refine e_iload_n C d_M_answer_135 rfl ?_
          refine e_put C 0 (k := 25) in_M tk_M nm_M g769 d_M_answer_136 rfl rfl rfl rfl rfl rfl rfl rfl ?_
          refine e_aload_n C d_M_answer_139 rfl ?_
          refine e_get C 0 (k := 28) in_M g772 d_M_answer_140 rfl rfl rfl rfl ?_
          refine e_top (show _ = nI d from i4) ?_
          exact e_iret C E d_M_answer_143 (Nat.le_refl _) (Nat.le_refl _) rfl ⟨rfl, rfl⟩
        · exact absurd (nI_le (by omega) (by omega)) h39
      | succ q ih =>
        intro k t1 d1 m1 hk htd i1 i2 i3 i4 hf
        rw [anM] at hf
        obtain ⟨p, hp4, ep⟩ := i2 k
        refine e_iload_n C d_M_answer_34 rfl ?_
        refine e_aload_n C d_M_answer_35 rfl ?_
        refine e_get C 0 (k := 25) in_M g769 d_M_answer_36 rfl rfl rfl rfl ?_
        refine e_top i3 ?_
        refine e_icmp_ge C d_M_answer_39 (tgt := 134) (by decide) (fun h39 => ?_) (fun h39 => ?_)
        · exact absurd h39 (nI_ge (by omega) (by omega))
        · skip
          refine e_aload_n C d_M_answer_42 rfl ?_
          refine e_get C 0 (k := 26) in_M g770 d_M_answer_43 rfl rfl rfl rfl ?_
          refine e_iload_n C d_M_answer_46 rfl ?_
          refine e_iald C 16 0 d_M_answer_47 rfl rfl k rfl (by omega) (by omega) ?_
          refine e_iload_n C d_M_answer_48 rfl ?_
          refine e_icmp_ne C d_M_answer_49 (tgt := 101) (by decide) (fun h49 => ?_) (fun h49 => ?_)
          · have h49 : ¬ m1.2 26 k = x := h49
            rw [if_neg h49] at hf
            refine e_aload_n C d_M_answer_101 rfl ?_
            refine e_get C 0 (k := 26) in_M g770 d_M_answer_102 rfl rfl rfl rfl ?_
            refine e_iload_n C d_M_answer_105 rfl ?_
            refine e_aload_n C d_M_answer_106 rfl ?_
            refine e_get C 0 (k := 26) in_M g770 d_M_answer_107 rfl rfl rfl rfl ?_
            refine e_iload_n C d_M_answer_110 rfl ?_
            refine e_iald C 16 0 d_M_answer_111 rfl rfl k rfl (by omega) (by omega) ?_
            refine e_iast C 16 0 d_M_answer_112 rfl rfl t1 rfl (by omega) (by omega) ?_
            refine e_aload_n C d_M_answer_113 rfl ?_
            refine e_get C 0 (k := 27) in_M g771 d_M_answer_114 rfl rfl rfl rfl ?_
            refine e_iload_n C d_M_answer_117 rfl ?_
            refine e_aload_n C d_M_answer_118 rfl ?_
            refine e_get C 0 (k := 27) in_M g771 d_M_answer_119 rfl rfl rfl rfl ?_
            refine e_iload_n C d_M_answer_122 rfl ?_
            refine e_iald C 17 0 d_M_answer_123 rfl rfl k rfl (by omega) (by omega) ?_
            refine e_iast C 17 0 d_M_answer_124 rfl rfl t1 rfl (by omega) (by omega) ?_
            refine e_iinc C d_M_answer_125 rfl (nI_1 t1) rfl ?_
            refine e_iinc C d_M_answer_128 rfl (nI_1 k) rfl ?_
            refine e_goto C d_M_answer_131 (tgt := 34) (by decide) ?_
            refine e_eq (ws' := mF G a (an3 m1 t1 k).1 (an3 m1 t1 k).2) rfl ?_
            refine e_lv2 (ih (k + 1) (t1 + 1) d1 (an3 m1 t1 k) (by omega) (by omega) ?_ ?_ i3 i4 hf) rfl
            · exact i1.up rfl (fun j hj => by unfold an3; dsimp only; rw [up2_n _ (by omega), up2_n _ (by omega)])
            · exact PT_up i2 t1 (i2 k)
          · have h49 : m1.2 26 k = x := h49
            rw [if_pos h49, ep, nI_clamp (show p < 2 ^ 31 by omega)] at hf
            obtain ⟨⟨m2, kd2⟩, hq, hf⟩ := Option.bind_eq_some_iff.mp hf
            have j0 : MI S wd V kd (an1 m1 d1 k) := i1.up rfl (fun j hj => up2_n _ (by omega))
            have j1 := aoM_MI j0 x hp4 0 hq
            have j2 := aoM_MK hk10 hq
            refine e_aload_n C d_M_answer_52 rfl ?_
            refine e_get C 0 (k := 29) in_M g773 d_M_answer_53 rfl rfl rfl rfl ?_
            refine e_aload_n C d_M_answer_56 rfl ?_
            refine e_get C 0 (k := 28) in_M g772 d_M_answer_57 rfl rfl rfl rfl ?_
            refine e_aload_n C d_M_answer_60 rfl ?_
            refine e_get C 0 (k := 27) in_M g771 d_M_answer_61 rfl rfl rfl rfl ?_
            refine e_iload_n C d_M_answer_64 rfl ?_
            refine e_iald C 17 0 d_M_answer_65 rfl rfl k rfl (by omega) (by omega) ?_
            refine e_iast C 18 0 d_M_answer_66 rfl rfl d1 i4 (by omega) (by omega) ?_
            refine e_eq (ws' := mF G a (an1 m1 d1 k).1 (an1 m1 d1 k).2) rfl ?_
            refine e_aload_n C d_M_answer_67 rfl ?_
            refine e_get C 0 (k := 30) in_M g774 d_M_answer_68 rfl rfl rfl rfl ?_
            refine e_aload_n C d_M_answer_71 rfl ?_
            refine e_get C 0 (k := 28) in_M g772 d_M_answer_72 rfl rfl rfl rfl ?_
            refine e_aload_n C d_M_answer_75 rfl ?_
            refine e_iload_n C d_M_answer_76 rfl ?_
            refine e_aload_n C d_M_answer_77 rfl ?_
            refine e_get C 0 (k := 27) in_M g771 d_M_answer_78 rfl rfl rfl rfl ?_
            refine e_iload_n C d_M_answer_81 rfl ?_
            refine e_iald C 17 0 d_M_answer_82 rfl rfl k rfl (by omega) (by omega) ?_
            refine e_top (show _ = nI p from ep) ?_
            refine e_iconst C d_M_answer_83 (v := 0) (by decide) ?_
            refine e_cVi C hR 0 (k_M_accessOf j0 x hp4 0 hq) g871 g14 g868 g870 (gt_sel 11 (by decide +kernel) (by decide +kernel)) d_M_answer_84 rfl ey_M_accessOf rfl rfl rfl rfl ⟨Nat.zero_le _, Nat.zero_le _⟩ ?_
            refine e_iast C 19 0 d_M_answer_87 rfl rfl d1 i4 (by omega) (by omega) ?_
            refine e_aload_n C d_M_answer_88 rfl ?_
            refine e_dup C d_M_answer_89 rfl ?_
            refine e_get C 0 (k := 28) in_M g772 d_M_answer_90 rfl rfl rfl rfl ?_
            refine e_iconst C d_M_answer_93 (v := 1) (by decide) ?_
            refine e_iadd C d_M_answer_94 ?_
            refine e_top (y := nI (d1 + 1)) (by rw [show m2.1 28 = nI d1 from (j2.1 28 (by omega) (by omega) (by omega) (by omega)).trans i4]; exact nI_1 d1) ?_
            refine e_put C 0 (k := 28) in_M tk_M nm_M g772 d_M_answer_95 rfl rfl rfl rfl rfl rfl rfl rfl ?_
            refine e_goto C d_M_answer_98 (tgt := 128) (by decide) ?_
            refine e_eq (ws' := mF G a (an2 m2 d1 kd2).1 (an2 m2 d1 kd2).2) rfl ?_
            refine e_iinc C d_M_answer_128 rfl (nI_1 k) rfl ?_
            refine e_goto C d_M_answer_131 (tgt := 34) (by decide) ?_
            refine e_lv2 (ih (k + 1) t1 (d1 + 1) (an2 m2 d1 kd2) (by omega) (by omega) ?_ ?_ ?_ rfl hf) rfl
            · obtain ⟨hD, hM, hz, hh, h10, h24⟩ := j1.1
              exact ⟨hD, MR_of hk10 hM rfl id rfl rfl, hz, hh, h10, h24⟩
            · show ∀ j, ∃ p, p < 4 ∧ m2.2 27 j = nI p
              rw [j2.2 27 (by omega) (by omega)]
              exact i2
            · exact (j2.1 25 (by omega) (by omega) (by omega) (by omega)).trans i3
    exact L n 0 0 0 m0 (by omega) (by omega) h0 hP0 hn0 hd0 hp
  · exact absurd h9 (nI_ne0 (by omega) (by omega))
end M9
