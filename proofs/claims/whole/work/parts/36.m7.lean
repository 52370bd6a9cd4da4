/-! THE REFERENCE: lock, clean, cleanAll, drop, way, next -/
def fdM (S wd : Nat) (m : CS) (x : Int32) : Option Nat := lstG (hasM m.2 x) none (8 * sN S x) wd
def frM (m : CS) (x : Int32) : Option Nat := lstG (fun k => m.2 22 k == x) none 0 (nzM m)
def lk2 (S wd : Nat) (m : CS) (x : Int32) (b : Bool) : CS × Int32 := match fdM S wd m x with
  | none => (th0 m, 0)
  | some r => (((th0 m).1, up2 m.2 11 (upd (m.2 11) r (bI b))), if m.2 11 r = bI b then 0 else 1)
def cw2 (m : CS) (r : Nat) : CS × Int32 := if m.2 7 r = 0 then (cnt m 7 0, 0) else (cnt (m.1, up2 m.2 10 (upd (m.2 10) r 0)) 7 (popI (m.2 10 r)), popI (m.2 10 r))
def cr2 (m : CS) (r : Nat) : CS × Int32 := (cnt (m.1, up2 m.2 24 (upd (m.2 24) r 0)) 7 (popI (m.2 24 r)), popI (m.2 24 r))
def cl2 (S wd : Nat) (m : CS) (x : Int32) : CS × Int32 := match fdM S wd m x with
  | some r => cw2 (th0 m) r
  | none => match frM m x with
    | some r => cr2 (th0 m) r
    | none => (th0 m, 0)
def dp2 (S wd : Nat) (m : CS) (x : Int32) : CS × Int32 := match fdM S wd m x with
  | some r => (((th0 m).1, up2 (up2 m.2 7 (upd (m.2 7) r 0)) 11 (upd (m.2 11) r 0)), popI (m.2 10 r))
  | none => match frM m x with
    | some r => ((upd (th0 m).1 21 (nI (nzM m - 1)), trF m.2 r (nzM m - 1)), popI (m.2 24 r))
    | none => (th0 m, -1)
section M7
variable {l : Launch} {G : EG} {a : Nat → Nat} {m : CS} {S wd V kd s w z : Nat} {ws : va_W}
set_option maxRecDepth 100000 in
theorem k_M_lock (h : MD m.1 S wd V kd) (x : Int32) (b : Bool) : Con l G y_M_lock c_M_lock 5 (some .boolean) (rz 2 45) [.ref (a 40), .int x, .int (bI b)] (mF G a m.1 m.2) (DI (lk2 S wd m x b).2 (mF G a (lk2 S wd m x b).1.1 (lk2 S wd m x b).1.2)) := by
  refine Con.of rfl rfl (fun X C E hR hl hnm => ?_)
  have hS := h.S16
  have hw8 := h.w8
  have hsn := h.lt x
  unfold lk2 fdM at E
  refine e_aload_n C d_M_lock_0 rfl ?_
  refine e_iconst C d_M_lock_1 (v := 0) (by decide) ?_
  refine e_put C 0 (k := 0) in_M tk_M nm_M g744 d_M_lock_2 rfl rfl rfl rfl rfl rfl rfl rfl ?_
  refine e_eq (ws' := mF G a (th0 m).1 (th0 m).2) rfl ?_
  refine e_aload_n C d_M_lock_5 rfl ?_
  refine e_iload_n C d_M_lock_6 rfl ?_
  refine e_cVi C hR 0 (k_M_find (m := th0 m) h x) g879 g14 g876 g878 (gt_sel 13 (by decide +kernel) (by decide +kernel)) d_M_lock_7 rfl ey_M_find rfl rfl rfl rfl ⟨Nat.zero_le _, Nat.zero_le _⟩ ?_
  refine e_istore_n C d_M_lock_10 rfl ?_
  refine e_iload_n C d_M_lock_11 rfl ?_
  refine e_if_lt C d_M_lock_12 (tgt := 29) (by decide) (fun h12 => ?_) (fun h12 => ?_)
  · rw [oI_lt (lb (by omega))] at h12
    rw [show lstG (hasM m.2 x) none (8 * sN S x) wd = none from h12] at E
    refine e_iconst C d_M_lock_29 (v := 0) (by decide) ?_
    refine e_istore C d_M_lock_30 rfl ?_
    refine e_iload_n C d_M_lock_32 rfl ?_
    refine e_if_lt C d_M_lock_33 (tgt := 43) (by decide) (fun h33 => ?_) (fun h33 => ?_)
    · skip
      refine e_iload C d_M_lock_43 rfl ?_
      exact e_iret C E d_M_lock_45 (Nat.le_refl _) (Nat.le_refl _) rfl ⟨rfl, rfl⟩
    · exact absurd ((oI_lt (lb (by omega))).mpr h12) h33
  · rw [oI_lt (lb (by omega))] at h12
    obtain ⟨r, hr⟩ := Option.ne_none_iff_exists'.mp h12
    have hr : lstG (hasM m.2 x) none (8 * sN S x) wd = some r := hr
    have hr2 := lstG_rng (lo := 8 * sN S x) (hi := 8 * sN S x + wd) (Nat.le_refl _) (Nat.le_refl _) (fun j hj => by cases hj) hr
    rw [hr] at E
    refine e_lv [(0, .ref (a 40)), (1, .int x), (2, .int (bI b)), (3, .int (nI r))] (by rw [show lstG (hasM (th0 m).2 x) none (8 * sN S x) wd = some r from hr]; rfl) ?_
    have tail : ∀ y : Int32, y = (if m.2 11 r = bI b then 0 else 1) → EW X G 5 0 0 30 [(0, .ref (a 40)), (1, .int x), (2, .int (bI b)), (3, .int (nI r))] [.int y] (mF G a (th0 m).1 (th0 m).2) := by
      intro y hy
      dsimp only at E
      rw [← hy] at E
      have hyn : narrow .boolean (.int y) = .int y := by
        rw [hy]
        split <;> rfl
      refine e_istore C d_M_lock_30 rfl ?_
      refine e_iload_n C d_M_lock_32 rfl ?_
      refine e_if_lt C d_M_lock_33 (tgt := 43) (by decide) (fun h33 => ?_) (fun h33 => ?_)
      · exact absurd h33 (nI_pos (by omega))
      · skip
        refine e_aload_n C d_M_lock_36 rfl ?_
        refine e_get C 0 (k := 11) in_M g755 d_M_lock_37 rfl rfl rfl rfl ?_
        refine e_iload_n C d_M_lock_40 rfl ?_
        refine e_iload_n C d_M_lock_41 rfl ?_
        refine e_zast C 5 1 d_M_lock_42 rfl rfl r rfl (by omega) (by omega) (nar_bI b) ?_
        refine e_iload C d_M_lock_43 rfl ?_
        exact e_iret C E d_M_lock_45 (Nat.le_refl _) (Nat.le_refl _) hyn ⟨rfl, rfl⟩
    refine e_aload_n C d_M_lock_15 rfl ?_
    refine e_get C 0 (k := 11) in_M g755 d_M_lock_16 rfl rfl rfl rfl ?_
    refine e_iload_n C d_M_lock_19 rfl ?_
    refine e_zald C 5 1 d_M_lock_20 rfl rfl r rfl (by omega) (by omega) ?_
    refine e_iload_n C d_M_lock_21 rfl ?_
    refine e_icmp_eq C d_M_lock_22 (tgt := 29) (by decide) (fun h22 => ?_) (fun h22 => ?_)
    · have h22 : m.2 11 r = bI b := h22
      refine e_iconst C d_M_lock_29 (v := 0) (by decide) ?_
      exact e_lv2 (tail 0 (by rw [if_pos h22])) rfl
    · have h22 : ¬ m.2 11 r = bI b := h22
      refine e_iconst C d_M_lock_25 (v := 1) (by decide) ?_
      refine e_goto C d_M_lock_26 (tgt := 30) (by decide) ?_
      exact e_lv2 (tail 1 (by rw [if_neg h22])) rfl
set_option maxRecDepth 100000 in
theorem k_M_cleanWay {r : Nat} (hr : r < 128) (h10 : NB (m.2 10 r)) : Con l G y_M_cleanWay c_M_cleanWay 3 (some .int) (rz 1 20) [.ref (a 40), .int (nI r)] (mF G a m.1 m.2) (DI (cw2 m r).2 (mF G a (cw2 m r).1.1 (cw2 m r).1.2)) := by
  refine Con.of rfl rfl (fun X C E hR hl hnm => ?_)
  obtain ⟨b, hb, eb⟩ := h10
  unfold cw2 at E
  refine e_aload_n C d_M_cleanWay_0 rfl ?_
  refine e_get C 0 (k := 7) in_M g751 d_M_cleanWay_1 rfl rfl rfl rfl ?_
  refine e_iload_n C d_M_cleanWay_4 rfl ?_
  refine e_zald C 1 1 d_M_cleanWay_5 rfl rfl r rfl hr (by omega) ?_
  refine e_if_eq C d_M_cleanWay_6 (tgt := 21) (by decide) (fun h6 => ?_) (fun h6 => ?_)
  · have h6 : m.2 7 r = 0 := h6
    rw [if_pos h6] at E
    refine e_iconst C d_M_cleanWay_21 (v := 0) (by decide) ?_
    refine e_istore_n C d_M_cleanWay_22 rfl ?_
    refine e_aload_n C d_M_cleanWay_23 rfl ?_
    refine e_get C 0 (k := 7) in_M g751 d_M_cleanWay_24 rfl rfl rfl rfl ?_
    refine e_iload_n C d_M_cleanWay_27 rfl ?_
    refine e_zald C 1 1 d_M_cleanWay_28 rfl rfl r rfl hr (by omega) ?_
    refine e_if_eq C d_M_cleanWay_29 (tgt := 39) (by decide) (fun h29 => ?_) (fun h29 => ?_)
    · skip
      refine e_aload_n C d_M_cleanWay_39 rfl ?_
      refine e_get C 0 (k := 34) in_M g778 d_M_cleanWay_40 rfl rfl rfl rfl ?_
      refine e_bipush C d_M_cleanWay_43 (v := 7) (by decide) ?_
      refine e_dup2 C d_M_cleanWay_45 rfl rfl ?_
      refine e_iald C 22 0 d_M_cleanWay_46 rfl rfl 7 rfl (by omega) (by omega) ?_
      refine e_iload_n C d_M_cleanWay_47 rfl ?_
      refine e_iadd C d_M_cleanWay_48 ?_
      refine e_iast C 22 0 d_M_cleanWay_49 rfl rfl 7 rfl (by omega) (by omega) ?_
      refine e_iload_n C d_M_cleanWay_50 rfl ?_
      exact e_iret C E d_M_cleanWay_51 (Nat.le_refl _) (Nat.le_refl _) rfl ⟨rfl, rfl⟩
    · exact absurd h6 h29
  · have h6 : ¬ m.2 7 r = 0 := h6
    rw [if_neg h6, show popI (m.2 10 r) = nI (pop4 b) by rw [eb, popI_eq hb]] at E
    refine e_aload_n C d_M_cleanWay_9 rfl ?_
    refine e_get C 0 (k := 10) in_M g754 d_M_cleanWay_10 rfl rfl rfl rfl ?_
    refine e_iload_n C d_M_cleanWay_13 rfl ?_
    refine e_iald C 4 0 d_M_cleanWay_14 rfl rfl r rfl hr (by omega) ?_
    refine e_top eb ?_
    refine e_cSi C hR (k_M_ones hb) g977 g14 g975 g976 d_M_cleanWay_15 rfl ey_M_ones rfl rfl ⟨Nat.zero_le _, Nat.zero_le _⟩ ?_
    refine e_goto C d_M_cleanWay_18 (tgt := 22) (by decide) ?_
    refine e_istore_n C d_M_cleanWay_22 rfl ?_
    refine e_aload_n C d_M_cleanWay_23 rfl ?_
    refine e_get C 0 (k := 7) in_M g751 d_M_cleanWay_24 rfl rfl rfl rfl ?_
    refine e_iload_n C d_M_cleanWay_27 rfl ?_
    refine e_zald C 1 1 d_M_cleanWay_28 rfl rfl r rfl hr (by omega) ?_
    refine e_if_eq C d_M_cleanWay_29 (tgt := 39) (by decide) (fun h29 => ?_) (fun h29 => ?_)
    · exact absurd h29 h6
    · skip
      refine e_aload_n C d_M_cleanWay_32 rfl ?_
      refine e_get C 0 (k := 10) in_M g754 d_M_cleanWay_33 rfl rfl rfl rfl ?_
      refine e_iload_n C d_M_cleanWay_36 rfl ?_
      refine e_iconst C d_M_cleanWay_37 (v := 0) (by decide) ?_
      refine e_iast C 4 0 d_M_cleanWay_38 rfl rfl r rfl hr (by omega) ?_
      refine e_aload_n C d_M_cleanWay_39 rfl ?_
      refine e_get C 0 (k := 34) in_M g778 d_M_cleanWay_40 rfl rfl rfl rfl ?_
      refine e_bipush C d_M_cleanWay_43 (v := 7) (by decide) ?_
      refine e_dup2 C d_M_cleanWay_45 rfl rfl ?_
      refine e_iald C 22 0 d_M_cleanWay_46 rfl rfl 7 rfl (by omega) (by omega) ?_
      refine e_iload_n C d_M_cleanWay_47 rfl ?_
      refine e_iadd C d_M_cleanWay_48 ?_
      refine e_iast C 22 0 d_M_cleanWay_49 rfl rfl 7 rfl (by omega) (by omega) ?_
      refine e_iload_n C d_M_cleanWay_50 rfl ?_
      exact e_iret C E d_M_cleanWay_51 (Nat.le_refl _) (Nat.le_refl _) rfl ⟨rfl, rfl⟩
set_option maxRecDepth 100000 in
theorem k_M_cleanRow {r : Nat} (hr : r < 5) (h24 : NB (m.2 24 r)) : Con l G y_M_cleanRow c_M_cleanRow 3 (some .int) (rz 1 20) [.ref (a 40), .int (nI r)] (mF G a m.1 m.2) (DI (cr2 m r).2 (mF G a (cr2 m r).1.1 (cr2 m r).1.2)) := by
  refine Con.of rfl rfl (fun X C E hR hl hnm => ?_)
  obtain ⟨b, hb, eb⟩ := h24
  unfold cr2 at E
  rw [show popI (m.2 24 r) = nI (pop4 b) by rw [eb, popI_eq hb]] at E
  refine e_aload_n C d_M_cleanRow_0 rfl ?_
  refine e_get C 0 (k := 24) in_M g768 d_M_cleanRow_1 rfl rfl rfl rfl ?_
  refine e_iload_n C d_M_cleanRow_4 rfl ?_
  refine e_iald C 15 0 d_M_cleanRow_5 rfl rfl r rfl hr (by omega) ?_
  refine e_top eb ?_
  refine e_cSi C hR (k_M_ones hb) g977 g14 g975 g976 d_M_cleanRow_6 rfl ey_M_ones rfl rfl ⟨Nat.zero_le _, Nat.zero_le _⟩ ?_
  refine e_istore_n C d_M_cleanRow_9 rfl ?_
  refine e_aload_n C d_M_cleanRow_10 rfl ?_
  refine e_get C 0 (k := 24) in_M g768 d_M_cleanRow_11 rfl rfl rfl rfl ?_
  refine e_iload_n C d_M_cleanRow_14 rfl ?_
  refine e_iconst C d_M_cleanRow_15 (v := 0) (by decide) ?_
  refine e_iast C 15 0 d_M_cleanRow_16 rfl rfl r rfl hr (by omega) ?_
  refine e_aload_n C d_M_cleanRow_17 rfl ?_
  refine e_get C 0 (k := 34) in_M g778 d_M_cleanRow_18 rfl rfl rfl rfl ?_
  refine e_bipush C d_M_cleanRow_21 (v := 7) (by decide) ?_
  refine e_dup2 C d_M_cleanRow_23 rfl rfl ?_
  refine e_iald C 22 0 d_M_cleanRow_24 rfl rfl 7 rfl (by omega) (by omega) ?_
  refine e_iload_n C d_M_cleanRow_25 rfl ?_
  refine e_iadd C d_M_cleanRow_26 ?_
  refine e_iast C 22 0 d_M_cleanRow_27 rfl rfl 7 rfl (by omega) (by omega) ?_
  refine e_iload_n C d_M_cleanRow_28 rfl ?_
  exact e_iret C E d_M_cleanRow_29 (Nat.le_refl _) (Nat.le_refl _) rfl ⟨rfl, rfl⟩
set_option maxRecDepth 100000 in
theorem k_M_clean (h : MI S wd V kd m) (x : Int32) : Con l G y_M_clean c_M_clean 4 (some .int) (rz 2 45) [.ref (a 40), .int x] (mF G a m.1 m.2) (DI (cl2 S wd m x).2 (mF G a (cl2 S wd m x).1.1 (cl2 S wd m x).1.2)) := by
  refine Con.of rfl rfl (fun X C E hR hl hnm => ?_)
  obtain ⟨hD, hM, ⟨z, hzV, hz⟩, hh, h10, h24⟩ := id h
  have hV := hD.2.2.2.2.2.2.1
  have hS := hD.S16
  have hw8 := hD.w8
  have hsn := hD.lt x
  have hze := nzM_eq hz (by omega)
  unfold cl2 fdM frM at E
  rw [hze] at E
  refine e_aload_n C d_M_clean_0 rfl ?_
  refine e_iconst C d_M_clean_1 (v := 0) (by decide) ?_
  refine e_put C 0 (k := 0) in_M tk_M nm_M g744 d_M_clean_2 rfl rfl rfl rfl rfl rfl rfl rfl ?_
  refine e_eq (ws' := mF G a (th0 m).1 (th0 m).2) rfl ?_
  refine e_aload_n C d_M_clean_5 rfl ?_
  refine e_iload_n C d_M_clean_6 rfl ?_
  refine e_cVi C hR 0 (k_M_find (m := th0 m) hD x) g879 g14 g876 g878 (gt_sel 13 (by decide +kernel) (by decide +kernel)) d_M_clean_7 rfl ey_M_find rfl rfl rfl rfl ⟨Nat.zero_le _, Nat.zero_le _⟩ ?_
  refine e_istore_n C d_M_clean_10 rfl ?_
  refine e_aload_n C d_M_clean_11 rfl ?_
  refine e_iload_n C d_M_clean_12 rfl ?_
  refine e_cVi C hR 0 (k_M_findRow (m := th0 m) hz (by omega) x) g915 g14 g912 g914 (gt_sel 22 (by decide +kernel) (by decide +kernel)) d_M_clean_13 rfl ey_M_findRow rfl rfl rfl rfl ⟨Nat.zero_le _, Nat.zero_le _⟩ ?_
  refine e_istore_n C d_M_clean_16 rfl ?_
  refine e_iload_n C d_M_clean_17 rfl ?_
  refine e_if_lt C d_M_clean_18 (tgt := 29) (by decide) (fun h18 => ?_) (fun h18 => ?_)
  · rw [oI_lt (lb (by omega))] at h18
    rw [show lstG (hasM m.2 x) none (8 * sN S x) wd = none from h18] at E
    dsimp only at E
    refine e_iload_n C d_M_clean_29 rfl ?_
    refine e_if_lt C d_M_clean_30 (tgt := 41) (by decide) (fun h30 => ?_) (fun h30 => ?_)
    · rw [oI_lt (lb (by omega))] at h30
      rw [show lstG (fun k => m.2 22 k == x) none 0 z = none from h30] at E
      refine e_iconst C d_M_clean_41 (v := 0) (by decide) ?_
      exact e_iret C E d_M_clean_42 (Nat.le_refl _) (Nat.le_refl _) rfl ⟨rfl, rfl⟩
    · rw [oI_lt (lb (by omega))] at h30
      obtain ⟨r, hr⟩ := Option.ne_none_iff_exists'.mp h30
      have hr : lstG (fun k => m.2 22 k == x) none 0 z = some r := hr
      have hr2 := lstG_rng (lo := 0) (hi := z) (Nat.le_refl _) (by omega) (fun j hj => by cases hj) hr
      rw [hr] at E
      refine e_lv [(0, .ref (a 40)), (3, .int (nI r))] (by rw [show lstG (fun k => (th0 m).2 22 k == x) none 0 z = some r from hr]; rfl) ?_
      refine e_aload_n C d_M_clean_33 rfl ?_
      refine e_iload_n C d_M_clean_34 rfl ?_
      refine e_cVi C hR 0 (k_M_cleanRow (m := th0 m) (show r < 5 by omega) (h24 r)) g1017 g14 g1014 g1016 (gt_sel 41 (by decide +kernel) (by decide +kernel)) d_M_clean_35 rfl ey_M_cleanRow rfl rfl rfl rfl ⟨Nat.zero_le _, Nat.zero_le _⟩ ?_
      refine e_goto C d_M_clean_38 (tgt := 42) (by decide) ?_
      exact e_iret C E d_M_clean_42 (Nat.le_refl _) (Nat.le_refl _) rfl ⟨rfl, rfl⟩
  · rw [oI_lt (lb (by omega))] at h18
    obtain ⟨r, hr⟩ := Option.ne_none_iff_exists'.mp h18
    have hr : lstG (hasM m.2 x) none (8 * sN S x) wd = some r := hr
    have hr2 := lstG_rng (lo := 8 * sN S x) (hi := 8 * sN S x + wd) (Nat.le_refl _) (Nat.le_refl _) (fun j hj => by cases hj) hr
    rw [hr] at E
    refine e_lv [(0, .ref (a 40)), (2, .int (nI r))] (by rw [show lstG (hasM (th0 m).2 x) none (8 * sN S x) wd = some r from hr]; rfl) ?_
    refine e_aload_n C d_M_clean_21 rfl ?_
    refine e_iload_n C d_M_clean_22 rfl ?_
    refine e_cVi C hR 0 (k_M_cleanWay (m := th0 m) (show r < 128 by omega) (h10 r)) g1013 g14 g1010 g1012 (gt_sel 40 (by decide +kernel) (by decide +kernel)) d_M_clean_23 rfl ey_M_cleanWay rfl rfl rfl rfl ⟨Nat.zero_le _, Nat.zero_le _⟩ ?_
    refine e_goto C d_M_clean_26 (tgt := 42) (by decide) ?_
    exact e_iret C E d_M_clean_42 (Nat.le_refl _) (Nat.le_refl _) rfl ⟨rfl, rfl⟩
set_option maxRecDepth 100000 in
theorem k_M_drop (h : MI S wd V kd m) (x : Int32) : Con l G y_M_drop c_M_drop 5 (some .int) (rz 2 45) [.ref (a 40), .int x] (mF G a m.1 m.2) (DI (dp2 S wd m x).2 (mF G a (dp2 S wd m x).1.1 (dp2 S wd m x).1.2)) := by
  refine Con.of rfl rfl (fun X C E hR hl hnm => ?_)
  obtain ⟨hD, hM, ⟨z, hzV, hz⟩, hh, h10, h24⟩ := id h
  have hV := hD.2.2.2.2.2.2.1
  have hS := hD.S16
  have hw8 := hD.w8
  have hsn := hD.lt x
  have hze := nzM_eq hz (by omega)
  unfold dp2 fdM frM at E
  rw [hze] at E
  refine e_aload_n C d_M_drop_0 rfl ?_
  refine e_iconst C d_M_drop_1 (v := 0) (by decide) ?_
  refine e_put C 0 (k := 0) in_M tk_M nm_M g744 d_M_drop_2 rfl rfl rfl rfl rfl rfl rfl rfl ?_
  refine e_eq (ws' := mF G a (th0 m).1 (th0 m).2) rfl ?_
  refine e_aload_n C d_M_drop_5 rfl ?_
  refine e_iload_n C d_M_drop_6 rfl ?_
  refine e_cVi C hR 0 (k_M_find (m := th0 m) hD x) g879 g14 g876 g878 (gt_sel 13 (by decide +kernel) (by decide +kernel)) d_M_drop_7 rfl ey_M_find rfl rfl rfl rfl ⟨Nat.zero_le _, Nat.zero_le _⟩ ?_
  refine e_istore_n C d_M_drop_10 rfl ?_
  refine e_aload_n C d_M_drop_11 rfl ?_
  refine e_iload_n C d_M_drop_12 rfl ?_
  refine e_cVi C hR 0 (k_M_findRow (m := th0 m) hz (by omega) x) g915 g14 g912 g914 (gt_sel 22 (by decide +kernel) (by decide +kernel)) d_M_drop_13 rfl ey_M_findRow rfl rfl rfl rfl ⟨Nat.zero_le _, Nat.zero_le _⟩ ?_
  refine e_istore_n C d_M_drop_16 rfl ?_
  refine e_iload_n C d_M_drop_17 rfl ?_
  refine e_if_lt C d_M_drop_18 (tgt := 45) (by decide) (fun h18 => ?_) (fun h18 => ?_)
  · rw [oI_lt (lb (by omega))] at h18
    rw [show lstG (hasM m.2 x) none (8 * sN S x) wd = none from h18] at E
    dsimp only at E
    refine e_iload_n C d_M_drop_45 rfl ?_
    refine e_if_ge C d_M_drop_46 (tgt := 51) (by decide) (fun h46 => ?_) (fun h46 => ?_)
    · have hn : ¬ lstG (fun k => m.2 22 k == x) none 0 z = none := by
        rw [← oI_lt (lb (by omega))]
        exact fun q => absurd h46 (Int32.not_le.mpr q)
      obtain ⟨r, hr⟩ := Option.ne_none_iff_exists'.mp hn
      have hr2 := lstG_rng (lo := 0) (hi := z) (Nat.le_refl _) (by omega) (fun j hj => by cases hj) hr
      obtain ⟨b, hb, eb⟩ := h24 r
      rw [hr] at E
      dsimp only at E
      rw [show popI (m.2 24 r) = nI (pop4 b) by rw [eb, popI_eq hb]] at E
      have hz1 : (th0 m).1 21 = nI (z - 1 + 1) := by show m.1 21 = _; rw [hz, show z - 1 + 1 = z by omega]
      refine e_lv [(0, .ref (a 40)), (3, .int (nI r))] (by rw [show lstG (fun k => (th0 m).2 22 k == x) none 0 z = some r from hr]; rfl) ?_
      refine e_aload_n C d_M_drop_51 rfl ?_
      refine e_get C 0 (k := 24) in_M g768 d_M_drop_52 rfl rfl rfl rfl ?_
      refine e_iload_n C d_M_drop_55 rfl ?_
      refine e_iald C 15 0 d_M_drop_56 rfl rfl r rfl (by omega) (by omega) ?_
      refine e_top eb ?_
      refine e_cSi C hR (k_M_ones hb) g977 g14 g975 g976 d_M_drop_57 rfl ey_M_ones rfl rfl ⟨Nat.zero_le _, Nat.zero_le _⟩ ?_
      refine e_istore C d_M_drop_60 rfl ?_
      refine e_aload_n C d_M_drop_62 rfl ?_
      refine e_iload_n C d_M_drop_63 rfl ?_
      refine e_cVv C hR 0 (k_M_takeRow (m := th0 m) (z := z - 1) hz1 (by omega) (show r ≤ z - 1 by omega)) g927 g14 g924 g926 (gt_sel 25 (by decide +kernel) (by decide +kernel)) d_M_drop_64 rfl ey_M_takeRow rfl rfl rfl rfl ⟨Nat.zero_le _, Nat.zero_le _⟩ ?_
      refine e_iload C d_M_drop_67 rfl ?_
      exact e_iret C E d_M_drop_69 (Nat.le_refl _) (Nat.le_refl _) rfl ⟨rfl, rfl⟩
    · have hn : lstG (fun k => m.2 22 k == x) none 0 z = none := by
        rw [← oI_lt (lb (by omega))]
        exact Int32.not_le.mp h46
      rw [hn] at E
      refine e_iconst C d_M_drop_49 (v := (-1)) (by decide) ?_
      exact e_iret C E d_M_drop_50 (Nat.le_refl _) (Nat.le_refl _) rfl ⟨rfl, rfl⟩
  · rw [oI_lt (lb (by omega))] at h18
    obtain ⟨r, hr⟩ := Option.ne_none_iff_exists'.mp h18
    have hr : lstG (hasM m.2 x) none (8 * sN S x) wd = some r := hr
    have hr2 := lstG_rng (lo := 8 * sN S x) (hi := 8 * sN S x + wd) (Nat.le_refl _) (Nat.le_refl _) (fun j hj => by cases hj) hr
    obtain ⟨b, hb, eb⟩ := h10 r
    rw [hr] at E
    dsimp only at E
    rw [show popI (m.2 10 r) = nI (pop4 b) by rw [eb, popI_eq hb]] at E
    refine e_lv [(0, .ref (a 40)), (2, .int (nI r))] (by rw [show lstG (hasM (th0 m).2 x) none (8 * sN S x) wd = some r from hr]; rfl) ?_
    refine e_aload_n C d_M_drop_21 rfl ?_
    refine e_get C 0 (k := 7) in_M g751 d_M_drop_22 rfl rfl rfl rfl ?_
    refine e_iload_n C d_M_drop_25 rfl ?_
    refine e_iconst C d_M_drop_26 (v := 0) (by decide) ?_
    refine e_zast C 1 1 d_M_drop_27 rfl rfl r rfl (by omega) (by omega) rfl ?_
    refine e_aload_n C d_M_drop_28 rfl ?_
    refine e_get C 0 (k := 11) in_M g755 d_M_drop_29 rfl rfl rfl rfl ?_
    refine e_iload_n C d_M_drop_32 rfl ?_
    refine e_iconst C d_M_drop_33 (v := 0) (by decide) ?_
    refine e_zast C 5 1 d_M_drop_34 rfl rfl r rfl (by omega) (by omega) rfl ?_
    refine e_aload_n C d_M_drop_35 rfl ?_
    refine e_get C 0 (k := 10) in_M g754 d_M_drop_36 rfl rfl rfl rfl ?_
    refine e_iload_n C d_M_drop_39 rfl ?_
    refine e_iald C 4 0 d_M_drop_40 rfl rfl r rfl (by omega) (by omega) ?_
    refine e_top eb ?_
    refine e_cSi C hR (k_M_ones hb) g977 g14 g975 g976 d_M_drop_41 rfl ey_M_ones rfl rfl ⟨Nat.zero_le _, Nat.zero_le _⟩ ?_
    exact e_iret C E d_M_drop_44 (Nat.le_refl _) (Nat.le_refl _) rfl ⟨rfl, rfl⟩
/-- slots cleaned: the first k -/
def cAw : Nat → CS → Int32 → CS × Int32
  | 0, m, y => (m, y)
  | k + 1, m, y => ((cw2 (cAw k m y).1 k).1, (cAw k m y).2 + (cw2 (cAw k m y).1 k).2)
def cAr : Nat → CS → Int32 → CS × Int32
  | 0, m, y => (m, y)
  | k + 1, m, y => ((cr2 (cAr k m y).1 k).1, (cAr k m y).2 + (cr2 (cAr k m y).1 k).2)
theorem cw2_MI {S wd V kd : Nat} {m : CS} (h : MI S wd V kd m) (r : Nat) : MI S wd V kd (cw2 m r).1 := by
  unfold cw2
  split
  · exact cnt_MI h _ _
  · refine cnt_MI ?_ _ _
    obtain ⟨hD, hM, hz, hh, h10, h24⟩ := h
    exact ⟨hD, MR_of hD.2.2.2.2.2.2.2 hM rfl id rfl rfl, hz, hh, NB.up h10 _ NB.z, h24⟩
theorem cr2_MI {S wd V kd : Nat} {m : CS} (h : MI S wd V kd m) (r : Nat) : MI S wd V kd (cr2 m r).1 := by
  unfold cr2
  refine cnt_MI ?_ _ _
  obtain ⟨hD, hM, hz, hh, h10, h24⟩ := h
  exact ⟨hD, MR_of hD.2.2.2.2.2.2.2 hM rfl id rfl rfl, hz, hh, h10, NB.up h24 _ NB.z⟩
theorem cAw_MI {S wd V kd : Nat} {m : CS} (h : MI S wd V kd m) (y : Int32) : ∀ k, MI S wd V kd (cAw k m y).1 ∧ (cAw k m y).1.1 = m.1
  | 0 => ⟨h, rfl⟩
  | k + 1 => by
    have := cAw_MI h y k
    refine ⟨cw2_MI this.1 k, ?_⟩
    show (cw2 _ k).1.1 = m.1
    unfold cw2
    split <;> exact this.2
theorem cAr_MI {S wd V kd : Nat} {m : CS} (h : MI S wd V kd m) (y : Int32) : ∀ k, MI S wd V kd (cAr k m y).1 ∧ (cAr k m y).1.1 = m.1
  | 0 => ⟨h, rfl⟩
  | k + 1 => by
    have := cAr_MI h y k
    exact ⟨cr2_MI this.1 k, this.2⟩
set_option maxRecDepth 100000 in
theorem k_M_cleanAll (h : MI S wd V kd m) {z : Nat} (hz : m.1 21 = nI z) (hzV : z ≤ V) : Con l G y_M_cleanAll c_M_cleanAll 3 (some .int) (rz 2 42) [.ref (a 40)] (mF G a m.1 m.2) (DI (cAr z (cAw 128 (th0 m) 0).1 (cAw 128 (th0 m) 0).2).2 (mF G a (cAr z (cAw 128 (th0 m) 0).1 (cAw 128 (th0 m) 0).2).1.1 (cAr z (cAw 128 (th0 m) 0).1 (cAw 128 (th0 m) 0).2).1.2)) := by
  refine Con.of rfl rfl (fun X C E hR hl hnm => ?_)
  have hV := h.1.2.2.2.2.2.2.1
  have h0 := th0_MI h
  refine e_aload_n C d_M_cleanAll_0 rfl ?_
  refine e_iconst C d_M_cleanAll_1 (v := 0) (by decide) ?_
  refine e_put C 0 (k := 0) in_M tk_M nm_M g744 d_M_cleanAll_2 rfl rfl rfl rfl rfl rfl rfl rfl ?_
  refine e_eq (ws' := mF G a (th0 m).1 (th0 m).2) rfl ?_
  refine e_iconst C d_M_cleanAll_5 (v := 0) (by decide) ?_
  refine e_istore_n C d_M_cleanAll_6 rfl ?_
  refine e_iconst C d_M_cleanAll_7 (v := 0) (by decide) ?_
  refine e_istore_n C d_M_cleanAll_8 rfl ?_
  have L : ∀ (q k : Nat), k + q = 128 → EW X G 3 0 0 9 [(0, .ref (a 40)), (1, .int (cAw k (th0 m) 0).2), (2, .int (nI k))] [] (mF G a (cAw k (th0 m) 0).1.1 (cAw k (th0 m) 0).1.2) := by
    intro q
    induction q with
    | zero =>
      intro k hk
      obtain rfl : k = 128 := by omega
      refine e_iload_n C d_M_cleanAll_9 rfl ?_
      refine e_sipush C d_M_cleanAll_10 (v := nI 128) (by decide) ?_
      refine e_icmp_ge C d_M_cleanAll_13 (tgt := 30) (by decide) (fun h13 => ?_) (fun h13 => ?_)
      · skip
        refine e_iconst C d_M_cleanAll_30 (v := 0) (by decide) ?_
        refine e_istore_n C d_M_cleanAll_31 rfl ?_
        have hm := cAw_MI h0 0 128
        generalize cAw 128 (th0 m) 0 = t at hm E ⊢
        have hz1 : t.1.1 21 = nI z := by rw [hm.2]; exact hz
        have L2 : ∀ (q k : Nat), k + q = z → EW X G 3 0 0 32 [(0, .ref (a 40)), (1, .int (cAr k t.1 t.2).2), (2, .int (nI k))] [] (mF G a (cAr k t.1 t.2).1.1 (cAr k t.1 t.2).1.2) := by
          intro q
          induction q with
          | zero =>
            intro k hk
            obtain rfl : k = z := by omega
            have hr := cAr_MI hm.1 t.2 k
            refine e_iload_n C d_M_cleanAll_32 rfl ?_
            refine e_aload_n C d_M_cleanAll_33 rfl ?_
            refine e_get C 0 (k := 21) in_M g765 d_M_cleanAll_34 rfl rfl rfl rfl ?_
            refine e_top (show _ = nI k by rw [hr.2]; exact hz1) ?_
            refine e_icmp_ge C d_M_cleanAll_37 (tgt := 54) (by decide) (fun h37 => ?_) (fun h37 => ?_)
            · skip
              refine e_iload_n C d_M_cleanAll_54 rfl ?_
              exact e_iret C E d_M_cleanAll_55 (Nat.le_refl _) (Nat.le_refl _) rfl ⟨rfl, rfl⟩
            · exact absurd (nI_le (Nat.le_refl _) (by omega)) h37
          | succ q ih =>
            intro k hk
            have hr := cAr_MI hm.1 t.2 k
            refine e_iload_n C d_M_cleanAll_32 rfl ?_
            refine e_aload_n C d_M_cleanAll_33 rfl ?_
            refine e_get C 0 (k := 21) in_M g765 d_M_cleanAll_34 rfl rfl rfl rfl ?_
            refine e_top (show _ = nI z by rw [hr.2]; exact hz1) ?_
            refine e_icmp_ge C d_M_cleanAll_37 (tgt := 54) (by decide) (fun h37 => ?_) (fun h37 => ?_)
            · exact absurd h37 (nI_ge (by omega) (by omega))
            · skip
              refine e_iload_n C d_M_cleanAll_40 rfl ?_
              refine e_aload_n C d_M_cleanAll_41 rfl ?_
              refine e_iload_n C d_M_cleanAll_42 rfl ?_
              refine e_cVi C hR 0 (k_M_cleanRow (show k < 5 by omega) (hr.1.2.2.2.2.2 k)) g1017 g14 g1014 g1016 (gt_sel 41 (by decide +kernel) (by decide +kernel)) d_M_cleanAll_43 rfl ey_M_cleanRow rfl rfl rfl rfl ⟨Nat.zero_le _, Nat.zero_le _⟩ ?_
              refine e_iadd C d_M_cleanAll_46 ?_
              refine e_istore_n C d_M_cleanAll_47 rfl ?_
              refine e_iinc C d_M_cleanAll_48 rfl (nI_1 k) rfl ?_
              refine e_goto C d_M_cleanAll_51 (tgt := 32) (by decide) ?_
              exact e_lv2 (ih (k + 1) (by omega)) rfl
        exact e_lv2 (L2 z 0 (by omega)) rfl
      · exact absurd (nI_le (Nat.le_refl _) (by omega)) h13
    | succ q ih =>
      intro k hk
      have hm := cAw_MI h0 0 k
      refine e_iload_n C d_M_cleanAll_9 rfl ?_
      refine e_sipush C d_M_cleanAll_10 (v := nI 128) (by decide) ?_
      refine e_icmp_ge C d_M_cleanAll_13 (tgt := 30) (by decide) (fun h13 => ?_) (fun h13 => ?_)
      · exact absurd h13 (nI_ge (by omega) (by omega))
      · skip
        refine e_iload_n C d_M_cleanAll_16 rfl ?_
        refine e_aload_n C d_M_cleanAll_17 rfl ?_
        refine e_iload_n C d_M_cleanAll_18 rfl ?_
        refine e_cVi C hR 0 (k_M_cleanWay (show k < 128 by omega) (hm.1.2.2.2.2.1 k)) g1013 g14 g1010 g1012 (gt_sel 40 (by decide +kernel) (by decide +kernel)) d_M_cleanAll_19 rfl ey_M_cleanWay rfl rfl rfl rfl ⟨Nat.zero_le _, Nat.zero_le _⟩ ?_
        refine e_iadd C d_M_cleanAll_22 ?_
        refine e_istore_n C d_M_cleanAll_23 rfl ?_
        refine e_iinc C d_M_cleanAll_24 rfl (nI_1 k) rfl ?_
        refine e_goto C d_M_cleanAll_27 (tgt := 9) (by decide) ?_
        exact e_lv2 (ih (k + 1) (by omega)) rfl
  exact e_lv2 (L 128 0 rfl) rfl
theorem k_M_way1 (h : MD m.1 S wd V kd) {x y q : Int32} (ho : OUT x S ∨ OUT y wd ∨ OUT q 5) : Con l G y_M_way c_M_way 5 (some .int) (rz 1 22) [.ref (a 40), .int x, .int y, .int q] (mF G a m.1 m.2) (DI 0 (mF G a (upd (th0 m).1 0 1) m.2)) := by
  refine Con.of rfl rfl (fun X C E hR hl hnm => ?_)
  have hS := h.S16
  have hw8 := h.w8
  refine e_aload_n C d_M_way_0 rfl ?_
  refine e_iconst C d_M_way_1 (v := 0) (by decide) ?_
  refine e_put C 0 (k := 0) in_M tk_M nm_M g744 d_M_way_2 rfl rfl rfl rfl rfl rfl rfl rfl ?_
  refine e_eq (ws' := mF G a (th0 m).1 (th0 m).2) rfl ?_
  refine e_iload_n C d_M_way_5 rfl ?_
  refine e_iconst C d_M_way_6 (v := 0) (by decide) ?_
  refine e_aload_n C d_M_way_7 rfl ?_
  refine e_get C 0 (k := 1) in_M g745 d_M_way_8 rfl rfl rfl rfl ?_
  refine e_top (show _ = nI S from h.1) ?_
  refine e_iconst C d_M_way_11 (v := 1) (by decide) ?_
  refine e_isub C d_M_way_12 ?_
  refine e_cSi C hR (k_M_within _ _ _) g867 g14 g865 g866 d_M_way_13 rfl ey_M_within rfl rfl ⟨Nat.zero_le _, Nat.zero_le _⟩ ?_
  refine e_if_eq C d_M_way_16 (tgt := 42) (by decide) (fun h16 => ?_) (fun h16 => ?_)
  · skip
    refine e_aload_n C d_M_way_42 rfl ?_
    refine e_iconst C d_M_way_43 (v := 1) (by decide) ?_
    refine e_cVi C hR 0 (k_M_fail 1) g985 g14 g982 g984 (gt_sel 38 (by decide +kernel) (by decide +kernel)) d_M_way_44 rfl ey_M_fail rfl rfl rfl rfl ⟨Nat.zero_le _, Nat.zero_le _⟩ ?_
    exact e_iret C E d_M_way_47 (Nat.le_refl _) (Nat.le_refl _) rfl ⟨rfl, rfl⟩
  · rw [bI_n] at h16
    have h2 : OUT y wd ∨ OUT q 5 := by
      rcases ho with h | h
      · rw [within_f (by omega) h] at h16
        cases h16
      · exact h
    refine e_iload_n C d_M_way_19 rfl ?_
    refine e_iconst C d_M_way_20 (v := 0) (by decide) ?_
    refine e_aload_n C d_M_way_21 rfl ?_
    refine e_get C 0 (k := 2) in_M g746 d_M_way_22 rfl rfl rfl rfl ?_
    refine e_top (show _ = nI wd from h.2.1) ?_
    refine e_iconst C d_M_way_25 (v := 1) (by decide) ?_
    refine e_isub C d_M_way_26 ?_
    refine e_cSi C hR (k_M_within _ _ _) g867 g14 g865 g866 d_M_way_27 rfl ey_M_within rfl rfl ⟨Nat.zero_le _, Nat.zero_le _⟩ ?_
    refine e_if_eq C d_M_way_30 (tgt := 42) (by decide) (fun h30 => ?_) (fun h30 => ?_)
    · skip
      refine e_aload_n C d_M_way_42 rfl ?_
      refine e_iconst C d_M_way_43 (v := 1) (by decide) ?_
      refine e_cVi C hR 0 (k_M_fail 1) g985 g14 g982 g984 (gt_sel 38 (by decide +kernel) (by decide +kernel)) d_M_way_44 rfl ey_M_fail rfl rfl rfl rfl ⟨Nat.zero_le _, Nat.zero_le _⟩ ?_
      exact e_iret C E d_M_way_47 (Nat.le_refl _) (Nat.le_refl _) rfl ⟨rfl, rfl⟩
    · rw [bI_n] at h30
      have h3 : OUT q 5 := by
        rcases h2 with h | h
        · rw [within_f (by omega) h] at h30
          cases h30
        · exact h
      refine e_iload_n C d_M_way_33 rfl ?_
      refine e_iconst C d_M_way_34 (v := 0) (by decide) ?_
      refine e_iconst C d_M_way_35 (v := 4) (by decide) ?_
      refine e_cSi C hR (k_M_within _ _ _) g867 g14 g865 g866 d_M_way_36 rfl ey_M_within rfl rfl ⟨Nat.zero_le _, Nat.zero_le _⟩ ?_
      refine e_if_ne C d_M_way_39 (tgt := 48) (by decide) (fun h39 => ?_) (fun h39 => ?_)
      · rw [bI_n] at h39
        have := within_f (n := 5) (by omega) h3
        rw [show nI 5 - 1 = (4 : Int32) by decide] at this
        rw [this] at h39
        cases h39
      · skip
        refine e_aload_n C d_M_way_42 rfl ?_
        refine e_iconst C d_M_way_43 (v := 1) (by decide) ?_
        refine e_cVi C hR 0 (k_M_fail 1) g985 g14 g982 g984 (gt_sel 38 (by decide +kernel) (by decide +kernel)) d_M_way_44 rfl ey_M_fail rfl rfl rfl rfl ⟨Nat.zero_le _, Nat.zero_le _⟩ ?_
        exact e_iret C E d_M_way_47 (Nat.le_refl _) (Nat.le_refl _) rfl ⟨rfl, rfl⟩
def wy2 (m : CS) (j q : Nat) : Int32 := if m.2 7 j = 0 then 0 else match q with
  | 0 => m.2 8 j
  | 1 => 1
  | 2 => m.2 9 j
  | 3 => m.2 10 j
  | _ => if m.2 11 j = 0 then 0 else 1
set_option maxRecDepth 100000 in
theorem k_M_way (h : MD m.1 S wd V kd) {s w q : Nat} (hs : s < S) (hw : w < wd) (hq : q < 5) : Con l G y_M_way c_M_way 5 (some .int) (rz 1 22) [.ref (a 40), .int (nI s), .int (nI w), .int (nI q)] (mF G a m.1 m.2) (DI (wy2 m (8 * s + w) q) (mF G a (th0 m).1 (th0 m).2)) := by
  refine Con.of rfl rfl (fun X C E hR hl hnm => ?_)
  have hS := h.S16
  have hw8 := h.w8
  have hlt : 8 * s + w < 128 := by omega
  refine e_aload_n C d_M_way_0 rfl ?_
  refine e_iconst C d_M_way_1 (v := 0) (by decide) ?_
  refine e_put C 0 (k := 0) in_M tk_M nm_M g744 d_M_way_2 rfl rfl rfl rfl rfl rfl rfl rfl ?_
  refine e_eq (ws' := mF G a (th0 m).1 (th0 m).2) rfl ?_
  refine e_iload_n C d_M_way_5 rfl ?_
  refine e_iconst C d_M_way_6 (v := 0) (by decide) ?_
  refine e_aload_n C d_M_way_7 rfl ?_
  refine e_get C 0 (k := 1) in_M g745 d_M_way_8 rfl rfl rfl rfl ?_
  refine e_top (show _ = nI S from h.1) ?_
  refine e_iconst C d_M_way_11 (v := 1) (by decide) ?_
  refine e_isub C d_M_way_12 ?_
  refine e_cSi C hR (k_M_within _ _ _) g867 g14 g865 g866 d_M_way_13 rfl ey_M_within rfl rfl ⟨Nat.zero_le _, Nat.zero_le _⟩ ?_
  refine e_if_eq C d_M_way_16 (tgt := 42) (by decide) (fun h16 => ?_) (fun h16 => ?_)
  · rw [bI_0, within_tn hs (by omega)] at h16
    cases h16
  · skip
    refine e_iload_n C d_M_way_19 rfl ?_
    refine e_iconst C d_M_way_20 (v := 0) (by decide) ?_
    refine e_aload_n C d_M_way_21 rfl ?_
    refine e_get C 0 (k := 2) in_M g746 d_M_way_22 rfl rfl rfl rfl ?_
    refine e_top (show _ = nI wd from h.2.1) ?_
    refine e_iconst C d_M_way_25 (v := 1) (by decide) ?_
    refine e_isub C d_M_way_26 ?_
    refine e_cSi C hR (k_M_within _ _ _) g867 g14 g865 g866 d_M_way_27 rfl ey_M_within rfl rfl ⟨Nat.zero_le _, Nat.zero_le _⟩ ?_
    refine e_if_eq C d_M_way_30 (tgt := 42) (by decide) (fun h30 => ?_) (fun h30 => ?_)
    · rw [bI_0, within_tn hw (by omega)] at h30
      cases h30
    · skip
      refine e_iload_n C d_M_way_33 rfl ?_
      refine e_iconst C d_M_way_34 (v := nI 0) (by decide) ?_
      refine e_iconst C d_M_way_35 (v := nI 4) (by decide) ?_
      refine e_cSi C hR (k_M_within _ _ _) g867 g14 g865 g866 d_M_way_36 rfl ey_M_within rfl rfl ⟨Nat.zero_le _, Nat.zero_le _⟩ ?_
      refine e_if_ne C d_M_way_39 (tgt := 48) (by decide) (fun h39 => ?_) (fun h39 => ?_)
      · skip
        refine e_bipush C d_M_way_48 (v := nI 8) (by decide) ?_
        refine e_iload_n C d_M_way_50 rfl ?_
        refine e_imul C d_M_way_51 ?_
        refine e_top (pk_mul _ _) ?_
        refine e_iload_n C d_M_way_52 rfl ?_
        refine e_iadd C d_M_way_53 ?_
        refine e_top (nI_add _ _) ?_
        refine e_istore C d_M_way_54 rfl ?_
        refine e_aload_n C d_M_way_56 rfl ?_
        refine e_get C 0 (k := 7) in_M g751 d_M_way_57 rfl rfl rfl rfl ?_
        refine e_iload C d_M_way_60 rfl ?_
        refine e_zald C 1 1 d_M_way_62 rfl rfl (8 * s + w) rfl hlt (by omega) ?_
        refine e_if_ne C d_M_way_63 (tgt := 68) (by decide) (fun h63 => ?_) (fun h63 => ?_)
        · have h63 : ¬ m.2 7 (8 * s + w) = 0 := h63
          unfold wy2 at E
          rw [if_neg h63] at E
          rcases (by omega : q = 0 ∨ q = 1 ∨ q = 2 ∨ q = 3 ∨ q = 4) with rfl | rfl | rfl | rfl | rfl
          · skip
            refine e_iload_n C d_M_way_68 rfl ?_
            refine e_if_ne C d_M_way_69 (tgt := 82) (by decide) (fun h69 => ?_) (fun h69 => ?_)
            · exact absurd rfl h69
            · skip
              refine e_aload_n C d_M_way_72 rfl ?_
              refine e_get C 0 (k := 8) in_M g752 d_M_way_73 rfl rfl rfl rfl ?_
              refine e_iload C d_M_way_76 rfl ?_
              refine e_iald C 2 0 d_M_way_78 rfl rfl (8 * s + w) rfl hlt (by omega) ?_
              refine e_goto C d_M_way_79 (tgt := 136) (by decide) ?_
              exact e_iret C E d_M_way_136 (Nat.le_refl _) (Nat.le_refl _) rfl ⟨rfl, rfl⟩
          · skip
            refine e_iload_n C d_M_way_68 rfl ?_
            refine e_if_ne C d_M_way_69 (tgt := 82) (by decide) (fun h69 => ?_) (fun h69 => ?_)
            · skip
              refine e_iload_n C d_M_way_82 rfl ?_
              refine e_iconst C d_M_way_83 (v := 1) (by decide) ?_
              refine e_icmp_ne C d_M_way_84 (tgt := 91) (by decide) (fun h84 => ?_) (fun h84 => ?_)
              · exact absurd (by decide) h84
              · skip
                refine e_iconst C d_M_way_87 (v := 1) (by decide) ?_
                refine e_goto C d_M_way_88 (tgt := 136) (by decide) ?_
                exact e_iret C E d_M_way_136 (Nat.le_refl _) (Nat.le_refl _) rfl ⟨rfl, rfl⟩
            · exact absurd h69 (by decide)
          · skip
            refine e_iload_n C d_M_way_68 rfl ?_
            refine e_if_ne C d_M_way_69 (tgt := 82) (by decide) (fun h69 => ?_) (fun h69 => ?_)
            · skip
              refine e_iload_n C d_M_way_82 rfl ?_
              refine e_iconst C d_M_way_83 (v := 1) (by decide) ?_
              refine e_icmp_ne C d_M_way_84 (tgt := 91) (by decide) (fun h84 => ?_) (fun h84 => ?_)
              · skip
                refine e_iload_n C d_M_way_91 rfl ?_
                refine e_iconst C d_M_way_92 (v := 2) (by decide) ?_
                refine e_icmp_ne C d_M_way_93 (tgt := 106) (by decide) (fun h93 => ?_) (fun h93 => ?_)
                · exact absurd (by decide) h93
                · skip
                  refine e_aload_n C d_M_way_96 rfl ?_
                  refine e_get C 0 (k := 9) in_M g753 d_M_way_97 rfl rfl rfl rfl ?_
                  refine e_iload C d_M_way_100 rfl ?_
                  refine e_iald C 3 0 d_M_way_102 rfl rfl (8 * s + w) rfl hlt (by omega) ?_
                  refine e_goto C d_M_way_103 (tgt := 136) (by decide) ?_
                  exact e_iret C E d_M_way_136 (Nat.le_refl _) (Nat.le_refl _) rfl ⟨rfl, rfl⟩
              · exact absurd h84 (by decide)
            · exact absurd h69 (by decide)
          · skip
            refine e_iload_n C d_M_way_68 rfl ?_
            refine e_if_ne C d_M_way_69 (tgt := 82) (by decide) (fun h69 => ?_) (fun h69 => ?_)
            · skip
              refine e_iload_n C d_M_way_82 rfl ?_
              refine e_iconst C d_M_way_83 (v := 1) (by decide) ?_
              refine e_icmp_ne C d_M_way_84 (tgt := 91) (by decide) (fun h84 => ?_) (fun h84 => ?_)
              · skip
                refine e_iload_n C d_M_way_91 rfl ?_
                refine e_iconst C d_M_way_92 (v := 2) (by decide) ?_
                refine e_icmp_ne C d_M_way_93 (tgt := 106) (by decide) (fun h93 => ?_) (fun h93 => ?_)
                · skip
                  refine e_iload_n C d_M_way_106 rfl ?_
                  refine e_iconst C d_M_way_107 (v := 3) (by decide) ?_
                  refine e_icmp_ne C d_M_way_108 (tgt := 121) (by decide) (fun h108 => ?_) (fun h108 => ?_)
                  · exact absurd (by decide) h108
                  · skip
                    refine e_aload_n C d_M_way_111 rfl ?_
                    refine e_get C 0 (k := 10) in_M g754 d_M_way_112 rfl rfl rfl rfl ?_
                    refine e_iload C d_M_way_115 rfl ?_
                    refine e_iald C 4 0 d_M_way_117 rfl rfl (8 * s + w) rfl hlt (by omega) ?_
                    refine e_goto C d_M_way_118 (tgt := 136) (by decide) ?_
                    exact e_iret C E d_M_way_136 (Nat.le_refl _) (Nat.le_refl _) rfl ⟨rfl, rfl⟩
                · exact absurd h93 (by decide)
              · exact absurd h84 (by decide)
            · exact absurd h69 (by decide)
          · skip
            refine e_iload_n C d_M_way_68 rfl ?_
            refine e_if_ne C d_M_way_69 (tgt := 82) (by decide) (fun h69 => ?_) (fun h69 => ?_)
            · skip
              refine e_iload_n C d_M_way_82 rfl ?_
              refine e_iconst C d_M_way_83 (v := 1) (by decide) ?_
              refine e_icmp_ne C d_M_way_84 (tgt := 91) (by decide) (fun h84 => ?_) (fun h84 => ?_)
              · skip
                refine e_iload_n C d_M_way_91 rfl ?_
                refine e_iconst C d_M_way_92 (v := 2) (by decide) ?_
                refine e_icmp_ne C d_M_way_93 (tgt := 106) (by decide) (fun h93 => ?_) (fun h93 => ?_)
                · skip
                  refine e_iload_n C d_M_way_106 rfl ?_
                  refine e_iconst C d_M_way_107 (v := 3) (by decide) ?_
                  refine e_icmp_ne C d_M_way_108 (tgt := 121) (by decide) (fun h108 => ?_) (fun h108 => ?_)
                  · skip
                    refine e_aload_n C d_M_way_121 rfl ?_
                    refine e_get C 0 (k := 11) in_M g755 d_M_way_122 rfl rfl rfl rfl ?_
                    refine e_iload C d_M_way_125 rfl ?_
                    refine e_zald C 5 1 d_M_way_127 rfl rfl (8 * s + w) rfl hlt (by omega) ?_
                    refine e_if_eq C d_M_way_128 (tgt := 135) (by decide) (fun h128 => ?_) (fun h128 => ?_)
                    · dsimp only at E
                      rw [if_pos (show m.2 11 (8 * s + w) = 0 from h128)] at E
                      refine e_iconst C d_M_way_135 (v := 0) (by decide) ?_
                      exact e_iret C E d_M_way_136 (Nat.le_refl _) (Nat.le_refl _) rfl ⟨rfl, rfl⟩
                    · dsimp only at E
                      rw [if_neg (show ¬ m.2 11 (8 * s + w) = 0 from h128)] at E
                      refine e_iconst C d_M_way_131 (v := 1) (by decide) ?_
                      refine e_goto C d_M_way_132 (tgt := 136) (by decide) ?_
                      exact e_iret C E d_M_way_136 (Nat.le_refl _) (Nat.le_refl _) rfl ⟨rfl, rfl⟩
                  · exact absurd h108 (by decide)
                · exact absurd h93 (by decide)
              · exact absurd h84 (by decide)
            · exact absurd h69 (by decide)
        · have h63 : m.2 7 (8 * s + w) = 0 := h63
          unfold wy2 at E
          rw [if_pos h63] at E
          refine e_iconst C d_M_way_66 (v := 0) (by decide) ?_
          exact e_iret C E d_M_way_67 (Nat.le_refl _) (Nat.le_refl _) rfl ⟨rfl, rfl⟩
      · rw [bI_0, within_t (lo := 0) (by omega) (show q ≤ 4 by omega) (by omega)] at h39
        cases h39
end M7
