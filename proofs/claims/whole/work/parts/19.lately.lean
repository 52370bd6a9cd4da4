/-! RULE 7 -/
theorem ey_Lately_setMark : eY y_Lately_setMark 2 = true := by decide +kernel
theorem d_Lately_setMark_0 : decode c_Lately_setMark 0 = .ok (.iload_n 1, 1) := by decide +kernel
theorem d_Lately_setMark_1 : decode c_Lately_setMark 1 = .ok (.aload_n 0, 1) := by decide +kernel
theorem d_Lately_setMark_2 : decode c_Lately_setMark 2 = .ok (.getfield 13, 3) := by decide +kernel
theorem d_Lately_setMark_5 : decode c_Lately_setMark 5 = .ok (.imul, 1) := by decide +kernel
theorem d_Lately_setMark_6 : decode c_Lately_setMark 6 = .ok (.istore_n 3, 1) := by decide +kernel
theorem d_Lately_setMark_7 : decode c_Lately_setMark 7 = .ok (.aload_n 0, 1) := by decide +kernel
theorem d_Lately_setMark_8 : decode c_Lately_setMark 8 = .ok (.getfield 7, 3) := by decide +kernel
theorem d_Lately_setMark_11 : decode c_Lately_setMark 11 = .ok (.iload_n 3, 1) := by decide +kernel
theorem d_Lately_setMark_12 : decode c_Lately_setMark 12 = .ok (.iload_n 2, 1) := by decide +kernel
theorem d_Lately_setMark_13 : decode c_Lately_setMark 13 = .ok (.iadd, 1) := by decide +kernel
theorem d_Lately_setMark_14 : decode c_Lately_setMark 14 = .ok (.iconst 1, 1) := by decide +kernel
theorem d_Lately_setMark_15 : decode c_Lately_setMark 15 = .ok (.bastore, 1) := by decide +kernel
theorem d_Lately_setMark_16 : decode c_Lately_setMark 16 = .ok (.iload_n 3, 1) := by decide +kernel
theorem d_Lately_setMark_17 : decode c_Lately_setMark 17 = .ok (.istore 4, 2) := by decide +kernel
theorem d_Lately_setMark_19 : decode c_Lately_setMark 19 = .ok (.iload 4, 2) := by decide +kernel
theorem d_Lately_setMark_21 : decode c_Lately_setMark 21 = .ok (.iload_n 3, 1) := by decide +kernel
theorem d_Lately_setMark_22 : decode c_Lately_setMark 22 = .ok (.aload_n 0, 1) := by decide +kernel
theorem d_Lately_setMark_23 : decode c_Lately_setMark 23 = .ok (.getfield 13, 3) := by decide +kernel
theorem d_Lately_setMark_26 : decode c_Lately_setMark 26 = .ok (.iadd, 1) := by decide +kernel
theorem d_Lately_setMark_27 : decode c_Lately_setMark 27 = .ok (.if_icmp .ge 20, 3) := by decide +kernel
theorem d_Lately_setMark_30 : decode c_Lately_setMark 30 = .ok (.aload_n 0, 1) := by decide +kernel
theorem d_Lately_setMark_31 : decode c_Lately_setMark 31 = .ok (.getfield 7, 3) := by decide +kernel
theorem d_Lately_setMark_34 : decode c_Lately_setMark 34 = .ok (.iload 4, 2) := by decide +kernel
theorem d_Lately_setMark_36 : decode c_Lately_setMark 36 = .ok (.baload, 1) := by decide +kernel
theorem d_Lately_setMark_37 : decode c_Lately_setMark 37 = .ok (.ifCond .ne 4, 3) := by decide +kernel
theorem d_Lately_setMark_40 : decode c_Lately_setMark 40 = .ok (.return_, 1) := by decide +kernel
theorem d_Lately_setMark_41 : decode c_Lately_setMark 41 = .ok (.iinc 4 1, 3) := by decide +kernel
theorem d_Lately_setMark_44 : decode c_Lately_setMark 44 = .ok (.goto (-25), 3) := by decide +kernel
theorem d_Lately_setMark_47 : decode c_Lately_setMark 47 = .ok (.iload_n 3, 1) := by decide +kernel
theorem d_Lately_setMark_48 : decode c_Lately_setMark 48 = .ok (.istore 4, 2) := by decide +kernel
theorem d_Lately_setMark_50 : decode c_Lately_setMark 50 = .ok (.iload 4, 2) := by decide +kernel
theorem d_Lately_setMark_52 : decode c_Lately_setMark 52 = .ok (.iload_n 3, 1) := by decide +kernel
theorem d_Lately_setMark_53 : decode c_Lately_setMark 53 = .ok (.aload_n 0, 1) := by decide +kernel
theorem d_Lately_setMark_54 : decode c_Lately_setMark 54 = .ok (.getfield 13, 3) := by decide +kernel
theorem d_Lately_setMark_57 : decode c_Lately_setMark 57 = .ok (.iadd, 1) := by decide +kernel
theorem d_Lately_setMark_58 : decode c_Lately_setMark 58 = .ok (.if_icmp .ge 29, 3) := by decide +kernel
theorem d_Lately_setMark_61 : decode c_Lately_setMark 61 = .ok (.aload_n 0, 1) := by decide +kernel
theorem d_Lately_setMark_62 : decode c_Lately_setMark 62 = .ok (.getfield 7, 3) := by decide +kernel
theorem d_Lately_setMark_65 : decode c_Lately_setMark 65 = .ok (.iload 4, 2) := by decide +kernel
theorem d_Lately_setMark_67 : decode c_Lately_setMark 67 = .ok (.iload 4, 2) := by decide +kernel
theorem d_Lately_setMark_69 : decode c_Lately_setMark 69 = .ok (.iload_n 3, 1) := by decide +kernel
theorem d_Lately_setMark_70 : decode c_Lately_setMark 70 = .ok (.iload_n 2, 1) := by decide +kernel
theorem d_Lately_setMark_71 : decode c_Lately_setMark 71 = .ok (.iadd, 1) := by decide +kernel
theorem d_Lately_setMark_72 : decode c_Lately_setMark 72 = .ok (.if_icmp .ne 7, 3) := by decide +kernel
theorem d_Lately_setMark_75 : decode c_Lately_setMark 75 = .ok (.iconst 1, 1) := by decide +kernel
theorem d_Lately_setMark_76 : decode c_Lately_setMark 76 = .ok (.goto 4, 3) := by decide +kernel
theorem d_Lately_setMark_79 : decode c_Lately_setMark 79 = .ok (.iconst 0, 1) := by decide +kernel
theorem d_Lately_setMark_80 : decode c_Lately_setMark 80 = .ok (.bastore, 1) := by decide +kernel
theorem d_Lately_setMark_81 : decode c_Lately_setMark 81 = .ok (.iinc 4 1, 3) := by decide +kernel
theorem d_Lately_setMark_84 : decode c_Lately_setMark 84 = .ok (.goto (-34), 3) := by decide +kernel
theorem d_Lately_setMark_87 : decode c_Lately_setMark 87 = .ok (.return_, 1) := by decide +kernel
theorem ey_Lately_use : eY y_Lately_use 2 = true := by decide +kernel
theorem d_Lately_use_0 : decode c_Lately_use 0 = .ok (.aload_n 0, 1) := by decide +kernel
theorem d_Lately_use_1 : decode c_Lately_use 1 = .ok (.iload_n 1, 1) := by decide +kernel
theorem d_Lately_use_2 : decode c_Lately_use 2 = .ok (.iload_n 2, 1) := by decide +kernel
theorem d_Lately_use_3 : decode c_Lately_use 3 = .ok (.invokevirtual 17, 3) := by decide +kernel
theorem d_Lately_use_6 : decode c_Lately_use 6 = .ok (.return_, 1) := by decide +kernel
theorem ey_Lately_come : eY y_Lately_come 2 = true := by decide +kernel
theorem d_Lately_come_0 : decode c_Lately_come 0 = .ok (.aload_n 0, 1) := by decide +kernel
theorem d_Lately_come_1 : decode c_Lately_come 1 = .ok (.iload_n 1, 1) := by decide +kernel
theorem d_Lately_come_2 : decode c_Lately_come 2 = .ok (.iload_n 2, 1) := by decide +kernel
theorem d_Lately_come_3 : decode c_Lately_come 3 = .ok (.invokevirtual 17, 3) := by decide +kernel
theorem d_Lately_come_6 : decode c_Lately_come 6 = .ok (.return_, 1) := by decide +kernel
theorem ey_Lately_choose : eY y_Lately_choose 2 = true := by decide +kernel
theorem d_Lately_choose_0 : decode c_Lately_choose 0 = .ok (.aload_n 0, 1) := by decide +kernel
theorem d_Lately_choose_1 : decode c_Lately_choose 1 = .ok (.iload_n 1, 1) := by decide +kernel
theorem d_Lately_choose_2 : decode c_Lately_choose 2 = .ok (.iconst 0, 1) := by decide +kernel
theorem d_Lately_choose_3 : decode c_Lately_choose 3 = .ok (.aload_n 0, 1) := by decide +kernel
theorem d_Lately_choose_4 : decode c_Lately_choose 4 = .ok (.getfield 7, 3) := by decide +kernel
theorem d_Lately_choose_7 : decode c_Lately_choose 7 = .ok (.aload_n 2, 1) := by decide +kernel
theorem d_Lately_choose_8 : decode c_Lately_choose 8 = .ok (.invokevirtual 21, 3) := by decide +kernel
theorem d_Lately_choose_11 : decode c_Lately_choose 11 = .ok (.ireturn, 1) := by decide +kernel
theorem ey_Lately_settle : eY y_Lately_settle 3 = true := by decide +kernel
theorem d_Lately_settle_0 : decode c_Lately_settle 0 = .ok (.return_, 1) := by decide +kernel
abbrev wL (G : EG) (a : Nat → Nat) (v : Nat → Int32) (f : Nat → Nat → Int32) (n V : Nat) : va_W := cF G a v f n V (rLately G a v f n)
/-- from lo up to hi only c has a mark -/
def onl (g : Nat → Int32) (c lo hi : Nat) : Nat → Int32 := fun j => if lo ≤ j ∧ j < hi then (if j = c then 1 else 0) else g j
theorem onl_0 (g : Nat → Int32) (c lo : Nat) : onl g c lo lo = g := by
  funext j
  unfold onl
  rw [if_neg (by omega)]
theorem onl_s {g : Nat → Int32} {c lo k : Nat} (h : lo ≤ k) : onl g c lo (k + 1) = upd (onl g c lo k) k (if k = c then 1 else 0) := by
  funext j
  by_cases hj : j = k
  · subst hj
    rw [pk_us]
    unfold onl
    rw [if_pos (by omega)]
  · rw [pk_un hj]
    unfold onl
    by_cases h2 : lo ≤ j ∧ j < k
    · rw [if_pos (by omega), if_pos h2]
    · rw [if_neg (by omega), if_neg h2]
/-- a mark set -/
def ltM (g : Nat → Int32) (b0 wd w : Nat) : Nat → Int32 := if (fst1 (fun j => upd g (b0 + w) 1 j == 0) b0 wd).isSome then upd g (b0 + w) 1 else onl (upd g (b0 + w) 1) (b0 + w) b0 (b0 + wd)
section LatelyRows
variable {l : Launch} {G : EG} {a : Nat → Nat} {v : Nat → Int32} {f : Nat → Nat → Int32} {V S wd s w : Nat}
set_option maxRecDepth 100000 in
theorem k_Lately_setMark (h : CD v S wd) (hs : s < S) (hw : w < wd) : Con l G y_Lately_setMark c_Lately_setMark 5 none (rz 0 0) [.ref (a 21), .int (nI s), .int (nI w)] (wL G a v f (S * wd) V) (DV (wL G a v (up2 f 22 (ltM (f 22) (s * wd) wd w)) (S * wd) V)) := by
  refine Con.of rfl rfl (fun X C E hR hl hn => ?_)
  have hn1 := h.n128
  have hw8 := h.2.2.2.2
  have hlt := slot_lt hs hw
  have hle : s * wd + wd ≤ S * wd := by
    have := slot_lt (w := wd - 1) hs (show wd - 1 < wd by omega)
    omega
  unfold ltM at E
  refine e_iload_n C d_Lately_setMark_0 rfl ?_
  refine e_aload_n C d_Lately_setMark_1 rfl ?_
  refine e_getI C 21 (k := 0) in_Lately g116 g117 d_Lately_setMark_2 rfl rfl rfl rfl ?_
  refine e_imul C d_Lately_setMark_5 ?_
  refine e_top (y := nI (s * wd)) (by rw [h.2.1, pk_mul]) ?_
  refine e_istore_n C d_Lately_setMark_6 rfl ?_
  refine e_aload_n C d_Lately_setMark_7 rfl ?_
  refine e_get C 21 (k := 1) in_Lately g167 d_Lately_setMark_8 rfl rfl rfl rfl ?_
  refine e_iload_n C d_Lately_setMark_11 rfl ?_
  refine e_iload_n C d_Lately_setMark_12 rfl ?_
  refine e_iadd C d_Lately_setMark_13 ?_
  refine e_iconst C d_Lately_setMark_14 (v := 1) (by decide) ?_
  refine e_zast C 22 1 d_Lately_setMark_15 rfl rfl (s * wd + w) (nI_add _ _) hlt (by omega) rfl ?_
  refine e_iload_n C d_Lately_setMark_16 rfl ?_
  refine e_istore C d_Lately_setMark_17 rfl ?_
  generalize hb : s * wd = b0 at hlt hle E ⊢
  generalize hg : upd (f 22) (b0 + w) 1 = g at E ⊢
  refine e_eq (ws' := wL G a v (up2 f 22 g) (S * wd) V) (by rw [← hg]; rfl) ?_
  have L : ∀ m k : Nat, k + m = b0 + wd → b0 ≤ k → fst1 (fun j => g j == 0) k m = fst1 (fun j => g j == 0) b0 wd → EW X G 5 0 0 19 [(0, .ref (a 21)), (1, .int (nI s)), (2, .int (nI w)), (3, .int (nI b0)), (4, .int (nI k))] [] (wL G a v (up2 f 22 g) (S * wd) V) := by
    intro m
    induction m with
    | zero =>
      intro k hk hk2 hf
      rw [show (fst1 (fun j => g j == 0) b0 wd).isSome = false by rw [← hf]; rfl, if_neg (by decide)] at E
      refine e_iload C d_Lately_setMark_19 rfl ?_
      refine e_iload_n C d_Lately_setMark_21 rfl ?_
      refine e_aload_n C d_Lately_setMark_22 rfl ?_
      refine e_getI C 21 (k := 0) in_Lately g116 g117 d_Lately_setMark_23 rfl rfl rfl rfl ?_
      refine e_top (show _ = nI wd from h.2.1) ?_
      refine e_iadd C d_Lately_setMark_26 ?_
      refine e_top (nI_add _ _) ?_
      refine e_icmp_ge C d_Lately_setMark_27 (tgt := 47) (by decide) (fun h27 => ?_) (fun h27 => ?_)
      · skip
        refine e_iload_n C d_Lately_setMark_47 rfl ?_
        refine e_istore C d_Lately_setMark_48 rfl ?_
        have L2 : ∀ m k : Nat, k + m = b0 + wd → b0 ≤ k → EW X G 5 0 0 50 [(0, .ref (a 21)), (1, .int (nI s)), (2, .int (nI w)), (3, .int (nI b0)), (4, .int (nI k))] [] (wL G a v (up2 f 22 (onl g (b0 + w) b0 k)) (S * wd) V) := by
          intro m
          induction m with
          | zero =>
            intro k hk hk2
            obtain rfl : k = b0 + wd := by omega
            refine e_iload C d_Lately_setMark_50 rfl ?_
            refine e_iload_n C d_Lately_setMark_52 rfl ?_
            refine e_aload_n C d_Lately_setMark_53 rfl ?_
            refine e_getI C 21 (k := 0) in_Lately g116 g117 d_Lately_setMark_54 rfl rfl rfl rfl ?_
            refine e_top (show _ = nI wd from h.2.1) ?_
            refine e_iadd C d_Lately_setMark_57 ?_
            refine e_top (nI_add _ _) ?_
            refine e_icmp_ge C d_Lately_setMark_58 (tgt := 87) (by decide) (fun h58 => ?_) (fun h58 => ?_)
            · skip
              exact e_vret C E d_Lately_setMark_87 (Nat.le_refl _) (Nat.le_refl _) ⟨rfl, rfl⟩
            · exact absurd (nI_le (Nat.le_refl _) (by omega)) h58
          | succ m ih =>
            intro k hk hk2
            have ih := ih (k + 1) (by omega) (by omega)
            rw [onl_s hk2] at ih
            refine e_iload C d_Lately_setMark_50 rfl ?_
            refine e_iload_n C d_Lately_setMark_52 rfl ?_
            refine e_aload_n C d_Lately_setMark_53 rfl ?_
            refine e_getI C 21 (k := 0) in_Lately g116 g117 d_Lately_setMark_54 rfl rfl rfl rfl ?_
            refine e_top (show _ = nI wd from h.2.1) ?_
            refine e_iadd C d_Lately_setMark_57 ?_
            refine e_top (nI_add _ _) ?_
            refine e_icmp_ge C d_Lately_setMark_58 (tgt := 87) (by decide) (fun h58 => ?_) (fun h58 => ?_)
            · exact absurd h58 (nI_ge (by omega) (by omega))
            · skip
              refine e_aload_n C d_Lately_setMark_61 rfl ?_
              refine e_get C 21 (k := 1) in_Lately g167 d_Lately_setMark_62 rfl rfl rfl rfl ?_
              refine e_iload C d_Lately_setMark_65 rfl ?_
              refine e_iload C d_Lately_setMark_67 rfl ?_
              refine e_iload_n C d_Lately_setMark_69 rfl ?_
              refine e_iload_n C d_Lately_setMark_70 rfl ?_
              refine e_iadd C d_Lately_setMark_71 ?_
              refine e_top (nI_add _ _) ?_
              refine e_icmp_ne C d_Lately_setMark_72 (tgt := 79) (by decide) (fun h72 => ?_) (fun h72 => ?_)
              · rw [nI_eq (by omega) (by omega)] at h72
                rw [if_neg h72] at ih
                refine e_iconst C d_Lately_setMark_79 (v := 0) (by decide) ?_
                refine e_zast C 22 1 d_Lately_setMark_80 rfl rfl k rfl (by omega) (by omega) rfl ?_
                refine e_iinc C d_Lately_setMark_81 rfl (nI_1 k) rfl ?_
                refine e_goto C d_Lately_setMark_84 (tgt := 50) (by decide) ?_
                exact e_lv2 ih rfl
              · rw [nI_eq (by omega) (by omega)] at h72
                rw [if_pos h72] at ih
                refine e_iconst C d_Lately_setMark_75 (v := 1) (by decide) ?_
                refine e_goto C d_Lately_setMark_76 (tgt := 80) (by decide) ?_
                refine e_zast C 22 1 d_Lately_setMark_80 rfl rfl k rfl (by omega) (by omega) rfl ?_
                refine e_iinc C d_Lately_setMark_81 rfl (nI_1 k) rfl ?_
                refine e_goto C d_Lately_setMark_84 (tgt := 50) (by decide) ?_
                exact e_lv2 ih rfl
        refine e_eq (ws' := wL G a v (up2 f 22 (onl g (b0 + w) b0 b0)) (S * wd) V) (by rw [onl_0]) ?_
        exact e_lv2 (L2 wd b0 rfl (Nat.le_refl _)) rfl
      · exact absurd (by rw [← hk]; exact nI_le (Nat.le_refl _) (by omega)) h27
    | succ m ih =>
      intro k hk hk2 hf
      refine e_iload C d_Lately_setMark_19 rfl ?_
      refine e_iload_n C d_Lately_setMark_21 rfl ?_
      refine e_aload_n C d_Lately_setMark_22 rfl ?_
      refine e_getI C 21 (k := 0) in_Lately g116 g117 d_Lately_setMark_23 rfl rfl rfl rfl ?_
      refine e_top (show _ = nI wd from h.2.1) ?_
      refine e_iadd C d_Lately_setMark_26 ?_
      refine e_top (nI_add _ _) ?_
      refine e_icmp_ge C d_Lately_setMark_27 (tgt := 47) (by decide) (fun h27 => ?_) (fun h27 => ?_)
      · exact absurd h27 (nI_ge (by omega) (by omega))
      · skip
        refine e_aload_n C d_Lately_setMark_30 rfl ?_
        refine e_get C 21 (k := 1) in_Lately g167 d_Lately_setMark_31 rfl rfl rfl rfl ?_
        refine e_iload C d_Lately_setMark_34 rfl ?_
        refine e_zald C 22 1 d_Lately_setMark_36 rfl rfl k rfl (by omega) (by omega) ?_
        refine e_if_ne C d_Lately_setMark_37 (tgt := 41) (by decide) (fun h37 => ?_) (fun h37 => ?_)
        · have hh : (g k == 0) = false := by simp; exact h37
          refine e_iinc C d_Lately_setMark_41 rfl (nI_1 k) rfl ?_
          refine e_goto C d_Lately_setMark_44 (tgt := 19) (by decide) ?_
          exact e_lv2 (ih (k + 1) (by omega) (by omega) (by rw [← hf]; simp only [fst1, hh, if_neg (show ¬ (false : Bool) = true by decide)])) rfl
        · have hh : (g k == 0) = true := by simp; exact h37
          rw [show (fst1 (fun j => g j == 0) b0 wd).isSome = true by rw [← hf]; simp only [fst1, hh, if_true, Option.isSome], if_pos rfl] at E
          exact e_vret C E d_Lately_setMark_40 (Nat.le_refl _) (Nat.le_refl _) ⟨rfl, rfl⟩
  exact e_lv2 (L wd b0 rfl (Nat.le_refl _) rfl) rfl
theorem k_Lately_use (h : CD v S wd) (hs : s < S) (hw : w < wd) : Con l G y_Lately_use c_Lately_use 3 none (rz 1 24) [.ref (a 21), .int (nI s), .int (nI w)] (wL G a v f (S * wd) V) (DV (wL G a v (up2 f 22 (ltM (f 22) (s * wd) wd w)) (S * wd) V)) := by
  refine Con.of rfl rfl (fun X C E hR hl hn => ?_)
  refine e_aload_n C d_Lately_use_0 rfl ?_
  refine e_iload_n C d_Lately_use_1 rfl ?_
  refine e_iload_n C d_Lately_use_2 rfl ?_
  refine e_cVv C hR 21 (k_Lately_setMark h hs hw) g485 g9 g482 g484 (gt_sel 4 (by decide +kernel) (by decide +kernel)) d_Lately_use_3 rfl ey_Lately_setMark rfl rfl rfl rfl ⟨Nat.zero_le _, Nat.zero_le _⟩ ?_
  exact e_vret C E d_Lately_use_6 (Nat.le_refl _) (Nat.le_refl _) ⟨rfl, rfl⟩
theorem k_Lately_come (h : CD v S wd) (hs : s < S) (hw : w < wd) : Con l G y_Lately_come c_Lately_come 3 none (rz 1 24) [.ref (a 21), .int (nI s), .int (nI w)] (wL G a v f (S * wd) V) (DV (wL G a v (up2 f 22 (ltM (f 22) (s * wd) wd w)) (S * wd) V)) := by
  refine Con.of rfl rfl (fun X C E hR hl hn => ?_)
  refine e_aload_n C d_Lately_come_0 rfl ?_
  refine e_iload_n C d_Lately_come_1 rfl ?_
  refine e_iload_n C d_Lately_come_2 rfl ?_
  refine e_cVv C hR 21 (k_Lately_setMark h hs hw) g485 g9 g482 g484 (gt_sel 4 (by decide +kernel) (by decide +kernel)) d_Lately_come_3 rfl ey_Lately_setMark rfl rfl rfl rfl ⟨Nat.zero_le _, Nat.zero_le _⟩ ?_
  exact e_vret C E d_Lately_come_6 (Nat.le_refl _) (Nat.le_refl _) ⟨rfl, rfl⟩
theorem k_Lately_settle (x y : Int32) : Con l G y_Lately_settle c_Lately_settle 4 none (rz 0 0) [.ref (a 21), .int x, .int y, .ref (a 6)] (wL G a v f (S * wd) V) (DV (wL G a v f (S * wd) V)) := by
  refine Con.of rfl rfl (fun X C E hR hl hn => ?_)
  exact e_vret C E d_Lately_settle_0 (Nat.le_refl _) (Nat.le_refl _) ⟨rfl, rfl⟩
set_option maxRecDepth 100000 in
theorem k_fuL (h : CD v S wd) (hs : s < S) {h0 : Nat} (hh0 : h0 < wd) : Con l G y_Rule_firstUnmarked c_Rule_firstUnmarked 8 (some .int) (rz 0 0) [.ref (a 21), .int (nI s), .int (nI h0), .ref (a 22), .ref (a 6)] (wL G a v f (S * wd) V) (DI (oI (rndC (lkd f wd s) (mkd f wd s) (wfh wd h0) none 0 wd)) (wL G a v f (S * wd) V)) := by
  refine Con.of rfl rfl (fun X C E hR hl hn => ?_)
  have hn1 := h.n128
  have hw8 := h.2.2.2.2
  refine e_iconst C d_Rule_firstUnmarked_0 (v := (-1)) (by decide) ?_
  refine e_istore C d_Rule_firstUnmarked_1 rfl ?_
  refine e_iconst C d_Rule_firstUnmarked_3 (v := 0) (by decide) ?_
  refine e_istore C d_Rule_firstUnmarked_4 rfl ?_
  have L : ∀ (m k : Nat) (b : Option Nat), k + m = wd → (∀ j, b = some j → j < wd) → rndC (lkd f wd s) (mkd f wd s) (wfh wd h0) b k m = rndC (lkd f wd s) (mkd f wd s) (wfh wd h0) none 0 wd → EW X G 8 0 0 6 [(0, .ref (a 21)), (1, .int (nI s)), (2, .int (nI h0)), (3, .ref (a 22)), (4, .ref (a 6)), (5, .int (oI b)), (6, .int (nI k))] [] (wL G a v f (S * wd) V) := by
    intro m
    induction m with
    | zero =>
      intro k b hk hb hf
      refine e_iload C d_Rule_firstUnmarked_6 rfl ?_
      refine e_aload_n C d_Rule_firstUnmarked_8 rfl ?_
      refine e_get C 21 (k := 0) in_Lately g115 d_Rule_firstUnmarked_9 rfl rfl rfl rfl ?_
      refine e_top h.2.1 ?_
      refine e_icmp_ge C d_Rule_firstUnmarked_12 (tgt := 92) (by decide) (fun h12 => ?_) (fun h12 => ?_)
      · skip
        refine e_iload C d_Rule_firstUnmarked_92 rfl ?_
        exact e_iret C E d_Rule_firstUnmarked_94 (Nat.le_refl _) (Nat.le_refl _) rfl ⟨by rw [← hf]; rfl, rfl⟩
      · exact absurd (nI_le (by omega) (by omega)) h12
    | succ m ih =>
      intro k b hk hb hf
      have hwl := wfh_lt hh0 (show k < wd by omega)
      have hlt := slot_lt hs hwl
      have T : EW X G 8 0 0 42 [(0, .ref (a 21)), (1, .int (nI s)), (2, .int (nI h0)), (3, .ref (a 22)), (4, .ref (a 6)), (5, .int (oI b)), (6, .int (nI k))] [.int (nI (wfh wd h0 k))] (wL G a v f (S * wd) V) := by
        refine e_istore C d_Rule_firstUnmarked_42 rfl ?_
        refine e_aload C d_Rule_firstUnmarked_44 rfl ?_
        refine e_iload_n C d_Rule_firstUnmarked_46 rfl ?_
        refine e_aload_n C d_Rule_firstUnmarked_47 rfl ?_
        refine e_get C 21 (k := 0) in_Lately g115 d_Rule_firstUnmarked_48 rfl rfl rfl rfl ?_
        refine e_imul C d_Rule_firstUnmarked_51 ?_
        refine e_iload C d_Rule_firstUnmarked_52 rfl ?_
        refine e_iadd C d_Rule_firstUnmarked_54 ?_
        refine e_zald C 6 1 d_Rule_firstUnmarked_55 rfl rfl (s * wd + wfh wd h0 k) (by rw [h.2.1, pk_mul, nI_add]) hlt (by omega) ?_
        refine e_if_ne C d_Rule_firstUnmarked_56 (tgt := 86) (by decide) (fun h56 => ?_) (fun h56 => ?_)
        · have hl2 : lkd f wd s (wfh wd h0 k) = true := by simp [lkd]; exact h56
          refine e_iinc C d_Rule_firstUnmarked_86 rfl (nI_1 k) rfl ?_
          refine e_goto C d_Rule_firstUnmarked_89 (tgt := 6) (by decide) ?_
          exact e_lv2 (ih (k + 1) b (by omega) hb (by rw [← hf]; simp [rndC, hl2])) rfl
        · have hl2 : lkd f wd s (wfh wd h0 k) = false := by simp [lkd]; exact h56
          refine e_aload_n C d_Rule_firstUnmarked_59 rfl ?_
          refine e_iload_n C d_Rule_firstUnmarked_60 rfl ?_
          refine e_aload_n C d_Rule_firstUnmarked_61 rfl ?_
          refine e_get C 21 (k := 0) in_Lately g115 d_Rule_firstUnmarked_62 rfl rfl rfl rfl ?_
          refine e_imul C d_Rule_firstUnmarked_65 ?_
          refine e_iload C d_Rule_firstUnmarked_66 rfl ?_
          refine e_iadd C d_Rule_firstUnmarked_68 ?_
          refine e_zald C 22 1 d_Rule_firstUnmarked_69 rfl rfl (s * wd + wfh wd h0 k) (by rw [h.2.1, pk_mul, nI_add]) hlt (by omega) ?_
          refine e_if_ne C d_Rule_firstUnmarked_70 (tgt := 76) (by decide) (fun h70 => ?_) (fun h70 => ?_)
          · have hm2 : mkd f wd s (wfh wd h0 k) = true := by simp [mkd]; exact h70
            refine e_iload C d_Rule_firstUnmarked_76 rfl ?_
            refine e_iconst C d_Rule_firstUnmarked_78 (v := (-1)) (by decide) ?_
            refine e_icmp_ne C d_Rule_firstUnmarked_79 (tgt := 86) (by decide) (fun h79 => ?_) (fun h79 => ?_)
            · cases b with
              | none => exact absurd rfl h79
              | some j =>
                refine e_iinc C d_Rule_firstUnmarked_86 rfl (nI_1 k) rfl ?_
                refine e_goto C d_Rule_firstUnmarked_89 (tgt := 6) (by decide) ?_
                exact e_lv2 (ih (k + 1) (some j) (by omega) hb (by rw [← hf]; simp [rndC, hl2, hm2])) rfl
            · cases b with
              | some j => exact absurd h79 (by rw [oI_n1 (fun k hk => by have := hb k hk; omega)]; simp)
              | none =>
                refine e_iload C d_Rule_firstUnmarked_82 rfl ?_
                refine e_istore C d_Rule_firstUnmarked_84 rfl ?_
                refine e_iinc C d_Rule_firstUnmarked_86 rfl (nI_1 k) rfl ?_
                refine e_goto C d_Rule_firstUnmarked_89 (tgt := 6) (by decide) ?_
                exact e_lv2 (ih (k + 1) (some (wfh wd h0 k)) (by omega) (fun j hj => by cases hj; exact hwl) (by rw [← hf]; simp [rndC, hl2, hm2])) rfl
          · have hm2 : mkd f wd s (wfh wd h0 k) = false := by simp [mkd]; exact h70
            refine e_iload C d_Rule_firstUnmarked_73 rfl ?_
            exact e_iret C E d_Rule_firstUnmarked_75 (Nat.le_refl _) (Nat.le_refl _) rfl ⟨by rw [← hf]; simp [rndC, hl2, hm2, oI], rfl⟩
      refine e_iload C d_Rule_firstUnmarked_6 rfl ?_
      refine e_aload_n C d_Rule_firstUnmarked_8 rfl ?_
      refine e_get C 21 (k := 0) in_Lately g115 d_Rule_firstUnmarked_9 rfl rfl rfl rfl ?_
      refine e_top h.2.1 ?_
      refine e_icmp_ge C d_Rule_firstUnmarked_12 (tgt := 92) (by decide) (fun h12 => ?_) (fun h12 => ?_)
      · exact absurd h12 (nI_ge (by omega) (by omega))
      · skip
        refine e_iload_n C d_Rule_firstUnmarked_15 rfl ?_
        refine e_iload C d_Rule_firstUnmarked_16 rfl ?_
        refine e_iadd C d_Rule_firstUnmarked_18 ?_
        refine e_top (y := nI (h0 + k)) (nI_add _ _) ?_
        refine e_aload_n C d_Rule_firstUnmarked_19 rfl ?_
        refine e_get C 21 (k := 0) in_Lately g115 d_Rule_firstUnmarked_20 rfl rfl rfl rfl ?_
        refine e_top (show _ = nI wd from h.2.1) ?_
        refine e_icmp_ge C d_Rule_firstUnmarked_23 (tgt := 33) (by decide) (fun h23 => ?_) (fun h23 => ?_)
        · rw [nI_leI (by omega) (by omega)] at h23
          rw [show wfh wd h0 k = h0 + k - wd by simp only [wfh, if_neg (show ¬ h0 + k < wd by omega)]] at T
          refine e_iload_n C d_Rule_firstUnmarked_33 rfl ?_
          refine e_iload C d_Rule_firstUnmarked_34 rfl ?_
          refine e_iadd C d_Rule_firstUnmarked_36 ?_
          refine e_top (y := nI (h0 + k)) (nI_add _ _) ?_
          refine e_aload_n C d_Rule_firstUnmarked_37 rfl ?_
          refine e_get C 21 (k := 0) in_Lately g115 d_Rule_firstUnmarked_38 rfl rfl rfl rfl ?_
          refine e_top (show _ = nI wd from h.2.1) ?_
          refine e_isub C d_Rule_firstUnmarked_41 ?_
          refine e_top (pk_sub h23) ?_
          exact e_lv2 T rfl
        · rw [nI_leI (by omega) (by omega)] at h23
          rw [show wfh wd h0 k = h0 + k by simp only [wfh, if_pos (show h0 + k < wd by omega)]] at T
          refine e_iload_n C d_Rule_firstUnmarked_26 rfl ?_
          refine e_iload C d_Rule_firstUnmarked_27 rfl ?_
          refine e_iadd C d_Rule_firstUnmarked_29 ?_
          refine e_top (y := nI (h0 + k)) (nI_add _ _) ?_
          refine e_goto C d_Rule_firstUnmarked_30 (tgt := 42) (by decide) ?_
          exact e_lv2 T rfl
  exact e_lv2 (L wd 0 none (by omega) (fun j hj => by cases hj) rfl) rfl
theorem rndC_wy {lk mk : Nat → Bool} {wy wy' : Nat → Nat} : ∀ (m k : Nat) (b : Option Nat), (∀ t, k ≤ t → t < k + m → wy t = wy' t) → rndC lk mk wy b k m = rndC lk mk wy' b k m
  | 0, _, _, _ => rfl
  | m + 1, k, b, h => by
    have h0 := h k (Nat.le_refl _) (by omega)
    have ih := fun b => rndC_wy (lk := lk) (mk := mk) m (k + 1) b (fun t h1 h2 => h t (by omega) (by omega))
    simp only [rndC, h0, ih]
theorem wfh_0 {wd t : Nat} (h : t < wd) : wfh wd 0 t = t := by
  unfold wfh
  rw [if_pos (by omega)]
  omega
theorem k_Lately_choose (h : CD v S wd) (hs : s < S) : Con l G y_Lately_choose c_Lately_choose 3 (some .int) (rz 1 27) [.ref (a 21), .int (nI s), .ref (a 6)] (wL G a v f (S * wd) V) (DI (oI (rndC (lkd f wd s) (mkd f wd s) (fun k => k) none 0 wd)) (wL G a v f (S * wd) V)) := by
  have hw8 := h.2.2.2.2
  rw [← rndC_wy (wy := wfh wd 0) wd 0 none (fun t _ ht => wfh_0 (by omega))]
  refine Con.of rfl rfl (fun X C E hR hl hn => ?_)
  refine e_aload_n C d_Lately_choose_0 rfl ?_
  refine e_iload_n C d_Lately_choose_1 rfl ?_
  refine e_iconst C d_Lately_choose_2 (v := (nI 0)) (by decide) ?_
  refine e_aload_n C d_Lately_choose_3 rfl ?_
  refine e_get C 21 (k := 1) in_Lately g167 d_Lately_choose_4 rfl rfl rfl rfl ?_
  refine e_aload_n C d_Lately_choose_7 rfl ?_
  refine e_cHi C hR 21 (k_fuL h hs hw8.1) g533 g5 g528 g529 g532 g531 d_Lately_choose_8 rfl ey_Rule_firstUnmarked rfl rfl rfl rfl ⟨Nat.zero_le _, Nat.zero_le _⟩ ?_
  exact e_iret C E d_Lately_choose_11 (Nat.le_refl _) (Nat.le_refl _) rfl ⟨rfl, rfl⟩
end LatelyRows
