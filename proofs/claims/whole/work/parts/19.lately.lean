/-! RULE 7 -/
theorem ey_Lately_setMark : eY y_Lately_setMark 2 = true := by decide +kernel
theorem d_Lately_setMark_0 : decode c_Lately_setMark 0 = .ok (.iload_n 1, 1) := by decide +kernel
theorem d_Lately_setMark_1 : decode c_Lately_setMark 1 = .ok (.aload_n 0, 1) := by decide +kernel
theorem d_Lately_setMark_2 : decode c_Lately_setMark 2 = .ok (.getfield 15, 3) := by decide +kernel
theorem d_Lately_setMark_5 : decode c_Lately_setMark 5 = .ok (.imul, 1) := by decide +kernel
theorem d_Lately_setMark_6 : decode c_Lately_setMark 6 = .ok (.istore_n 3, 1) := by decide +kernel
theorem d_Lately_setMark_7 : decode c_Lately_setMark 7 = .ok (.aload_n 0, 1) := by decide +kernel
theorem d_Lately_setMark_8 : decode c_Lately_setMark 8 = .ok (.getfield 9, 3) := by decide +kernel
theorem d_Lately_setMark_11 : decode c_Lately_setMark 11 = .ok (.iload_n 3, 1) := by decide +kernel
theorem d_Lately_setMark_12 : decode c_Lately_setMark 12 = .ok (.iload_n 2, 1) := by decide +kernel
theorem d_Lately_setMark_13 : decode c_Lately_setMark 13 = .ok (.iadd, 1) := by decide +kernel
theorem d_Lately_setMark_14 : decode c_Lately_setMark 14 = .ok (.iconst 1, 1) := by decide +kernel
theorem d_Lately_setMark_15 : decode c_Lately_setMark 15 = .ok (.bastore, 1) := by decide +kernel
theorem d_Lately_setMark_16 : decode c_Lately_setMark 16 = .ok (.iload_n 3, 1) := by decide +kernel
theorem d_Lately_setMark_17 : decode c_Lately_setMark 17 = .ok (.istore 4, 2) := by decide +kernel
theorem d_Lately_setMark_19 : decode c_Lately_setMark 19 = .ok (.iload 4, 2) := by decide +kernel
theorem d_Lately_setMark_21 : decode c_Lately_setMark 21 = .ok (.iload_n 3, 1) := by decide +kernel
theorem d_Lately_setMark_22 : decode c_Lately_setMark 22 = .ok (.aload_n 0, 1) := by decide +kernel
theorem d_Lately_setMark_23 : decode c_Lately_setMark 23 = .ok (.getfield 15, 3) := by decide +kernel
theorem d_Lately_setMark_26 : decode c_Lately_setMark 26 = .ok (.iadd, 1) := by decide +kernel
theorem d_Lately_setMark_27 : decode c_Lately_setMark 27 = .ok (.if_icmp .ge 20, 3) := by decide +kernel
theorem d_Lately_setMark_30 : decode c_Lately_setMark 30 = .ok (.aload_n 0, 1) := by decide +kernel
theorem d_Lately_setMark_31 : decode c_Lately_setMark 31 = .ok (.getfield 9, 3) := by decide +kernel
theorem d_Lately_setMark_34 : decode c_Lately_setMark 34 = .ok (.iload 4, 2) := by decide +kernel
theorem d_Lately_setMark_36 : decode c_Lately_setMark 36 = .ok (.baload, 1) := by decide +kernel
theorem d_Lately_setMark_37 : decode c_Lately_setMark 37 = .ok (.ifCond .ne 4, 3) := by decide +kernel
theorem d_Lately_setMark_40 : decode c_Lately_setMark 40 = .ok (.return_, 1) := by decide +kernel
theorem d_Lately_setMark_41 : decode c_Lately_setMark 41 = .ok (.iinc 4 1, 3) := by decide +kernel
theorem d_Lately_setMark_44 : decode c_Lately_setMark 44 = .ok (.goto (-25), 3) := by decide +kernel
theorem d_Lately_setMark_47 : decode c_Lately_setMark 47 = .ok (.iload_n 3, 1) := by decide +kernel
theorem d_Lately_setMark_48 : decode c_Lately_setMark 48 = .ok (.istore 4, 2) := by decide +kernel
theorem d_Lately_setMark_50 : decode c_Lately_setMark 50 = .ok (.iload 4, 2) := by decide +kernel
theorem d_Lately_setMark_52 : decode c_Lately_setMark 52 = .ok (.iload_n 3, 1) := by decide +kernel
theorem d_Lately_setMark_53 : decode c_Lately_setMark 53 = .ok (.aload_n 0, 1) := by decide +kernel
theorem d_Lately_setMark_54 : decode c_Lately_setMark 54 = .ok (.getfield 15, 3) := by decide +kernel
theorem d_Lately_setMark_57 : decode c_Lately_setMark 57 = .ok (.iadd, 1) := by decide +kernel
theorem d_Lately_setMark_58 : decode c_Lately_setMark 58 = .ok (.if_icmp .ge 29, 3) := by decide +kernel
theorem d_Lately_setMark_61 : decode c_Lately_setMark 61 = .ok (.aload_n 0, 1) := by decide +kernel
theorem d_Lately_setMark_62 : decode c_Lately_setMark 62 = .ok (.getfield 9, 3) := by decide +kernel
theorem d_Lately_setMark_65 : decode c_Lately_setMark 65 = .ok (.iload 4, 2) := by decide +kernel
theorem d_Lately_setMark_67 : decode c_Lately_setMark 67 = .ok (.iload 4, 2) := by decide +kernel
theorem d_Lately_setMark_69 : decode c_Lately_setMark 69 = .ok (.iload_n 3, 1) := by decide +kernel
theorem d_Lately_setMark_70 : decode c_Lately_setMark 70 = .ok (.iload_n 2, 1) := by decide +kernel
theorem d_Lately_setMark_71 : decode c_Lately_setMark 71 = .ok (.iadd, 1) := by decide +kernel
theorem d_Lately_setMark_72 : decode c_Lately_setMark 72 = .ok (.if_icmp .ne 7, 3) := by decide +kernel
theorem d_Lately_setMark_75 : decode c_Lately_setMark 75 = .ok (.iconst 1, 1) := by decide +kernel
theorem d_Lately_setMark_76 : decode c_Lately_setMark 76 = .ok (.goto 4, 3) := by decide +kernel
theorem d_Lately_setMark_79 : decode c_Lately_setMark 79 = .ok (.iconst 0, 1) := by decide +kernel
theorem d_Lately_setMark_80 : decode c_Lately_setMark 80 = .ok (.bastore, 1) := by decide +kernel
theorem d_Lately_setMark_81 : decode c_Lately_setMark 81 = .ok (.iinc 4 1, 3) := by decide +kernel
theorem d_Lately_setMark_84 : decode c_Lately_setMark 84 = .ok (.goto (-34), 3) := by decide +kernel
theorem d_Lately_setMark_87 : decode c_Lately_setMark 87 = .ok (.return_, 1) := by decide +kernel
theorem ey_Lately_use : eY y_Lately_use 2 = true := by decide +kernel
theorem d_Lately_use_0 : decode c_Lately_use 0 = .ok (.aload_n 0, 1) := by decide +kernel
theorem d_Lately_use_1 : decode c_Lately_use 1 = .ok (.iload_n 1, 1) := by decide +kernel
theorem d_Lately_use_2 : decode c_Lately_use 2 = .ok (.iload_n 2, 1) := by decide +kernel
theorem d_Lately_use_3 : decode c_Lately_use 3 = .ok (.invokevirtual 19, 3) := by decide +kernel
theorem d_Lately_use_6 : decode c_Lately_use 6 = .ok (.return_, 1) := by decide +kernel
theorem ey_Lately_come : eY y_Lately_come 2 = true := by decide +kernel
theorem d_Lately_come_0 : decode c_Lately_come 0 = .ok (.aload_n 0, 1) := by decide +kernel
theorem d_Lately_come_1 : decode c_Lately_come 1 = .ok (.iload_n 1, 1) := by decide +kernel
theorem d_Lately_come_2 : decode c_Lately_come 2 = .ok (.iload_n 2, 1) := by decide +kernel
theorem d_Lately_come_3 : decode c_Lately_come 3 = .ok (.invokevirtual 19, 3) := by decide +kernel
theorem d_Lately_come_6 : decode c_Lately_come 6 = .ok (.return_, 1) := by decide +kernel
theorem ey_Lately_choose : eY y_Lately_choose 2 = true := by decide +kernel
theorem d_Lately_choose_0 : decode c_Lately_choose 0 = .ok (.iconst (-1), 1) := by decide +kernel
theorem d_Lately_choose_1 : decode c_Lately_choose 1 = .ok (.istore_n 3, 1) := by decide +kernel
theorem d_Lately_choose_2 : decode c_Lately_choose 2 = .ok (.iconst 0, 1) := by decide +kernel
theorem d_Lately_choose_3 : decode c_Lately_choose 3 = .ok (.istore 4, 2) := by decide +kernel
theorem d_Lately_choose_5 : decode c_Lately_choose 5 = .ok (.iload 4, 2) := by decide +kernel
theorem d_Lately_choose_7 : decode c_Lately_choose 7 = .ok (.aload_n 0, 1) := by decide +kernel
theorem d_Lately_choose_8 : decode c_Lately_choose 8 = .ok (.getfield 15, 3) := by decide +kernel
theorem d_Lately_choose_11 : decode c_Lately_choose 11 = .ok (.if_icmp .ge 51, 3) := by decide +kernel
theorem d_Lately_choose_14 : decode c_Lately_choose 14 = .ok (.aload_n 2, 1) := by decide +kernel
theorem d_Lately_choose_15 : decode c_Lately_choose 15 = .ok (.iload_n 1, 1) := by decide +kernel
theorem d_Lately_choose_16 : decode c_Lately_choose 16 = .ok (.aload_n 0, 1) := by decide +kernel
theorem d_Lately_choose_17 : decode c_Lately_choose 17 = .ok (.getfield 15, 3) := by decide +kernel
theorem d_Lately_choose_20 : decode c_Lately_choose 20 = .ok (.imul, 1) := by decide +kernel
theorem d_Lately_choose_21 : decode c_Lately_choose 21 = .ok (.iload 4, 2) := by decide +kernel
theorem d_Lately_choose_23 : decode c_Lately_choose 23 = .ok (.iadd, 1) := by decide +kernel
theorem d_Lately_choose_24 : decode c_Lately_choose 24 = .ok (.baload, 1) := by decide +kernel
theorem d_Lately_choose_25 : decode c_Lately_choose 25 = .ok (.ifCond .ne 31, 3) := by decide +kernel
theorem d_Lately_choose_28 : decode c_Lately_choose 28 = .ok (.aload_n 0, 1) := by decide +kernel
theorem d_Lately_choose_29 : decode c_Lately_choose 29 = .ok (.getfield 9, 3) := by decide +kernel
theorem d_Lately_choose_32 : decode c_Lately_choose 32 = .ok (.iload_n 1, 1) := by decide +kernel
theorem d_Lately_choose_33 : decode c_Lately_choose 33 = .ok (.aload_n 0, 1) := by decide +kernel
theorem d_Lately_choose_34 : decode c_Lately_choose 34 = .ok (.getfield 15, 3) := by decide +kernel
theorem d_Lately_choose_37 : decode c_Lately_choose 37 = .ok (.imul, 1) := by decide +kernel
theorem d_Lately_choose_38 : decode c_Lately_choose 38 = .ok (.iload 4, 2) := by decide +kernel
theorem d_Lately_choose_40 : decode c_Lately_choose 40 = .ok (.iadd, 1) := by decide +kernel
theorem d_Lately_choose_41 : decode c_Lately_choose 41 = .ok (.baload, 1) := by decide +kernel
theorem d_Lately_choose_42 : decode c_Lately_choose 42 = .ok (.ifCond .ne 6, 3) := by decide +kernel
theorem d_Lately_choose_45 : decode c_Lately_choose 45 = .ok (.iload 4, 2) := by decide +kernel
theorem d_Lately_choose_47 : decode c_Lately_choose 47 = .ok (.ireturn, 1) := by decide +kernel
theorem d_Lately_choose_48 : decode c_Lately_choose 48 = .ok (.iload_n 3, 1) := by decide +kernel
theorem d_Lately_choose_49 : decode c_Lately_choose 49 = .ok (.iconst (-1), 1) := by decide +kernel
theorem d_Lately_choose_50 : decode c_Lately_choose 50 = .ok (.if_icmp .ne 6, 3) := by decide +kernel
theorem d_Lately_choose_53 : decode c_Lately_choose 53 = .ok (.iload 4, 2) := by decide +kernel
theorem d_Lately_choose_55 : decode c_Lately_choose 55 = .ok (.istore_n 3, 1) := by decide +kernel
theorem d_Lately_choose_56 : decode c_Lately_choose 56 = .ok (.iinc 4 1, 3) := by decide +kernel
theorem d_Lately_choose_59 : decode c_Lately_choose 59 = .ok (.goto (-54), 3) := by decide +kernel
theorem d_Lately_choose_62 : decode c_Lately_choose 62 = .ok (.iload_n 3, 1) := by decide +kernel
theorem d_Lately_choose_63 : decode c_Lately_choose 63 = .ok (.ireturn, 1) := by decide +kernel
theorem ey_Lately_settle : eY y_Lately_settle 3 = true := by decide +kernel
theorem d_Lately_settle_0 : decode c_Lately_settle 0 = .ok (.return_, 1) := by decide +kernel
abbrev wL (G : EG) (a : Nat → Nat) (v : Nat → Int32) (f : Nat → Nat → Int32) (n V : Nat) : va_W := cF G a v f n V (rLately G a v f n)
/-- from lo up to hi only c has a mark -/
def onl (g : Nat → Int32) (c lo hi : Nat) : Nat → Int32 := fun j => if lo ≤ j ∧ j < hi then (if j = c then 1 else 0) else g j
theorem onl_0 (g : Nat → Int32) (c lo : Nat) : onl g c lo lo = g := by
  funext j
  unfold onl
  rw [if_neg (by omega)]
theorem onl_s {g : Nat → Int32} {c lo k : Nat} (h : lo ≤ k) : onl g c lo (k + 1) = upd (onl g c lo k) k (if k = c then 1 else 0) := by
  funext j
  by_cases hj : j = k
  · subst hj
    rw [pk_us]
    unfold onl
    rw [if_pos (by omega)]
  · rw [pk_un hj]
    unfold onl
    by_cases h2 : lo ≤ j ∧ j < k
    · rw [if_pos (by omega), if_pos h2]
    · rw [if_neg (by omega), if_neg h2]
/-- a mark set -/
def ltM (g : Nat → Int32) (b0 wd w : Nat) : Nat → Int32 := if (fst1 (fun j => upd g (b0 + w) 1 j == 0) b0 wd).isSome then upd g (b0 + w) 1 else onl (upd g (b0 + w) 1) (b0 + w) b0 (b0 + wd)
section LatelyRows
variable {l : Launch} {G : EG} {a : Nat → Nat} {v : Nat → Int32} {f : Nat → Nat → Int32} {V S wd s w : Nat}
set_option maxRecDepth 100000 in
theorem k_Lately_setMark (h : CD v S wd) (hs : s < S) (hw : w < wd) : Con l G y_Lately_setMark c_Lately_setMark 5 none (rz 0 0) [.ref (a 21), .int (nI s), .int (nI w)] (wL G a v f (S * wd) V) (DV (wL G a v (up2 f 22 (ltM (f 22) (s * wd) wd w)) (S * wd) V)) := by
  refine Con.of rfl rfl (fun X C E hR hl hn => ?_)
  have hn1 := h.n128
  have hw8 := h.2.2.2.2
  have hlt := slot_lt hs hw
  have hle : s * wd + wd ≤ S * wd := by
    have := slot_lt (w := wd - 1) hs (show wd - 1 < wd by omega)
    omega
  unfold ltM at E
  refine e_iload_n C d_Lately_setMark_0 rfl ?_
  refine e_aload_n C d_Lately_setMark_1 rfl ?_
  refine e_getI C 21 (k := 0) in_Lately g116 g117 d_Lately_setMark_2 rfl rfl rfl rfl ?_
  refine e_imul C d_Lately_setMark_5 ?_
  refine e_top (y := nI (s * wd)) (by rw [h.2.1, pk_mul]) ?_
  refine e_istore_n C d_Lately_setMark_6 rfl ?_
  refine e_aload_n C d_Lately_setMark_7 rfl ?_
  refine e_get C 21 (k := 1) in_Lately g167 d_Lately_setMark_8 rfl rfl rfl rfl ?_
  refine e_iload_n C d_Lately_setMark_11 rfl ?_
  refine e_iload_n C d_Lately_setMark_12 rfl ?_
  refine e_iadd C d_Lately_setMark_13 ?_
  refine e_iconst C d_Lately_setMark_14 (v := 1) (by decide) ?_
  refine e_zast C 22 1 d_Lately_setMark_15 rfl rfl (s * wd + w) (nI_add _ _) hlt (by omega) rfl ?_
  refine e_iload_n C d_Lately_setMark_16 rfl ?_
  refine e_istore C d_Lately_setMark_17 rfl ?_
  generalize hb : s * wd = b0 at hlt hle E ⊢
  generalize hg : upd (f 22) (b0 + w) 1 = g at E ⊢
  refine e_eq (ws' := wL G a v (up2 f 22 g) (S * wd) V) (by rw [← hg]; rfl) ?_
  have L : ∀ m k : Nat, k + m = b0 + wd → b0 ≤ k → fst1 (fun j => g j == 0) k m = fst1 (fun j => g j == 0) b0 wd → EW X G 5 0 0 19 [(0, .ref (a 21)), (1, .int (nI s)), (2, .int (nI w)), (3, .int (nI b0)), (4, .int (nI k))] [] (wL G a v (up2 f 22 g) (S * wd) V) := by
    intro m
    induction m with
    | zero =>
      intro k hk hk2 hf
      rw [show (fst1 (fun j => g j == 0) b0 wd).isSome = false by rw [← hf]; rfl, if_neg (by decide)] at E
      refine e_iload C d_Lately_setMark_19 rfl ?_
      refine e_iload_n C d_Lately_setMark_21 rfl ?_
      refine e_aload_n C d_Lately_setMark_22 rfl ?_
      refine e_getI C 21 (k := 0) in_Lately g116 g117 d_Lately_setMark_23 rfl rfl rfl rfl ?_
      refine e_top (show _ = nI wd from h.2.1) ?_
      refine e_iadd C d_Lately_setMark_26 ?_
      refine e_top (nI_add _ _) ?_
      refine e_icmp_ge C d_Lately_setMark_27 (tgt := 47) (by decide) (fun h27 => ?_) (fun h27 => ?_)
      · skip
        refine e_iload_n C d_Lately_setMark_47 rfl ?_
        refine e_istore C d_Lately_setMark_48 rfl ?_
        have L2 : ∀ m k : Nat, k + m = b0 + wd → b0 ≤ k → EW X G 5 0 0 50 [(0, .ref (a 21)), (1, .int (nI s)), (2, .int (nI w)), (3, .int (nI b0)), (4, .int (nI k))] [] (wL G a v (up2 f 22 (onl g (b0 + w) b0 k)) (S * wd) V) := by
          intro m
          induction m with
          | zero =>
            intro k hk hk2
            obtain rfl : k = b0 + wd := by omega
            refine e_iload C d_Lately_setMark_50 rfl ?_
            refine e_iload_n C d_Lately_setMark_52 rfl ?_
            refine e_aload_n C d_Lately_setMark_53 rfl ?_
            refine e_getI C 21 (k := 0) in_Lately g116 g117 d_Lately_setMark_54 rfl rfl rfl rfl ?_
            refine e_top (show _ = nI wd from h.2.1) ?_
            refine e_iadd C d_Lately_setMark_57 ?_
            refine e_top (nI_add _ _) ?_
            refine e_icmp_ge C d_Lately_setMark_58 (tgt := 87) (by decide) (fun h58 => ?_) (fun h58 => ?_)
            · skip
              exact e_vret C E d_Lately_setMark_87 (Nat.le_refl _) (Nat.le_refl _) ⟨rfl, rfl⟩
            · exact absurd (nI_le (Nat.le_refl _) (by omega)) h58
          | succ m ih =>
            intro k hk hk2
            have ih := ih (k + 1) (by omega) (by omega)
            rw [onl_s hk2] at ih
            refine e_iload C d_Lately_setMark_50 rfl ?_
            refine e_iload_n C d_Lately_setMark_52 rfl ?_
            refine e_aload_n C d_Lately_setMark_53 rfl ?_
            refine e_getI C 21 (k := 0) in_Lately g116 g117 d_Lately_setMark_54 rfl rfl rfl rfl ?_
            refine e_top (show _ = nI wd from h.2.1) ?_
            refine e_iadd C d_Lately_setMark_57 ?_
            refine e_top (nI_add _ _) ?_
            refine e_icmp_ge C d_Lately_setMark_58 (tgt := 87) (by decide) (fun h58 => ?_) (fun h58 => ?_)
            · exact absurd h58 (nI_ge (by omega) (by omega))
            · skip
              refine e_aload_n C d_Lately_setMark_61 rfl ?_
              refine e_get C 21 (k := 1) in_Lately g167 d_Lately_setMark_62 rfl rfl rfl rfl ?_
              refine e_iload C d_Lately_setMark_65 rfl ?_
              refine e_iload C d_Lately_setMark_67 rfl ?_
              refine e_iload_n C d_Lately_setMark_69 rfl ?_
              refine e_iload_n C d_Lately_setMark_70 rfl ?_
              refine e_iadd C d_Lately_setMark_71 ?_
              refine e_top (nI_add _ _) ?_
              refine e_icmp_ne C d_Lately_setMark_72 (tgt := 79) (by decide) (fun h72 => ?_) (fun h72 => ?_)
              · rw [nI_eq (by omega) (by omega)] at h72
                rw [if_neg h72] at ih
                refine e_iconst C d_Lately_setMark_79 (v := 0) (by decide) ?_
                refine e_zast C 22 1 d_Lately_setMark_80 rfl rfl k rfl (by omega) (by omega) rfl ?_
                refine e_iinc C d_Lately_setMark_81 rfl (nI_1 k) rfl ?_
                refine e_goto C d_Lately_setMark_84 (tgt := 50) (by decide) ?_
                exact e_lv2 ih rfl
              · rw [nI_eq (by omega) (by omega)] at h72
                rw [if_pos h72] at ih
                refine e_iconst C d_Lately_setMark_75 (v := 1) (by decide) ?_
                refine e_goto C d_Lately_setMark_76 (tgt := 80) (by decide) ?_
                refine e_zast C 22 1 d_Lately_setMark_80 rfl rfl k rfl (by omega) (by omega) rfl ?_
                refine e_iinc C d_Lately_setMark_81 rfl (nI_1 k) rfl ?_
                refine e_goto C d_Lately_setMark_84 (tgt := 50) (by decide) ?_
                exact e_lv2 ih rfl
        refine e_eq (ws' := wL G a v (up2 f 22 (onl g (b0 + w) b0 b0)) (S * wd) V) (by rw [onl_0]) ?_
        exact e_lv2 (L2 wd b0 rfl (Nat.le_refl _)) rfl
      · exact absurd (by rw [← hk]; exact nI_le (Nat.le_refl _) (by omega)) h27
    | succ m ih =>
      intro k hk hk2 hf
      refine e_iload C d_Lately_setMark_19 rfl ?_
      refine e_iload_n C d_Lately_setMark_21 rfl ?_
      refine e_aload_n C d_Lately_setMark_22 rfl ?_
      refine e_getI C 21 (k := 0) in_Lately g116 g117 d_Lately_setMark_23 rfl rfl rfl rfl ?_
      refine e_top (show _ = nI wd from h.2.1) ?_
      refine e_iadd C d_Lately_setMark_26 ?_
      refine e_top (nI_add _ _) ?_
      refine e_icmp_ge C d_Lately_setMark_27 (tgt := 47) (by decide) (fun h27 => ?_) (fun h27 => ?_)
      · exact absurd h27 (nI_ge (by omega) (by omega))
      · skip
        refine e_aload_n C d_Lately_setMark_30 rfl ?_
        refine e_get C 21 (k := 1) in_Lately g167 d_Lately_setMark_31 rfl rfl rfl rfl ?_
        refine e_iload C d_Lately_setMark_34 rfl ?_
        refine e_zald C 22 1 d_Lately_setMark_36 rfl rfl k rfl (by omega) (by omega) ?_
        refine e_if_ne C d_Lately_setMark_37 (tgt := 41) (by decide) (fun h37 => ?_) (fun h37 => ?_)
        · have hh : (g k == 0) = false := by simp; exact h37
          refine e_iinc C d_Lately_setMark_41 rfl (nI_1 k) rfl ?_
          refine e_goto C d_Lately_setMark_44 (tgt := 19) (by decide) ?_
          exact e_lv2 (ih (k + 1) (by omega) (by omega) (by rw [← hf]; simp only [fst1, hh, if_neg (show ¬ (false : Bool) = true by decide)])) rfl
        · have hh : (g k == 0) = true := by simp; exact h37
          rw [show (fst1 (fun j => g j == 0) b0 wd).isSome = true by rw [← hf]; simp only [fst1, hh, if_true, Option.isSome], if_pos rfl] at E
          exact e_vret C E d_Lately_setMark_40 (Nat.le_refl _) (Nat.le_refl _) ⟨rfl, rfl⟩
  exact e_lv2 (L wd b0 rfl (Nat.le_refl _) rfl) rfl
theorem k_Lately_use (h : CD v S wd) (hs : s < S) (hw : w < wd) : Con l G y_Lately_use c_Lately_use 3 none (rz 1 24) [.ref (a 21), .int (nI s), .int (nI w)] (wL G a v f (S * wd) V) (DV (wL G a v (up2 f 22 (ltM (f 22) (s * wd) wd w)) (S * wd) V)) := by
  refine Con.of rfl rfl (fun X C E hR hl hn => ?_)
  refine e_aload_n C d_Lately_use_0 rfl ?_
  refine e_iload_n C d_Lately_use_1 rfl ?_
  refine e_iload_n C d_Lately_use_2 rfl ?_
  refine e_cVv C hR 21 (k_Lately_setMark h hs hw) g485 g9 g482 g484 (gt_sel 4 (by decide +kernel) (by decide +kernel)) d_Lately_use_3 rfl ey_Lately_setMark rfl rfl rfl rfl ⟨Nat.zero_le _, Nat.zero_le _⟩ ?_
  exact e_vret C E d_Lately_use_6 (Nat.le_refl _) (Nat.le_refl _) ⟨rfl, rfl⟩
theorem k_Lately_come (h : CD v S wd) (hs : s < S) (hw : w < wd) : Con l G y_Lately_come c_Lately_come 3 none (rz 1 24) [.ref (a 21), .int (nI s), .int (nI w)] (wL G a v f (S * wd) V) (DV (wL G a v (up2 f 22 (ltM (f 22) (s * wd) wd w)) (S * wd) V)) := by
  refine Con.of rfl rfl (fun X C E hR hl hn => ?_)
  refine e_aload_n C d_Lately_come_0 rfl ?_
  refine e_iload_n C d_Lately_come_1 rfl ?_
  refine e_iload_n C d_Lately_come_2 rfl ?_
  refine e_cVv C hR 21 (k_Lately_setMark h hs hw) g485 g9 g482 g484 (gt_sel 4 (by decide +kernel) (by decide +kernel)) d_Lately_come_3 rfl ey_Lately_setMark rfl rfl rfl rfl ⟨Nat.zero_le _, Nat.zero_le _⟩ ?_
  exact e_vret C E d_Lately_come_6 (Nat.le_refl _) (Nat.le_refl _) ⟨rfl, rfl⟩
theorem k_Lately_settle (x y : Int32) : Con l G y_Lately_settle c_Lately_settle 4 none (rz 0 0) [.ref (a 21), .int x, .int y, .ref (a 6)] (wL G a v f (S * wd) V) (DV (wL G a v f (S * wd) V)) := by
  refine Con.of rfl rfl (fun X C E hR hl hn => ?_)
  exact e_vret C E d_Lately_settle_0 (Nat.le_refl _) (Nat.le_refl _) ⟨rfl, rfl⟩
set_option maxRecDepth 100000 in
theorem k_Lately_choose (h : CD v S wd) (hs : s < S) : Con l G y_Lately_choose c_Lately_choose 5 (some .int) (rz 0 0) [.ref (a 21), .int (nI s), .ref (a 6)] (wL G a v f (S * wd) V) (DI (oI (rndC (lkd f wd s) (mkd f wd s) (fun k => k) none 0 wd)) (wL G a v f (S * wd) V)) := by
  refine Con.of rfl rfl (fun X C E hR hl hn => ?_)
  have hn1 := h.n128
  have hw8 := h.2.2.2.2
  refine e_iconst C d_Lately_choose_0 (v := (-1)) (by decide) ?_
  refine e_istore_n C d_Lately_choose_1 rfl ?_
  refine e_iconst C d_Lately_choose_2 (v := 0) (by decide) ?_
  refine e_istore C d_Lately_choose_3 rfl ?_
  have L : ∀ (m k : Nat) (b : Option Nat), k + m = wd → (∀ j, b = some j → j < wd) → rndC (lkd f wd s) (mkd f wd s) (fun k => k) b k m = rndC (lkd f wd s) (mkd f wd s) (fun k => k) none 0 wd → EW X G 5 0 0 5 [(0, .ref (a 21)), (1, .int (nI s)), (2, .ref (a 6)), (3, .int (oI b)), (4, .int (nI k))] [] (wL G a v f (S * wd) V) := by
    intro m
    induction m with
    | zero =>
      intro k b hk hb hf
      refine e_iload C d_Lately_choose_5 rfl ?_
      refine e_aload_n C d_Lately_choose_7 rfl ?_
      refine e_getI C 21 (k := 0) in_Lately g116 g117 d_Lately_choose_8 rfl rfl rfl rfl ?_
      refine e_top h.2.1 ?_
      refine e_icmp_ge C d_Lately_choose_11 (tgt := 62) (by decide) (fun h11 => ?_) (fun h11 => ?_)
      · skip
        refine e_iload_n C d_Lately_choose_62 rfl ?_
        exact e_iret C E d_Lately_choose_63 (Nat.le_refl _) (Nat.le_refl _) rfl ⟨by rw [← hf]; rfl, rfl⟩
      · exact absurd (nI_le (by omega) (by omega)) h11
    | succ m ih =>
      intro k b hk hb hf
      have hlt := slot_lt (w := k) hs (show k < wd by omega)
      refine e_iload C d_Lately_choose_5 rfl ?_
      refine e_aload_n C d_Lately_choose_7 rfl ?_
      refine e_getI C 21 (k := 0) in_Lately g116 g117 d_Lately_choose_8 rfl rfl rfl rfl ?_
      refine e_top h.2.1 ?_
      refine e_icmp_ge C d_Lately_choose_11 (tgt := 62) (by decide) (fun h11 => ?_) (fun h11 => ?_)
      · exact absurd h11 (nI_ge (by omega) (by omega))
      · skip
        refine e_aload_n C d_Lately_choose_14 rfl ?_
        refine e_iload_n C d_Lately_choose_15 rfl ?_
        refine e_aload_n C d_Lately_choose_16 rfl ?_
        refine e_getI C 21 (k := 0) in_Lately g116 g117 d_Lately_choose_17 rfl rfl rfl rfl ?_
        refine e_imul C d_Lately_choose_20 ?_
        refine e_iload C d_Lately_choose_21 rfl ?_
        refine e_iadd C d_Lately_choose_23 ?_
        refine e_zald C 6 1 d_Lately_choose_24 rfl rfl (s * wd + k) (by rw [h.2.1, pk_mul, nI_add]) hlt (by omega) ?_
        refine e_if_ne C d_Lately_choose_25 (tgt := 56) (by decide) (fun h25 => ?_) (fun h25 => ?_)
        · have hl2 : lkd f wd s k = true := by simp [lkd]; exact h25
          refine e_iinc C d_Lately_choose_56 rfl (nI_1 k) rfl ?_
          refine e_goto C d_Lately_choose_59 (tgt := 5) (by decide) ?_
          exact e_lv2 (ih (k + 1) b (by omega) hb (by rw [← hf]; simp [rndC, hl2])) rfl
        · have hl2 : lkd f wd s k = false := by simp [lkd]; exact h25
          refine e_aload_n C d_Lately_choose_28 rfl ?_
          refine e_get C 21 (k := 1) in_Lately g167 d_Lately_choose_29 rfl rfl rfl rfl ?_
          refine e_iload_n C d_Lately_choose_32 rfl ?_
          refine e_aload_n C d_Lately_choose_33 rfl ?_
          refine e_getI C 21 (k := 0) in_Lately g116 g117 d_Lately_choose_34 rfl rfl rfl rfl ?_
          refine e_imul C d_Lately_choose_37 ?_
          refine e_iload C d_Lately_choose_38 rfl ?_
          refine e_iadd C d_Lately_choose_40 ?_
          refine e_zald C 22 1 d_Lately_choose_41 rfl rfl (s * wd + k) (by rw [h.2.1, pk_mul, nI_add]) hlt (by omega) ?_
          refine e_if_ne C d_Lately_choose_42 (tgt := 48) (by decide) (fun h42 => ?_) (fun h42 => ?_)
          · have hm2 : mkd f wd s k = true := by simp [mkd]; exact h42
            refine e_iload_n C d_Lately_choose_48 rfl ?_
            refine e_iconst C d_Lately_choose_49 (v := (-1)) (by decide) ?_
            refine e_icmp_ne C d_Lately_choose_50 (tgt := 56) (by decide) (fun h50 => ?_) (fun h50 => ?_)
            · cases b with
              | none => exact absurd rfl h50
              | some j =>
                refine e_iinc C d_Lately_choose_56 rfl (nI_1 k) rfl ?_
                refine e_goto C d_Lately_choose_59 (tgt := 5) (by decide) ?_
                exact e_lv2 (ih (k + 1) (some j) (by omega) hb (by rw [← hf]; simp [rndC, hl2, hm2])) rfl
            · cases b with
              | some j => exact absurd h50 (by rw [oI_n1 (fun k hk => by have := hb k hk; omega)]; simp)
              | none =>
                refine e_iload C d_Lately_choose_53 rfl ?_
                refine e_istore_n C d_Lately_choose_55 rfl ?_
                refine e_iinc C d_Lately_choose_56 rfl (nI_1 k) rfl ?_
                refine e_goto C d_Lately_choose_59 (tgt := 5) (by decide) ?_
                exact e_lv2 (ih (k + 1) (some k) (by omega) (fun j hj => by cases hj; omega) (by rw [← hf]; simp [rndC, hl2, hm2])) rfl
          · have hm2 : mkd f wd s k = false := by simp [mkd]; exact h42
            refine e_iload C d_Lately_choose_45 rfl ?_
            exact e_iret C E d_Lately_choose_47 (Nat.le_refl _) (Nat.le_refl _) rfl ⟨by rw [← hf]; simp [rndC, hl2, hm2, oI], rfl⟩
  exact e_lv2 (L wd 0 none (by omega) (fun j hj => by cases hj) rfl) rfl
end LatelyRows
