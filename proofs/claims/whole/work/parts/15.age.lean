/-! RULE 8 -/
theorem ey_Age_use : eY y_Age_use 2 = true := by decide +kernel
theorem d_Age_use_0 : decode c_Age_use 0 = .ok (.aload_n 0, 1) := by decide +kernel
theorem d_Age_use_1 : decode c_Age_use 1 = .ok (.getfield 9, 3) := by decide +kernel
theorem d_Age_use_4 : decode c_Age_use 4 = .ok (.iload_n 1, 1) := by decide +kernel
theorem d_Age_use_5 : decode c_Age_use 5 = .ok (.aload_n 0, 1) := by decide +kernel
theorem d_Age_use_6 : decode c_Age_use 6 = .ok (.getfield 15, 3) := by decide +kernel
theorem d_Age_use_9 : decode c_Age_use 9 = .ok (.imul, 1) := by decide +kernel
theorem d_Age_use_10 : decode c_Age_use 10 = .ok (.iload_n 2, 1) := by decide +kernel
theorem d_Age_use_11 : decode c_Age_use 11 = .ok (.iadd, 1) := by decide +kernel
theorem d_Age_use_12 : decode c_Age_use 12 = .ok (.iconst 0, 1) := by decide +kernel
theorem d_Age_use_13 : decode c_Age_use 13 = .ok (.iastore, 1) := by decide +kernel
theorem d_Age_use_14 : decode c_Age_use 14 = .ok (.return_, 1) := by decide +kernel
theorem ey_Age_come : eY y_Age_come 2 = true := by decide +kernel
theorem d_Age_come_0 : decode c_Age_come 0 = .ok (.aload_n 0, 1) := by decide +kernel
theorem d_Age_come_1 : decode c_Age_come 1 = .ok (.getfield 9, 3) := by decide +kernel
theorem d_Age_come_4 : decode c_Age_come 4 = .ok (.iload_n 1, 1) := by decide +kernel
theorem d_Age_come_5 : decode c_Age_come 5 = .ok (.aload_n 0, 1) := by decide +kernel
theorem d_Age_come_6 : decode c_Age_come 6 = .ok (.getfield 15, 3) := by decide +kernel
theorem d_Age_come_9 : decode c_Age_come 9 = .ok (.imul, 1) := by decide +kernel
theorem d_Age_come_10 : decode c_Age_come 10 = .ok (.iload_n 2, 1) := by decide +kernel
theorem d_Age_come_11 : decode c_Age_come 11 = .ok (.iadd, 1) := by decide +kernel
theorem d_Age_come_12 : decode c_Age_come 12 = .ok (.iconst 2, 1) := by decide +kernel
theorem d_Age_come_13 : decode c_Age_come 13 = .ok (.iastore, 1) := by decide +kernel
theorem d_Age_come_14 : decode c_Age_come 14 = .ok (.return_, 1) := by decide +kernel
theorem ey_Age_choose : eY y_Age_choose 2 = true := by decide +kernel
theorem d_Age_choose_0 : decode c_Age_choose 0 = .ok (.iconst (-1), 1) := by decide +kernel
theorem d_Age_choose_1 : decode c_Age_choose 1 = .ok (.istore_n 3, 1) := by decide +kernel
theorem d_Age_choose_2 : decode c_Age_choose 2 = .ok (.iload_n 1, 1) := by decide +kernel
theorem d_Age_choose_3 : decode c_Age_choose 3 = .ok (.aload_n 0, 1) := by decide +kernel
theorem d_Age_choose_4 : decode c_Age_choose 4 = .ok (.getfield 15, 3) := by decide +kernel
theorem d_Age_choose_7 : decode c_Age_choose 7 = .ok (.imul, 1) := by decide +kernel
theorem d_Age_choose_8 : decode c_Age_choose 8 = .ok (.istore 4, 2) := by decide +kernel
theorem d_Age_choose_10 : decode c_Age_choose 10 = .ok (.iconst 0, 1) := by decide +kernel
theorem d_Age_choose_11 : decode c_Age_choose 11 = .ok (.istore 5, 2) := by decide +kernel
theorem d_Age_choose_13 : decode c_Age_choose 13 = .ok (.iload 5, 2) := by decide +kernel
theorem d_Age_choose_15 : decode c_Age_choose 15 = .ok (.aload_n 0, 1) := by decide +kernel
theorem d_Age_choose_16 : decode c_Age_choose 16 = .ok (.getfield 15, 3) := by decide +kernel
theorem d_Age_choose_19 : decode c_Age_choose 19 = .ok (.if_icmp .ge 49, 3) := by decide +kernel
theorem d_Age_choose_22 : decode c_Age_choose 22 = .ok (.aload_n 2, 1) := by decide +kernel
theorem d_Age_choose_23 : decode c_Age_choose 23 = .ok (.iload 4, 2) := by decide +kernel
theorem d_Age_choose_25 : decode c_Age_choose 25 = .ok (.iload 5, 2) := by decide +kernel
theorem d_Age_choose_27 : decode c_Age_choose 27 = .ok (.iadd, 1) := by decide +kernel
theorem d_Age_choose_28 : decode c_Age_choose 28 = .ok (.baload, 1) := by decide +kernel
theorem d_Age_choose_29 : decode c_Age_choose 29 = .ok (.ifCond .ne 33, 3) := by decide +kernel
theorem d_Age_choose_32 : decode c_Age_choose 32 = .ok (.iload_n 3, 1) := by decide +kernel
theorem d_Age_choose_33 : decode c_Age_choose 33 = .ok (.iconst (-1), 1) := by decide +kernel
theorem d_Age_choose_34 : decode c_Age_choose 34 = .ok (.if_icmp .eq 25, 3) := by decide +kernel
theorem d_Age_choose_37 : decode c_Age_choose 37 = .ok (.aload_n 0, 1) := by decide +kernel
theorem d_Age_choose_38 : decode c_Age_choose 38 = .ok (.getfield 9, 3) := by decide +kernel
theorem d_Age_choose_41 : decode c_Age_choose 41 = .ok (.iload 4, 2) := by decide +kernel
theorem d_Age_choose_43 : decode c_Age_choose 43 = .ok (.iload 5, 2) := by decide +kernel
theorem d_Age_choose_45 : decode c_Age_choose 45 = .ok (.iadd, 1) := by decide +kernel
theorem d_Age_choose_46 : decode c_Age_choose 46 = .ok (.iaload, 1) := by decide +kernel
theorem d_Age_choose_47 : decode c_Age_choose 47 = .ok (.aload_n 0, 1) := by decide +kernel
theorem d_Age_choose_48 : decode c_Age_choose 48 = .ok (.getfield 9, 3) := by decide +kernel
theorem d_Age_choose_51 : decode c_Age_choose 51 = .ok (.iload 4, 2) := by decide +kernel
theorem d_Age_choose_53 : decode c_Age_choose 53 = .ok (.iload_n 3, 1) := by decide +kernel
theorem d_Age_choose_54 : decode c_Age_choose 54 = .ok (.iadd, 1) := by decide +kernel
theorem d_Age_choose_55 : decode c_Age_choose 55 = .ok (.iaload, 1) := by decide +kernel
theorem d_Age_choose_56 : decode c_Age_choose 56 = .ok (.if_icmp .le 6, 3) := by decide +kernel
theorem d_Age_choose_59 : decode c_Age_choose 59 = .ok (.iload 5, 2) := by decide +kernel
theorem d_Age_choose_61 : decode c_Age_choose 61 = .ok (.istore_n 3, 1) := by decide +kernel
theorem d_Age_choose_62 : decode c_Age_choose 62 = .ok (.iinc 5 1, 3) := by decide +kernel
theorem d_Age_choose_65 : decode c_Age_choose 65 = .ok (.goto (-52), 3) := by decide +kernel
theorem d_Age_choose_68 : decode c_Age_choose 68 = .ok (.iload_n 3, 1) := by decide +kernel
theorem d_Age_choose_69 : decode c_Age_choose 69 = .ok (.ireturn, 1) := by decide +kernel
theorem ey_Age_settle : eY y_Age_settle 3 = true := by decide +kernel
theorem d_Age_settle_0 : decode c_Age_settle 0 = .ok (.iconst 3, 1) := by decide +kernel
theorem d_Age_settle_1 : decode c_Age_settle 1 = .ok (.aload_n 0, 1) := by decide +kernel
theorem d_Age_settle_2 : decode c_Age_settle 2 = .ok (.getfield 9, 3) := by decide +kernel
theorem d_Age_settle_5 : decode c_Age_settle 5 = .ok (.iload_n 1, 1) := by decide +kernel
theorem d_Age_settle_6 : decode c_Age_settle 6 = .ok (.aload_n 0, 1) := by decide +kernel
theorem d_Age_settle_7 : decode c_Age_settle 7 = .ok (.getfield 15, 3) := by decide +kernel
theorem d_Age_settle_10 : decode c_Age_settle 10 = .ok (.imul, 1) := by decide +kernel
theorem d_Age_settle_11 : decode c_Age_settle 11 = .ok (.iload_n 2, 1) := by decide +kernel
theorem d_Age_settle_12 : decode c_Age_settle 12 = .ok (.iadd, 1) := by decide +kernel
theorem d_Age_settle_13 : decode c_Age_settle 13 = .ok (.iaload, 1) := by decide +kernel
theorem d_Age_settle_14 : decode c_Age_settle 14 = .ok (.isub, 1) := by decide +kernel
theorem d_Age_settle_15 : decode c_Age_settle 15 = .ok (.istore 4, 2) := by decide +kernel
theorem d_Age_settle_17 : decode c_Age_settle 17 = .ok (.iload_n 1, 1) := by decide +kernel
theorem d_Age_settle_18 : decode c_Age_settle 18 = .ok (.aload_n 0, 1) := by decide +kernel
theorem d_Age_settle_19 : decode c_Age_settle 19 = .ok (.getfield 15, 3) := by decide +kernel
theorem d_Age_settle_22 : decode c_Age_settle 22 = .ok (.imul, 1) := by decide +kernel
theorem d_Age_settle_23 : decode c_Age_settle 23 = .ok (.istore 5, 2) := by decide +kernel
theorem d_Age_settle_25 : decode c_Age_settle 25 = .ok (.iload 5, 2) := by decide +kernel
theorem d_Age_settle_27 : decode c_Age_settle 27 = .ok (.iload_n 1, 1) := by decide +kernel
theorem d_Age_settle_28 : decode c_Age_settle 28 = .ok (.aload_n 0, 1) := by decide +kernel
theorem d_Age_settle_29 : decode c_Age_settle 29 = .ok (.getfield 15, 3) := by decide +kernel
theorem d_Age_settle_32 : decode c_Age_settle 32 = .ok (.imul, 1) := by decide +kernel
theorem d_Age_settle_33 : decode c_Age_settle 33 = .ok (.aload_n 0, 1) := by decide +kernel
theorem d_Age_settle_34 : decode c_Age_settle 34 = .ok (.getfield 15, 3) := by decide +kernel
theorem d_Age_settle_37 : decode c_Age_settle 37 = .ok (.iadd, 1) := by decide +kernel
theorem d_Age_settle_38 : decode c_Age_settle 38 = .ok (.if_icmp .ge 28, 3) := by decide +kernel
theorem d_Age_settle_41 : decode c_Age_settle 41 = .ok (.aload_n 3, 1) := by decide +kernel
theorem d_Age_settle_42 : decode c_Age_settle 42 = .ok (.iload 5, 2) := by decide +kernel
theorem d_Age_settle_44 : decode c_Age_settle 44 = .ok (.baload, 1) := by decide +kernel
theorem d_Age_settle_45 : decode c_Age_settle 45 = .ok (.ifCond .ne 15, 3) := by decide +kernel
theorem d_Age_settle_48 : decode c_Age_settle 48 = .ok (.aload_n 0, 1) := by decide +kernel
theorem d_Age_settle_49 : decode c_Age_settle 49 = .ok (.getfield 9, 3) := by decide +kernel
theorem d_Age_settle_52 : decode c_Age_settle 52 = .ok (.iload 5, 2) := by decide +kernel
theorem d_Age_settle_54 : decode c_Age_settle 54 = .ok (.dup2, 1) := by decide +kernel
theorem d_Age_settle_55 : decode c_Age_settle 55 = .ok (.iaload, 1) := by decide +kernel
theorem d_Age_settle_56 : decode c_Age_settle 56 = .ok (.iload 4, 2) := by decide +kernel
theorem d_Age_settle_58 : decode c_Age_settle 58 = .ok (.iadd, 1) := by decide +kernel
theorem d_Age_settle_59 : decode c_Age_settle 59 = .ok (.iastore, 1) := by decide +kernel
theorem d_Age_settle_60 : decode c_Age_settle 60 = .ok (.iinc 5 1, 3) := by decide +kernel
theorem d_Age_settle_63 : decode c_Age_settle 63 = .ok (.goto (-38), 3) := by decide +kernel
theorem d_Age_settle_66 : decode c_Age_settle 66 = .ok (.return_, 1) := by decide +kernel
abbrev wA (G : EG) (a : Nat → Nat) (v : Nat → Int32) (f : Nat → Nat → Int32) (n V : Nat) : va_W := cF G a v f n V (rAge G a v f n)
section AgeRows
variable {l : Launch} {G : EG} {a : Nat → Nat} {v : Nat → Int32} {f : Nat → Nat → Int32} {V S wd s w : Nat}
set_option maxRecDepth 100000 in
theorem k_Age_use (h : CD v S wd) (hs : s < S) (hw : w < wd) : Con l G y_Age_use c_Age_use 3 none (rz 0 0) [.ref (a 21), .int (nI s), .int (nI w)] (wA G a v f (S * wd) V) (DV (wA G a v (up2 f 22 (upd (f 22) (s * wd + w) 0)) (S * wd) V)) := by
  refine Con.of rfl rfl (fun X C E hR hl hn => ?_)
  have hn1 := h.n128
  have hlt := slot_lt hs hw
  refine e_aload_n C d_Age_use_0 rfl ?_
  refine e_get C 21 (k := 1) in_Age g178 d_Age_use_1 rfl rfl rfl rfl ?_
  refine e_iload_n C d_Age_use_4 rfl ?_
  refine e_aload_n C d_Age_use_5 rfl ?_
  refine e_getI C 21 (k := 0) in_Age g120 g121 d_Age_use_6 rfl rfl rfl rfl ?_
  refine e_imul C d_Age_use_9 ?_
  refine e_iload_n C d_Age_use_10 rfl ?_
  refine e_iadd C d_Age_use_11 ?_
  refine e_iconst C d_Age_use_12 (v := 0) (by decide) ?_
  refine e_iast C 22 0 d_Age_use_13 rfl rfl (s * wd + w) (by rw [h.2.1, pk_mul, nI_add]) hlt (by omega) ?_
  exact e_vret C E d_Age_use_14 (Nat.le_refl _) (Nat.le_refl _) ⟨rfl, rfl⟩
set_option maxRecDepth 100000 in
theorem k_Age_come (h : CD v S wd) (hs : s < S) (hw : w < wd) : Con l G y_Age_come c_Age_come 3 none (rz 0 0) [.ref (a 21), .int (nI s), .int (nI w)] (wA G a v f (S * wd) V) (DV (wA G a v (up2 f 22 (upd (f 22) (s * wd + w) 2)) (S * wd) V)) := by
  refine Con.of rfl rfl (fun X C E hR hl hn => ?_)
  have hn1 := h.n128
  have hlt := slot_lt hs hw
  refine e_aload_n C d_Age_come_0 rfl ?_
  refine e_get C 21 (k := 1) in_Age g178 d_Age_come_1 rfl rfl rfl rfl ?_
  refine e_iload_n C d_Age_come_4 rfl ?_
  refine e_aload_n C d_Age_come_5 rfl ?_
  refine e_getI C 21 (k := 0) in_Age g120 g121 d_Age_come_6 rfl rfl rfl rfl ?_
  refine e_imul C d_Age_come_9 ?_
  refine e_iload_n C d_Age_come_10 rfl ?_
  refine e_iadd C d_Age_come_11 ?_
  refine e_iconst C d_Age_come_12 (v := 2) (by decide) ?_
  refine e_iast C 22 0 d_Age_come_13 rfl rfl (s * wd + w) (by rw [h.2.1, pk_mul, nI_add]) hlt (by omega) ?_
  exact e_vret C E d_Age_come_14 (Nat.le_refl _) (Nat.le_refl _) ⟨rfl, rfl⟩
/-- older -/
def old (f : Nat → Nat → Int32) (i j : Nat) : Bool := !decide (f 22 i ≤ f 22 j)
set_option maxRecDepth 100000 in
theorem k_Age_choose (h : CD v S wd) (hs : s < S) : Con l G y_Age_choose c_Age_choose 6 (some .int) (rz 0 0) [.ref (a 21), .int (nI s), .ref (a 6)] (wA G a v f (S * wd) V) (DI (oI (pickB (lkd f wd s) (fun x y => old f (s * wd + x) (s * wd + y)) none 0 wd)) (wA G a v f (S * wd) V)) := by
  refine Con.of rfl rfl (fun X C E hR hl hn => ?_)
  have hn1 := h.n128
  have hw8 := h.2.2.2.2
  refine e_iconst C d_Age_choose_0 (v := (-1)) (by decide) ?_
  refine e_istore_n C d_Age_choose_1 rfl ?_
  refine e_iload_n C d_Age_choose_2 rfl ?_
  refine e_aload_n C d_Age_choose_3 rfl ?_
  refine e_getI C 21 (k := 0) in_Age g120 g121 d_Age_choose_4 rfl rfl rfl rfl ?_
  refine e_imul C d_Age_choose_7 ?_
  refine e_top (y := nI (s * wd)) (by rw [h.2.1, pk_mul]) ?_
  refine e_istore C d_Age_choose_8 rfl ?_
  refine e_iconst C d_Age_choose_10 (v := 0) (by decide) ?_
  refine e_istore C d_Age_choose_11 rfl ?_
  generalize hbt : (fun x y => old f (s * wd + x) (s * wd + y)) = bt at E
  have L : ∀ (m k : Nat) (b : Option Nat), k + m = wd → (∀ j, b = some j → j < wd) → pickB (lkd f wd s) bt b k m = pickB (lkd f wd s) bt none 0 wd → EW X G 6 0 0 13 [(0, .ref (a 21)), (1, .int (nI s)), (2, .ref (a 6)), (3, .int (oI b)), (4, .int (nI (s * wd))), (5, .int (nI k))] [] (wA G a v f (S * wd) V) := by
    intro m
    induction m with
    | zero =>
      intro k b hk hbk hf
      refine e_iload C d_Age_choose_13 rfl ?_
      refine e_aload_n C d_Age_choose_15 rfl ?_
      refine e_getI C 21 (k := 0) in_Age g120 g121 d_Age_choose_16 rfl rfl rfl rfl ?_
      refine e_top h.2.1 ?_
      refine e_icmp_ge C d_Age_choose_19 (tgt := 68) (by decide) (fun h19 => ?_) (fun h19 => ?_)
      · skip
        refine e_iload_n C d_Age_choose_68 rfl ?_
        exact e_iret C E d_Age_choose_69 (Nat.le_refl _) (Nat.le_refl _) rfl ⟨by rw [← hf]; rfl, rfl⟩
      · exact absurd (nI_le (by omega) (by omega)) h19
    | succ m ih =>
      intro k b hk hbk hf
      have hlt := slot_lt (w := k) hs (show k < wd by omega)
      refine e_iload C d_Age_choose_13 rfl ?_
      refine e_aload_n C d_Age_choose_15 rfl ?_
      refine e_getI C 21 (k := 0) in_Age g120 g121 d_Age_choose_16 rfl rfl rfl rfl ?_
      refine e_top h.2.1 ?_
      refine e_icmp_ge C d_Age_choose_19 (tgt := 68) (by decide) (fun h19 => ?_) (fun h19 => ?_)
      · exact absurd h19 (nI_ge (by omega) (by omega))
      · skip
        refine e_aload_n C d_Age_choose_22 rfl ?_
        refine e_iload C d_Age_choose_23 rfl ?_
        refine e_iload C d_Age_choose_25 rfl ?_
        refine e_iadd C d_Age_choose_27 ?_
        refine e_zald C 6 1 d_Age_choose_28 rfl rfl (s * wd + k) (nI_add _ _) hlt (by omega) ?_
        refine e_if_ne C d_Age_choose_29 (tgt := 62) (by decide) (fun h29 => ?_) (fun h29 => ?_)
        · have hh : lkd f wd s k = true := by simp [lkd]; exact h29
          refine e_iinc C d_Age_choose_62 rfl (nI_1 k) rfl ?_
          refine e_goto C d_Age_choose_65 (tgt := 13) (by decide) ?_
          exact e_lv2 (ih (k + 1) b (by omega) hbk (by rw [← hf]; simp [pickB, hh])) rfl
        · have hh : lkd f wd s k = false := by simp [lkd]; exact h29
          refine e_iload_n C d_Age_choose_32 rfl ?_
          refine e_iconst C d_Age_choose_33 (v := (-1)) (by decide) ?_
          refine e_icmp_eq C d_Age_choose_34 (tgt := 59) (by decide) (fun h34 => ?_) (fun h34 => ?_)
          · cases b with
            | some j => exact absurd h34 (by rw [oI_n1 (fun k hk => by have := hbk k hk; omega)]; simp)
            | none =>
              refine e_iload C d_Age_choose_59 rfl ?_
              refine e_istore_n C d_Age_choose_61 rfl ?_
              refine e_iinc C d_Age_choose_62 rfl (nI_1 k) rfl ?_
              refine e_goto C d_Age_choose_65 (tgt := 13) (by decide) ?_
              exact e_lv2 (ih (k + 1) (some k) (by omega) (fun j hj => by cases hj; omega) (by rw [← hf]; simp [pickB, hh])) rfl
          · cases b with
            | none => exact absurd rfl h34
            | some j =>
              have hjw := hbk j rfl
              have hlt2 := slot_lt (w := j) hs hjw
              refine e_aload_n C d_Age_choose_37 rfl ?_
              refine e_get C 21 (k := 1) in_Age g178 d_Age_choose_38 rfl rfl rfl rfl ?_
              refine e_iload C d_Age_choose_41 rfl ?_
              refine e_iload C d_Age_choose_43 rfl ?_
              refine e_iadd C d_Age_choose_45 ?_
              refine e_iald C 22 0 d_Age_choose_46 rfl rfl (s * wd + k) (nI_add _ _) hlt (by omega) ?_
              refine e_aload_n C d_Age_choose_47 rfl ?_
              refine e_get C 21 (k := 1) in_Age g178 d_Age_choose_48 rfl rfl rfl rfl ?_
              refine e_iload C d_Age_choose_51 rfl ?_
              refine e_iload_n C d_Age_choose_53 rfl ?_
              refine e_iadd C d_Age_choose_54 ?_
              refine e_iald C 22 0 d_Age_choose_55 rfl rfl (s * wd + j) (nI_add _ _) hlt2 (by omega) ?_
              refine e_icmp_le C d_Age_choose_56 (tgt := 62) (by decide) (fun h56 => ?_) (fun h56 => ?_)
              · have hb2 : bt k j = false := by rw [← hbt]; simp [old]; exact h56
                refine e_iinc C d_Age_choose_62 rfl (nI_1 k) rfl ?_
                refine e_goto C d_Age_choose_65 (tgt := 13) (by decide) ?_
                exact e_lv2 (ih (k + 1) (some j) (by omega) hbk (by rw [← hf]; simp [pickB, hh, hb2])) rfl
              · have hb2 : bt k j = true := by
                  rw [← hbt]
                  simp only [old, Bool.not_eq_true', decide_eq_false_iff_not]
                  exact h56
                refine e_iload C d_Age_choose_59 rfl ?_
                refine e_istore_n C d_Age_choose_61 rfl ?_
                refine e_iinc C d_Age_choose_62 rfl (nI_1 k) rfl ?_
                refine e_goto C d_Age_choose_65 (tgt := 13) (by decide) ?_
                exact e_lv2 (ih (k + 1) (some k) (by omega) (fun j hj => by cases hj; omega) (by rw [← hf]; simp [pickB, hh, hb2])) rfl
  exact e_lv2 (L wd 0 none (by omega) (fun j hj => by cases hj) rfl) rfl
/-- all that are not locked grow older by y, from slot lo up to hi -/
def agd (f : Nat → Nat → Int32) (y : Int32) (lo hi : Nat) : Nat → Int32 := fun j => if lo ≤ j ∧ j < hi ∧ f 6 j = 0 then f 22 j + y else f 22 j
theorem agd_0 (f : Nat → Nat → Int32) (y : Int32) (lo : Nat) : agd f y lo lo = f 22 := by
  funext j
  unfold agd
  rw [if_neg (by omega)]
theorem agd_l {f : Nat → Nat → Int32} {y : Int32} {lo k : Nat} (h : ¬ f 6 k = 0) : agd f y lo (k + 1) = agd f y lo k := by
  funext j
  unfold agd
  by_cases hj : j = k
  · subst hj
    rw [if_neg (fun z => h z.2.2), if_neg (fun z => h z.2.2)]
  · by_cases h2 : lo ≤ j ∧ j < k ∧ f 6 j = 0
    · rw [if_pos ⟨h2.1, by omega, h2.2.2⟩, if_pos h2]
    · rw [if_neg (fun z => h2 ⟨z.1, by omega, z.2.2⟩), if_neg h2]
theorem agd_s {f : Nat → Nat → Int32} {y : Int32} {lo k : Nat} (hk : lo ≤ k) (h : f 6 k = 0) : agd f y lo (k + 1) = upd (agd f y lo k) k (agd f y lo k k + y) := by
  funext j
  by_cases hj : j = k
  · subst hj
    rw [pk_us]
    unfold agd
    rw [if_pos ⟨hk, by omega, h⟩, if_neg (by omega)]
  · rw [pk_un hj]
    unfold agd
    by_cases h2 : lo ≤ j ∧ j < k ∧ f 6 j = 0
    · rw [if_pos ⟨h2.1, by omega, h2.2.2⟩, if_pos h2]
    · rw [if_neg (fun z => h2 ⟨z.1, by omega, z.2.2⟩), if_neg h2]
set_option maxRecDepth 100000 in
theorem k_Age_settle (h : CD v S wd) (hs : s < S) (hw : w < wd) : Con l G y_Age_settle c_Age_settle 6 none (rz 0 0) [.ref (a 21), .int (nI s), .int (nI w), .ref (a 6)] (wA G a v f (S * wd) V) (DV (wA G a v (up2 f 22 (agd f (3 - f 22 (s * wd + w)) (s * wd) (s * wd + wd))) (S * wd) V)) := by
  refine Con.of rfl rfl (fun X C E hR hl hn => ?_)
  have hn1 := h.n128
  have hlt := slot_lt hs hw
  have hle : s * wd + wd ≤ S * wd := by
    have := slot_lt (w := wd - 1) hs (show wd - 1 < wd by omega)
    omega
  refine e_iconst C d_Age_settle_0 (v := 3) (by decide) ?_
  refine e_aload_n C d_Age_settle_1 rfl ?_
  refine e_get C 21 (k := 1) in_Age g178 d_Age_settle_2 rfl rfl rfl rfl ?_
  refine e_iload_n C d_Age_settle_5 rfl ?_
  refine e_aload_n C d_Age_settle_6 rfl ?_
  refine e_getI C 21 (k := 0) in_Age g120 g121 d_Age_settle_7 rfl rfl rfl rfl ?_
  refine e_imul C d_Age_settle_10 ?_
  refine e_iload_n C d_Age_settle_11 rfl ?_
  refine e_iadd C d_Age_settle_12 ?_
  refine e_iald C 22 0 d_Age_settle_13 rfl rfl (s * wd + w) (by rw [h.2.1, pk_mul, nI_add]) hlt (by omega) ?_
  refine e_isub C d_Age_settle_14 ?_
  refine e_istore C d_Age_settle_15 rfl ?_
  refine e_iload_n C d_Age_settle_17 rfl ?_
  refine e_aload_n C d_Age_settle_18 rfl ?_
  refine e_getI C 21 (k := 0) in_Age g120 g121 d_Age_settle_19 rfl rfl rfl rfl ?_
  generalize 3 - f 22 (s * wd + w) = y at E ⊢
  refine e_imul C d_Age_settle_22 ?_
  refine e_top (y := nI (s * wd)) (by rw [h.2.1, pk_mul]) ?_
  refine e_istore C d_Age_settle_23 rfl ?_
  have L : ∀ m k : Nat, k + m = s * wd + wd → s * wd ≤ k → EW X G 6 0 0 25 [(0, .ref (a 21)), (1, .int (nI s)), (2, .int (nI w)), (3, .ref (a 6)), (4, .int y), (5, .int (nI k))] [] (wA G a v (up2 f 22 (agd f y (s * wd) k)) (S * wd) V) := by
    intro m
    induction m with
    | zero =>
      intro k hk hk2
      obtain rfl : k = s * wd + wd := by omega
      refine e_iload C d_Age_settle_25 rfl ?_
      refine e_iload_n C d_Age_settle_27 rfl ?_
      refine e_aload_n C d_Age_settle_28 rfl ?_
      refine e_getI C 21 (k := 0) in_Age g120 g121 d_Age_settle_29 rfl rfl rfl rfl ?_
      refine e_imul C d_Age_settle_32 ?_
      refine e_aload_n C d_Age_settle_33 rfl ?_
      refine e_getI C 21 (k := 0) in_Age g120 g121 d_Age_settle_34 rfl rfl rfl rfl ?_
      refine e_iadd C d_Age_settle_37 ?_
      refine e_top (y := nI (s * wd + wd)) (by show nI s * v 7 + v 7 = _; rw [h.2.1, pk_mul, nI_add]) ?_
      refine e_icmp_ge C d_Age_settle_38 (tgt := 66) (by decide) (fun h38 => ?_) (fun h38 => ?_)
      · skip
        exact e_vret C E d_Age_settle_66 (Nat.le_refl _) (Nat.le_refl _) ⟨rfl, rfl⟩
      · exact absurd (nI_le (Nat.le_refl _) (by omega)) h38
    | succ m ih =>
      intro k hk hk2
      refine e_iload C d_Age_settle_25 rfl ?_
      refine e_iload_n C d_Age_settle_27 rfl ?_
      refine e_aload_n C d_Age_settle_28 rfl ?_
      refine e_getI C 21 (k := 0) in_Age g120 g121 d_Age_settle_29 rfl rfl rfl rfl ?_
      refine e_imul C d_Age_settle_32 ?_
      refine e_aload_n C d_Age_settle_33 rfl ?_
      refine e_getI C 21 (k := 0) in_Age g120 g121 d_Age_settle_34 rfl rfl rfl rfl ?_
      refine e_iadd C d_Age_settle_37 ?_
      refine e_top (y := nI (s * wd + wd)) (by show nI s * v 7 + v 7 = _; rw [h.2.1, pk_mul, nI_add]) ?_
      refine e_icmp_ge C d_Age_settle_38 (tgt := 66) (by decide) (fun h38 => ?_) (fun h38 => ?_)
      · exact absurd h38 (nI_ge (by omega) (by omega))
      · skip
        refine e_aload_n C d_Age_settle_41 rfl ?_
        refine e_iload C d_Age_settle_42 rfl ?_
        refine e_zald C 6 1 d_Age_settle_44 rfl rfl k rfl (by omega) (by omega) ?_
        refine e_if_ne C d_Age_settle_45 (tgt := 60) (by decide) (fun h45 => ?_) (fun h45 => ?_)
        · have h45 : ¬ f 6 k = 0 := h45
          have ih := ih (k + 1) (by omega) (by omega)
          rw [agd_l h45] at ih
          refine e_iinc C d_Age_settle_60 rfl (nI_1 k) rfl ?_
          refine e_goto C d_Age_settle_63 (tgt := 25) (by decide) ?_
          exact e_lv2 ih rfl
        · have h45 : f 6 k = 0 := h45
          have ih := ih (k + 1) (by omega) (by omega)
          rw [agd_s hk2 h45] at ih
          refine e_aload_n C d_Age_settle_48 rfl ?_
          refine e_get C 21 (k := 1) in_Age g178 d_Age_settle_49 rfl rfl rfl rfl ?_
          refine e_iload C d_Age_settle_52 rfl ?_
          refine e_dup2 C d_Age_settle_54 rfl rfl ?_
          refine e_iald C 22 0 d_Age_settle_55 rfl rfl k rfl (by omega) (by omega) ?_
          refine e_iload C d_Age_settle_56 rfl ?_
          refine e_iadd C d_Age_settle_58 ?_
          refine e_iast C 22 0 d_Age_settle_59 rfl rfl k rfl (by omega) (by omega) ?_
          refine e_iinc C d_Age_settle_60 rfl (nI_1 k) rfl ?_
          refine e_goto C d_Age_settle_63 (tgt := 25) (by decide) ?_
          exact e_lv2 ih rfl
  refine e_eq (ws' := wA G a v (up2 f 22 (agd f y (s * wd) (s * wd))) (S * wd) V) (by rw [agd_0]; rfl) ?_
  exact e_lv2 (L wd (s * wd) rfl (Nat.le_refl _)) rfl
end AgeRows
