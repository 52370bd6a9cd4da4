/-! WAYS -/
theorem ey_Ways_setOf : eY y_Ways_setOf 1 = true := by decide +kernel
theorem d_Ways_setOf_0 : decode c_Ways_setOf 0 = .ok (.iload_n 1, 1) := by decide +kernel
theorem d_Ways_setOf_1 : decode c_Ways_setOf 1 = .ok (.aload_n 0, 1) := by decide +kernel
theorem d_Ways_setOf_2 : decode c_Ways_setOf 2 = .ok (.getfield 9, 3) := by decide +kernel
theorem d_Ways_setOf_5 : decode c_Ways_setOf 5 = .ok (.iconst 1, 1) := by decide +kernel
theorem d_Ways_setOf_6 : decode c_Ways_setOf 6 = .ok (.isub, 1) := by decide +kernel
theorem d_Ways_setOf_7 : decode c_Ways_setOf 7 = .ok (.iand, 1) := by decide +kernel
theorem d_Ways_setOf_8 : decode c_Ways_setOf 8 = .ok (.ireturn, 1) := by decide +kernel
theorem ey_Ways_find : eY y_Ways_find 1 = true := by decide +kernel
theorem d_Ways_find_0 : decode c_Ways_find 0 = .ok (.aload_n 0, 1) := by decide +kernel
theorem d_Ways_find_1 : decode c_Ways_find 1 = .ok (.iload_n 1, 1) := by decide +kernel
theorem d_Ways_find_2 : decode c_Ways_find 2 = .ok (.invokevirtual 38, 3) := by decide +kernel
theorem d_Ways_find_5 : decode c_Ways_find 5 = .ok (.aload_n 0, 1) := by decide +kernel
theorem d_Ways_find_6 : decode c_Ways_find 6 = .ok (.getfield 15, 3) := by decide +kernel
theorem d_Ways_find_9 : decode c_Ways_find 9 = .ok (.imul, 1) := by decide +kernel
theorem d_Ways_find_10 : decode c_Ways_find 10 = .ok (.istore_n 2, 1) := by decide +kernel
theorem d_Ways_find_11 : decode c_Ways_find 11 = .ok (.iload_n 2, 1) := by decide +kernel
theorem d_Ways_find_12 : decode c_Ways_find 12 = .ok (.istore_n 3, 1) := by decide +kernel
theorem d_Ways_find_13 : decode c_Ways_find 13 = .ok (.iload_n 3, 1) := by decide +kernel
theorem d_Ways_find_14 : decode c_Ways_find 14 = .ok (.iload_n 2, 1) := by decide +kernel
theorem d_Ways_find_15 : decode c_Ways_find 15 = .ok (.aload_n 0, 1) := by decide +kernel
theorem d_Ways_find_16 : decode c_Ways_find 16 = .ok (.getfield 15, 3) := by decide +kernel
theorem d_Ways_find_19 : decode c_Ways_find 19 = .ok (.iadd, 1) := by decide +kernel
theorem d_Ways_find_20 : decode c_Ways_find 20 = .ok (.if_icmp .ge 30, 3) := by decide +kernel
theorem d_Ways_find_23 : decode c_Ways_find 23 = .ok (.aload_n 0, 1) := by decide +kernel
theorem d_Ways_find_24 : decode c_Ways_find 24 = .ok (.getfield 25, 3) := by decide +kernel
theorem d_Ways_find_27 : decode c_Ways_find 27 = .ok (.iload_n 3, 1) := by decide +kernel
theorem d_Ways_find_28 : decode c_Ways_find 28 = .ok (.baload, 1) := by decide +kernel
theorem d_Ways_find_29 : decode c_Ways_find 29 = .ok (.ifCond .eq 15, 3) := by decide +kernel
theorem d_Ways_find_32 : decode c_Ways_find 32 = .ok (.aload_n 0, 1) := by decide +kernel
theorem d_Ways_find_33 : decode c_Ways_find 33 = .ok (.getfield 21, 3) := by decide +kernel
theorem d_Ways_find_36 : decode c_Ways_find 36 = .ok (.iload_n 3, 1) := by decide +kernel
theorem d_Ways_find_37 : decode c_Ways_find 37 = .ok (.iaload, 1) := by decide +kernel
theorem d_Ways_find_38 : decode c_Ways_find 38 = .ok (.iload_n 1, 1) := by decide +kernel
theorem d_Ways_find_39 : decode c_Ways_find 39 = .ok (.if_icmp .ne 5, 3) := by decide +kernel
theorem d_Ways_find_42 : decode c_Ways_find 42 = .ok (.iload_n 3, 1) := by decide +kernel
theorem d_Ways_find_43 : decode c_Ways_find 43 = .ok (.ireturn, 1) := by decide +kernel
theorem d_Ways_find_44 : decode c_Ways_find 44 = .ok (.iinc 3 1, 3) := by decide +kernel
theorem d_Ways_find_47 : decode c_Ways_find 47 = .ok (.goto (-34), 3) := by decide +kernel
theorem d_Ways_find_50 : decode c_Ways_find 50 = .ok (.iconst (-1), 1) := by decide +kernel
theorem d_Ways_find_51 : decode c_Ways_find 51 = .ok (.ireturn, 1) := by decide +kernel
theorem ey_Ways_emptyWay : eY y_Ways_emptyWay 1 = true := by decide +kernel
theorem d_Ways_emptyWay_0 : decode c_Ways_emptyWay 0 = .ok (.iconst 0, 1) := by decide +kernel
theorem d_Ways_emptyWay_1 : decode c_Ways_emptyWay 1 = .ok (.istore_n 2, 1) := by decide +kernel
theorem d_Ways_emptyWay_2 : decode c_Ways_emptyWay 2 = .ok (.iload_n 2, 1) := by decide +kernel
theorem d_Ways_emptyWay_3 : decode c_Ways_emptyWay 3 = .ok (.aload_n 0, 1) := by decide +kernel
theorem d_Ways_emptyWay_4 : decode c_Ways_emptyWay 4 = .ok (.getfield 15, 3) := by decide +kernel
theorem d_Ways_emptyWay_7 : decode c_Ways_emptyWay 7 = .ok (.if_icmp .ge 27, 3) := by decide +kernel
theorem d_Ways_emptyWay_10 : decode c_Ways_emptyWay 10 = .ok (.aload_n 0, 1) := by decide +kernel
theorem d_Ways_emptyWay_11 : decode c_Ways_emptyWay 11 = .ok (.getfield 25, 3) := by decide +kernel
theorem d_Ways_emptyWay_14 : decode c_Ways_emptyWay 14 = .ok (.iload_n 1, 1) := by decide +kernel
theorem d_Ways_emptyWay_15 : decode c_Ways_emptyWay 15 = .ok (.aload_n 0, 1) := by decide +kernel
theorem d_Ways_emptyWay_16 : decode c_Ways_emptyWay 16 = .ok (.getfield 15, 3) := by decide +kernel
theorem d_Ways_emptyWay_19 : decode c_Ways_emptyWay 19 = .ok (.imul, 1) := by decide +kernel
theorem d_Ways_emptyWay_20 : decode c_Ways_emptyWay 20 = .ok (.iload_n 2, 1) := by decide +kernel
theorem d_Ways_emptyWay_21 : decode c_Ways_emptyWay 21 = .ok (.iadd, 1) := by decide +kernel
theorem d_Ways_emptyWay_22 : decode c_Ways_emptyWay 22 = .ok (.baload, 1) := by decide +kernel
theorem d_Ways_emptyWay_23 : decode c_Ways_emptyWay 23 = .ok (.ifCond .ne 5, 3) := by decide +kernel
theorem d_Ways_emptyWay_26 : decode c_Ways_emptyWay 26 = .ok (.iload_n 2, 1) := by decide +kernel
theorem d_Ways_emptyWay_27 : decode c_Ways_emptyWay 27 = .ok (.ireturn, 1) := by decide +kernel
theorem d_Ways_emptyWay_28 : decode c_Ways_emptyWay 28 = .ok (.iinc 2 1, 3) := by decide +kernel
theorem d_Ways_emptyWay_31 : decode c_Ways_emptyWay 31 = .ok (.goto (-29), 3) := by decide +kernel
theorem d_Ways_emptyWay_34 : decode c_Ways_emptyWay 34 = .ok (.iconst (-1), 1) := by decide +kernel
theorem d_Ways_emptyWay_35 : decode c_Ways_emptyWay 35 = .ok (.ireturn, 1) := by decide +kernel
theorem ey_Ways_allLocked : eY y_Ways_allLocked 1 = true := by decide +kernel
theorem d_Ways_allLocked_0 : decode c_Ways_allLocked 0 = .ok (.iconst 0, 1) := by decide +kernel
theorem d_Ways_allLocked_1 : decode c_Ways_allLocked 1 = .ok (.istore_n 2, 1) := by decide +kernel
theorem d_Ways_allLocked_2 : decode c_Ways_allLocked 2 = .ok (.iload_n 2, 1) := by decide +kernel
theorem d_Ways_allLocked_3 : decode c_Ways_allLocked 3 = .ok (.aload_n 0, 1) := by decide +kernel
theorem d_Ways_allLocked_4 : decode c_Ways_allLocked 4 = .ok (.getfield 15, 3) := by decide +kernel
theorem d_Ways_allLocked_7 : decode c_Ways_allLocked 7 = .ok (.if_icmp .ge 27, 3) := by decide +kernel
theorem d_Ways_allLocked_10 : decode c_Ways_allLocked 10 = .ok (.aload_n 0, 1) := by decide +kernel
theorem d_Ways_allLocked_11 : decode c_Ways_allLocked 11 = .ok (.getfield 35, 3) := by decide +kernel
theorem d_Ways_allLocked_14 : decode c_Ways_allLocked 14 = .ok (.iload_n 1, 1) := by decide +kernel
theorem d_Ways_allLocked_15 : decode c_Ways_allLocked 15 = .ok (.aload_n 0, 1) := by decide +kernel
theorem d_Ways_allLocked_16 : decode c_Ways_allLocked 16 = .ok (.getfield 15, 3) := by decide +kernel
theorem d_Ways_allLocked_19 : decode c_Ways_allLocked 19 = .ok (.imul, 1) := by decide +kernel
theorem d_Ways_allLocked_20 : decode c_Ways_allLocked 20 = .ok (.iload_n 2, 1) := by decide +kernel
theorem d_Ways_allLocked_21 : decode c_Ways_allLocked 21 = .ok (.iadd, 1) := by decide +kernel
theorem d_Ways_allLocked_22 : decode c_Ways_allLocked 22 = .ok (.baload, 1) := by decide +kernel
theorem d_Ways_allLocked_23 : decode c_Ways_allLocked 23 = .ok (.ifCond .ne 5, 3) := by decide +kernel
theorem d_Ways_allLocked_26 : decode c_Ways_allLocked 26 = .ok (.iconst 0, 1) := by decide +kernel
theorem d_Ways_allLocked_27 : decode c_Ways_allLocked 27 = .ok (.ireturn, 1) := by decide +kernel
theorem d_Ways_allLocked_28 : decode c_Ways_allLocked 28 = .ok (.iinc 2 1, 3) := by decide +kernel
theorem d_Ways_allLocked_31 : decode c_Ways_allLocked 31 = .ok (.goto (-29), 3) := by decide +kernel
theorem d_Ways_allLocked_34 : decode c_Ways_allLocked 34 = .ok (.iconst 1, 1) := by decide +kernel
theorem d_Ways_allLocked_35 : decode c_Ways_allLocked 35 = .ok (.ireturn, 1) := by decide +kernel
theorem ey_Ways_put : eY y_Ways_put 4 = true := by decide +kernel
theorem d_Ways_put_0 : decode c_Ways_put 0 = .ok (.aload_n 0, 1) := by decide +kernel
theorem d_Ways_put_1 : decode c_Ways_put 1 = .ok (.getfield 21, 3) := by decide +kernel
theorem d_Ways_put_4 : decode c_Ways_put 4 = .ok (.iload_n 1, 1) := by decide +kernel
theorem d_Ways_put_5 : decode c_Ways_put 5 = .ok (.iload_n 2, 1) := by decide +kernel
theorem d_Ways_put_6 : decode c_Ways_put 6 = .ok (.iastore, 1) := by decide +kernel
theorem d_Ways_put_7 : decode c_Ways_put 7 = .ok (.aload_n 0, 1) := by decide +kernel
theorem d_Ways_put_8 : decode c_Ways_put 8 = .ok (.getfield 25, 3) := by decide +kernel
theorem d_Ways_put_11 : decode c_Ways_put 11 = .ok (.iload_n 1, 1) := by decide +kernel
theorem d_Ways_put_12 : decode c_Ways_put 12 = .ok (.iconst 1, 1) := by decide +kernel
theorem d_Ways_put_13 : decode c_Ways_put 13 = .ok (.bastore, 1) := by decide +kernel
theorem d_Ways_put_14 : decode c_Ways_put 14 = .ok (.aload_n 0, 1) := by decide +kernel
theorem d_Ways_put_15 : decode c_Ways_put 15 = .ok (.getfield 29, 3) := by decide +kernel
theorem d_Ways_put_18 : decode c_Ways_put 18 = .ok (.iload_n 1, 1) := by decide +kernel
theorem d_Ways_put_19 : decode c_Ways_put 19 = .ok (.iload_n 3, 1) := by decide +kernel
theorem d_Ways_put_20 : decode c_Ways_put 20 = .ok (.iastore, 1) := by decide +kernel
theorem d_Ways_put_21 : decode c_Ways_put 21 = .ok (.aload_n 0, 1) := by decide +kernel
theorem d_Ways_put_22 : decode c_Ways_put 22 = .ok (.getfield 32, 3) := by decide +kernel
theorem d_Ways_put_25 : decode c_Ways_put 25 = .ok (.iload_n 1, 1) := by decide +kernel
theorem d_Ways_put_26 : decode c_Ways_put 26 = .ok (.iload 4, 2) := by decide +kernel
theorem d_Ways_put_28 : decode c_Ways_put 28 = .ok (.iastore, 1) := by decide +kernel
theorem d_Ways_put_29 : decode c_Ways_put 29 = .ok (.return_, 1) := by decide +kernel
theorem ey_Ways_empty : eY y_Ways_empty 1 = true := by decide +kernel
theorem d_Ways_empty_0 : decode c_Ways_empty 0 = .ok (.aload_n 0, 1) := by decide +kernel
theorem d_Ways_empty_1 : decode c_Ways_empty 1 = .ok (.getfield 21, 3) := by decide +kernel
theorem d_Ways_empty_4 : decode c_Ways_empty 4 = .ok (.iload_n 1, 1) := by decide +kernel
theorem d_Ways_empty_5 : decode c_Ways_empty 5 = .ok (.iconst 0, 1) := by decide +kernel
theorem d_Ways_empty_6 : decode c_Ways_empty 6 = .ok (.iastore, 1) := by decide +kernel
theorem d_Ways_empty_7 : decode c_Ways_empty 7 = .ok (.aload_n 0, 1) := by decide +kernel
theorem d_Ways_empty_8 : decode c_Ways_empty 8 = .ok (.getfield 25, 3) := by decide +kernel
theorem d_Ways_empty_11 : decode c_Ways_empty 11 = .ok (.iload_n 1, 1) := by decide +kernel
theorem d_Ways_empty_12 : decode c_Ways_empty 12 = .ok (.iconst 0, 1) := by decide +kernel
theorem d_Ways_empty_13 : decode c_Ways_empty 13 = .ok (.bastore, 1) := by decide +kernel
theorem d_Ways_empty_14 : decode c_Ways_empty 14 = .ok (.aload_n 0, 1) := by decide +kernel
theorem d_Ways_empty_15 : decode c_Ways_empty 15 = .ok (.getfield 29, 3) := by decide +kernel
theorem d_Ways_empty_18 : decode c_Ways_empty 18 = .ok (.iload_n 1, 1) := by decide +kernel
theorem d_Ways_empty_19 : decode c_Ways_empty 19 = .ok (.iconst 0, 1) := by decide +kernel
theorem d_Ways_empty_20 : decode c_Ways_empty 20 = .ok (.iastore, 1) := by decide +kernel
theorem d_Ways_empty_21 : decode c_Ways_empty 21 = .ok (.aload_n 0, 1) := by decide +kernel
theorem d_Ways_empty_22 : decode c_Ways_empty 22 = .ok (.getfield 32, 3) := by decide +kernel
theorem d_Ways_empty_25 : decode c_Ways_empty 25 = .ok (.iload_n 1, 1) := by decide +kernel
theorem d_Ways_empty_26 : decode c_Ways_empty 26 = .ok (.iconst 0, 1) := by decide +kernel
theorem d_Ways_empty_27 : decode c_Ways_empty 27 = .ok (.iastore, 1) := by decide +kernel
theorem d_Ways_empty_28 : decode c_Ways_empty 28 = .ok (.aload_n 0, 1) := by decide +kernel
theorem d_Ways_empty_29 : decode c_Ways_empty 29 = .ok (.getfield 35, 3) := by decide +kernel
theorem d_Ways_empty_32 : decode c_Ways_empty 32 = .ok (.iload_n 1, 1) := by decide +kernel
theorem d_Ways_empty_33 : decode c_Ways_empty 33 = .ok (.iconst 0, 1) := by decide +kernel
theorem d_Ways_empty_34 : decode c_Ways_empty 34 = .ok (.bastore, 1) := by decide +kernel
theorem d_Ways_empty_35 : decode c_Ways_empty 35 = .ok (.return_, 1) := by decide +kernel
theorem ey_Ways_cleanSlot : eY y_Ways_cleanSlot 1 = true := by decide +kernel
theorem d_Ways_cleanSlot_0 : decode c_Ways_cleanSlot 0 = .ok (.aload_n 0, 1) := by decide +kernel
theorem d_Ways_cleanSlot_1 : decode c_Ways_cleanSlot 1 = .ok (.getfield 32, 3) := by decide +kernel
theorem d_Ways_cleanSlot_4 : decode c_Ways_cleanSlot 4 = .ok (.iload_n 1, 1) := by decide +kernel
theorem d_Ways_cleanSlot_5 : decode c_Ways_cleanSlot 5 = .ok (.iaload, 1) := by decide +kernel
theorem d_Ways_cleanSlot_6 : decode c_Ways_cleanSlot 6 = .ok (.invokestatic 42, 3) := by decide +kernel
theorem d_Ways_cleanSlot_9 : decode c_Ways_cleanSlot 9 = .ok (.istore_n 2, 1) := by decide +kernel
theorem d_Ways_cleanSlot_10 : decode c_Ways_cleanSlot 10 = .ok (.aload_n 0, 1) := by decide +kernel
theorem d_Ways_cleanSlot_11 : decode c_Ways_cleanSlot 11 = .ok (.getfield 32, 3) := by decide +kernel
theorem d_Ways_cleanSlot_14 : decode c_Ways_cleanSlot 14 = .ok (.iload_n 1, 1) := by decide +kernel
theorem d_Ways_cleanSlot_15 : decode c_Ways_cleanSlot 15 = .ok (.iconst 0, 1) := by decide +kernel
theorem d_Ways_cleanSlot_16 : decode c_Ways_cleanSlot 16 = .ok (.iastore, 1) := by decide +kernel
theorem d_Ways_cleanSlot_17 : decode c_Ways_cleanSlot 17 = .ok (.iload_n 2, 1) := by decide +kernel
theorem d_Ways_cleanSlot_18 : decode c_Ways_cleanSlot 18 = .ok (.ireturn, 1) := by decide +kernel
section WaysRows
variable {l : Launch} {G : EG} {a : Nat → Nat} {v : Nat → Int32} {f : Nat → Nat → Int32} {V S wd : Nat} {wr : va_W}
set_option maxRecDepth 100000 in
theorem k_Ways_setOf (h : CD v S wd) (x : Int32) : Con l G y_Ways_setOf c_Ways_setOf 2 (some .int) (rz 0 0) [.ref (a 1), .int x] (cF G a v f (S * wd) V wr) (DI (nI (sN S x)) (cF G a v f (S * wd) V wr)) := by
  refine Con.of rfl rfl (fun X C E hR hl hn => ?_)
  refine e_iload_n C d_Ways_setOf_0 rfl ?_
  refine e_aload_n C d_Ways_setOf_1 rfl ?_
  refine e_get C 1 (k := 0) in_Ways g40 d_Ways_setOf_2 rfl rfl rfl rfl ?_
  refine e_iconst C d_Ways_setOf_5 (v := 1) (by decide) ?_
  refine e_isub C d_Ways_setOf_6 ?_
  refine e_iand C d_Ways_setOf_7 ?_
  exact e_iret C E d_Ways_setOf_8 (Nat.le_refl _) (Nat.le_refl _) rfl ⟨congrArg (fun z => some (Value.int z)) (setOf_eq h x), rfl⟩
/-- has the line -/
def hasL (f : Nat → Nat → Int32) (x : Int32) (j : Nat) : Bool := !(f 3 j == 0) && (f 2 j == x)
set_option maxRecDepth 100000 in
theorem k_Ways_find (h : CD v S wd) (x : Int32) : Con l G y_Ways_find c_Ways_find 4 (some .int) (rz 1 21) [.ref (a 1), .int x] (cF G a v f (S * wd) V wr) (DI (oI (fst1 (hasL f x) (sN S x * wd) wd)) (cF G a v f (S * wd) V wr)) := by
  refine Con.of rfl rfl (fun X C E hR hl hn => ?_)
  refine e_aload_n C d_Ways_find_0 rfl ?_
  refine e_iload_n C d_Ways_find_1 rfl ?_
  refine e_cVi C hR 1 (k_Ways_setOf h x) g316 g3 g313 g314 g315 d_Ways_find_2 rfl ey_Ways_setOf rfl rfl rfl rfl ⟨Nat.zero_le _, Nat.zero_le _⟩ ?_
  refine e_aload_n C d_Ways_find_5 rfl ?_
  refine e_get C 1 (k := 1) in_Ways g42 d_Ways_find_6 rfl rfl rfl rfl ?_
  refine e_imul C d_Ways_find_9 ?_
  refine e_top (y := nI (sN S x * wd)) (by rw [h.2.1]; exact pk_mul _ _) ?_
  refine e_istore_n C d_Ways_find_10 rfl ?_
  refine e_iload_n C d_Ways_find_11 rfl ?_
  refine e_istore_n C d_Ways_find_12 rfl ?_
  refine e_lv [(0, .ref (a 1)), (1, .int x), (2, .int (nI (sN S x * wd))), (3, .int (nI (sN S x * wd)))] rfl ?_
  have hn1 := h.n128
  have hb2 : sN S x * wd + wd ≤ S * wd := by
    have := slot_lt (wd := wd) (w := wd - 1) (sN_lt h x) (by have := h.2.2.2.2; omega)
    have := h.2.2.2.2
    omega
  generalize hb : sN S x * wd = b0 at hb2 E ⊢
  have L : ∀ m k : Nat, k + m = b0 + wd → fst1 (hasL f x) k m = fst1 (hasL f x) b0 wd → EW X G 4 0 0 13 [(0, .ref (a 1)), (1, .int x), (2, .int (nI b0)), (3, .int (nI k))] [] (cF G a v f (S * wd) V wr) := by
    intro m
    induction m with
    | zero =>
      intro k hk hf
      refine e_iload_n C d_Ways_find_13 rfl ?_
      refine e_iload_n C d_Ways_find_14 rfl ?_
      refine e_aload_n C d_Ways_find_15 rfl ?_
      refine e_get C 1 (k := 1) in_Ways g42 d_Ways_find_16 rfl rfl rfl rfl ?_
      refine e_iadd C d_Ways_find_19 ?_
      refine e_top (y := nI (b0 + wd)) (by rw [h.2.1]; exact nI_add _ _) ?_
      refine e_icmp_ge C d_Ways_find_20 (tgt := 50) (by decide) (fun h20 => ?_) (fun h20 => ?_)
      · skip
        refine e_iconst C d_Ways_find_50 (v := (-1)) (by decide) ?_
        exact e_iret C E d_Ways_find_51 (Nat.le_refl _) (Nat.le_refl _) rfl ⟨by rw [← hf]; rfl, rfl⟩
      · exact absurd (by rw [← hk]; exact nI_le (Nat.le_refl _) (by omega)) h20
    | succ m ih =>
      intro k hk hf
      refine e_iload_n C d_Ways_find_13 rfl ?_
      refine e_iload_n C d_Ways_find_14 rfl ?_
      refine e_aload_n C d_Ways_find_15 rfl ?_
      refine e_get C 1 (k := 1) in_Ways g42 d_Ways_find_16 rfl rfl rfl rfl ?_
      refine e_iadd C d_Ways_find_19 ?_
      refine e_top (y := nI (b0 + wd)) (by rw [h.2.1]; exact nI_add _ _) ?_
      refine e_icmp_ge C d_Ways_find_20 (tgt := 50) (by decide) (fun h20 => ?_) (fun h20 => ?_)
      · exact absurd h20 (nI_ge (by omega) (by omega))
      · skip
        refine e_aload_n C d_Ways_find_23 rfl ?_
        refine e_get C 1 (k := 4) in_Ways g48 d_Ways_find_24 rfl rfl rfl rfl ?_
        refine e_iload_n C d_Ways_find_27 rfl ?_
        refine e_zald C 3 1 d_Ways_find_28 rfl rfl k rfl (by omega) (by omega) ?_
        refine e_if_eq C d_Ways_find_29 (tgt := 44) (by decide) (fun h29 => ?_) (fun h29 => ?_)
        · have hh : hasL f x k = false := by simp [hasL, h29]
          refine e_iinc C d_Ways_find_44 rfl (nI_1 k) rfl ?_
          refine e_goto C d_Ways_find_47 (tgt := 13) (by decide) ?_
          exact e_lv2 (ih (k + 1) (by omega) (by rw [← hf]; simp [fst1, hh])) rfl
        · skip
          refine e_aload_n C d_Ways_find_32 rfl ?_
          refine e_get C 1 (k := 3) in_Ways g46 d_Ways_find_33 rfl rfl rfl rfl ?_
          refine e_iload_n C d_Ways_find_36 rfl ?_
          refine e_iald C 2 0 d_Ways_find_37 rfl rfl k rfl (by omega) (by omega) ?_
          refine e_iload_n C d_Ways_find_38 rfl ?_
          refine e_icmp_ne C d_Ways_find_39 (tgt := 44) (by decide) (fun h39 => ?_) (fun h39 => ?_)
          · have hh : hasL f x k = false := by simp [hasL, h39]
            refine e_iinc C d_Ways_find_44 rfl (nI_1 k) rfl ?_
            refine e_goto C d_Ways_find_47 (tgt := 13) (by decide) ?_
            exact e_lv2 (ih (k + 1) (by omega) (by rw [← hf]; simp [fst1, hh])) rfl
          · have hh : hasL f x k = true := by simp [hasL, h39, h29]
            refine e_iload_n C d_Ways_find_42 rfl ?_
            exact e_iret C E d_Ways_find_43 (Nat.le_refl _) (Nat.le_refl _) rfl ⟨by rw [← hf]; simp [fst1, hh, oI], rfl⟩
  exact L wd b0 rfl rfl
set_option maxRecDepth 100000 in
theorem k_Ways_emptyWay (h : CD v S wd) {s : Nat} (hs : s < S) : Con l G y_Ways_emptyWay c_Ways_emptyWay 3 (some .int) (rz 0 0) [.ref (a 1), .int (nI s)] (cF G a v f (S * wd) V wr) (DI (oI (fst1 (fun w => f 3 (s * wd + w) == 0) 0 wd)) (cF G a v f (S * wd) V wr)) := by
  refine Con.of rfl rfl (fun X C E hR hl hn => ?_)
  have hn1 := h.n128
  have hw8 := h.2.2.2.2
  refine e_iconst C d_Ways_emptyWay_0 (v := 0) (by decide) ?_
  refine e_istore_n C d_Ways_emptyWay_1 rfl ?_
  have L : ∀ m k : Nat, k + m = wd → fst1 (fun w => f 3 (s * wd + w) == 0) k m = fst1 (fun w => f 3 (s * wd + w) == 0) 0 wd → EW X G 3 0 0 2 [(0, .ref (a 1)), (1, .int (nI s)), (2, .int (nI k))] [] (cF G a v f (S * wd) V wr) := by
    intro m
    induction m with
    | zero =>
      intro k hk hf
      refine e_iload_n C d_Ways_emptyWay_2 rfl ?_
      refine e_aload_n C d_Ways_emptyWay_3 rfl ?_
      refine e_get C 1 (k := 1) in_Ways g42 d_Ways_emptyWay_4 rfl rfl rfl rfl ?_
      refine e_top (y := nI wd) h.2.1 ?_
      refine e_icmp_ge C d_Ways_emptyWay_7 (tgt := 34) (by decide) (fun h7 => ?_) (fun h7 => ?_)
      · skip
        refine e_iconst C d_Ways_emptyWay_34 (v := (-1)) (by decide) ?_
        exact e_iret C E d_Ways_emptyWay_35 (Nat.le_refl _) (Nat.le_refl _) rfl ⟨by rw [← hf]; rfl, rfl⟩
      · exact absurd (nI_le (by omega) (by omega)) h7
    | succ m ih =>
      intro k hk hf
      refine e_iload_n C d_Ways_emptyWay_2 rfl ?_
      refine e_aload_n C d_Ways_emptyWay_3 rfl ?_
      refine e_get C 1 (k := 1) in_Ways g42 d_Ways_emptyWay_4 rfl rfl rfl rfl ?_
      refine e_top (y := nI wd) h.2.1 ?_
      refine e_icmp_ge C d_Ways_emptyWay_7 (tgt := 34) (by decide) (fun h7 => ?_) (fun h7 => ?_)
      · exact absurd h7 (nI_ge (by omega) (by omega))
      · skip
        have hlt := slot_lt (w := k) hs (show k < wd by omega)
        refine e_aload_n C d_Ways_emptyWay_10 rfl ?_
        refine e_get C 1 (k := 4) in_Ways g48 d_Ways_emptyWay_11 rfl rfl rfl rfl ?_
        refine e_iload_n C d_Ways_emptyWay_14 rfl ?_
        refine e_aload_n C d_Ways_emptyWay_15 rfl ?_
        refine e_get C 1 (k := 1) in_Ways g42 d_Ways_emptyWay_16 rfl rfl rfl rfl ?_
        refine e_imul C d_Ways_emptyWay_19 ?_
        refine e_iload_n C d_Ways_emptyWay_20 rfl ?_
        refine e_iadd C d_Ways_emptyWay_21 ?_
        refine e_zald C 3 1 d_Ways_emptyWay_22 rfl rfl (s * wd + k) (by rw [h.2.1, pk_mul, nI_add]) hlt (by omega) ?_
        refine e_if_ne C d_Ways_emptyWay_23 (tgt := 28) (by decide) (fun h23 => ?_) (fun h23 => ?_)
        · skip
          refine e_iinc C d_Ways_emptyWay_28 rfl (nI_1 k) rfl ?_
          refine e_goto C d_Ways_emptyWay_31 (tgt := 2) (by decide) ?_
          exact e_lv2 (ih (k + 1) (by omega) (by rw [← hf]; simp [fst1, h23])) rfl
        · skip
          refine e_iload_n C d_Ways_emptyWay_26 rfl ?_
          exact e_iret C E d_Ways_emptyWay_27 (Nat.le_refl _) (Nat.le_refl _) rfl ⟨by rw [← hf]; simp [fst1, h23, oI], rfl⟩
  exact e_lv2 (L wd 0 (by omega) rfl) rfl
/-- all ways of a set are locked -/
def allL (f : Nat → Nat → Int32) (wd s : Nat) : Bool := (fst1 (fun w => f 6 (s * wd + w) == 0) 0 wd).isNone
set_option maxRecDepth 100000 in
theorem k_Ways_allLocked (h : CD v S wd) {s : Nat} (hs : s < S) : Con l G y_Ways_allLocked c_Ways_allLocked 3 (some .boolean) (rz 0 0) [.ref (a 1), .int (nI s)] (cF G a v f (S * wd) V wr) (DI (bI (allL f wd s)) (cF G a v f (S * wd) V wr)) := by
  refine Con.of rfl rfl (fun X C E hR hl hn => ?_)
  have hn1 := h.n128
  have hw8 := h.2.2.2.2
  refine e_iconst C d_Ways_allLocked_0 (v := 0) (by decide) ?_
  refine e_istore_n C d_Ways_allLocked_1 rfl ?_
  have L : ∀ m k : Nat, k + m = wd → fst1 (fun w => f 6 (s * wd + w) == 0) k m = fst1 (fun w => f 6 (s * wd + w) == 0) 0 wd → EW X G 3 0 0 2 [(0, .ref (a 1)), (1, .int (nI s)), (2, .int (nI k))] [] (cF G a v f (S * wd) V wr) := by
    intro m
    induction m with
    | zero =>
      intro k hk hf
      refine e_iload_n C d_Ways_allLocked_2 rfl ?_
      refine e_aload_n C d_Ways_allLocked_3 rfl ?_
      refine e_get C 1 (k := 1) in_Ways g42 d_Ways_allLocked_4 rfl rfl rfl rfl ?_
      refine e_top (y := nI wd) h.2.1 ?_
      refine e_icmp_ge C d_Ways_allLocked_7 (tgt := 34) (by decide) (fun h7 => ?_) (fun h7 => ?_)
      · skip
        refine e_iconst C d_Ways_allLocked_34 (v := 1) (by decide) ?_
        exact e_iret C E d_Ways_allLocked_35 (Nat.le_refl _) (Nat.le_refl _) rfl ⟨by simp only [allL]; rw [← hf]; rfl, rfl⟩
      · exact absurd (nI_le (by omega) (by omega)) h7
    | succ m ih =>
      intro k hk hf
      refine e_iload_n C d_Ways_allLocked_2 rfl ?_
      refine e_aload_n C d_Ways_allLocked_3 rfl ?_
      refine e_get C 1 (k := 1) in_Ways g42 d_Ways_allLocked_4 rfl rfl rfl rfl ?_
      refine e_top (y := nI wd) h.2.1 ?_
      refine e_icmp_ge C d_Ways_allLocked_7 (tgt := 34) (by decide) (fun h7 => ?_) (fun h7 => ?_)
      · exact absurd h7 (nI_ge (by omega) (by omega))
      · skip
        have hlt := slot_lt (w := k) hs (show k < wd by omega)
        refine e_aload_n C d_Ways_allLocked_10 rfl ?_
        refine e_get C 1 (k := 7) in_Ways g54 d_Ways_allLocked_11 rfl rfl rfl rfl ?_
        refine e_iload_n C d_Ways_allLocked_14 rfl ?_
        refine e_aload_n C d_Ways_allLocked_15 rfl ?_
        refine e_get C 1 (k := 1) in_Ways g42 d_Ways_allLocked_16 rfl rfl rfl rfl ?_
        refine e_imul C d_Ways_allLocked_19 ?_
        refine e_iload_n C d_Ways_allLocked_20 rfl ?_
        refine e_iadd C d_Ways_allLocked_21 ?_
        refine e_zald C 6 1 d_Ways_allLocked_22 rfl rfl (s * wd + k) (by rw [h.2.1, pk_mul, nI_add]) hlt (by omega) ?_
        refine e_if_ne C d_Ways_allLocked_23 (tgt := 28) (by decide) (fun h23 => ?_) (fun h23 => ?_)
        · skip
          refine e_iinc C d_Ways_allLocked_28 rfl (nI_1 k) rfl ?_
          refine e_goto C d_Ways_allLocked_31 (tgt := 2) (by decide) ?_
          exact e_lv2 (ih (k + 1) (by omega) (by rw [← hf]; simp [fst1, h23])) rfl
        · skip
          refine e_iconst C d_Ways_allLocked_26 (v := 0) (by decide) ?_
          exact e_iret C E d_Ways_allLocked_27 (Nat.le_refl _) (Nat.le_refl _) rfl ⟨by simp only [allL]; rw [← hf]; simp [fst1, h23, bI], rfl⟩
  exact e_lv2 (L wd 0 (by omega) rfl) rfl
/-- a line put into a slot -/
def putF (f : Nat → Nat → Int32) (j : Nat) (x t c : Int32) : Nat → Nat → Int32 := up2 (up2 (up2 (up2 f 2 (upd (f 2) j x)) 3 (upd (f 3) j 1)) 4 (upd (f 4) j t)) 5 (upd (f 5) j c)
set_option maxRecDepth 100000 in
theorem k_Ways_put (h : CD v S wd) {j : Nat} (hj : j < S * wd) (x t c : Int32) : Con l G y_Ways_put c_Ways_put 5 none (rz 0 0) [.ref (a 1), .int (nI j), .int x, .int t, .int c] (cF G a v f (S * wd) V wr) (DV (cF G a v (putF f j x t c) (S * wd) V wr)) := by
  refine Con.of rfl rfl (fun X C E hR hl hn => ?_)
  have hn1 := h.n128
  refine e_aload_n C d_Ways_put_0 rfl ?_
  refine e_get C 1 (k := 3) in_Ways g46 d_Ways_put_1 rfl rfl rfl rfl ?_
  refine e_iload_n C d_Ways_put_4 rfl ?_
  refine e_iload_n C d_Ways_put_5 rfl ?_
  refine e_iast C 2 0 d_Ways_put_6 rfl rfl j rfl hj (by omega) ?_
  refine e_aload_n C d_Ways_put_7 rfl ?_
  refine e_get C 1 (k := 4) in_Ways g48 d_Ways_put_8 rfl rfl rfl rfl ?_
  refine e_iload_n C d_Ways_put_11 rfl ?_
  refine e_iconst C d_Ways_put_12 (v := 1) (by decide) ?_
  refine e_zast C 3 1 d_Ways_put_13 rfl rfl j rfl hj (by omega) rfl ?_
  refine e_aload_n C d_Ways_put_14 rfl ?_
  refine e_get C 1 (k := 5) in_Ways g50 d_Ways_put_15 rfl rfl rfl rfl ?_
  refine e_iload_n C d_Ways_put_18 rfl ?_
  refine e_iload_n C d_Ways_put_19 rfl ?_
  refine e_iast C 4 0 d_Ways_put_20 rfl rfl j rfl hj (by omega) ?_
  refine e_aload_n C d_Ways_put_21 rfl ?_
  refine e_get C 1 (k := 6) in_Ways g52 d_Ways_put_22 rfl rfl rfl rfl ?_
  refine e_iload_n C d_Ways_put_25 rfl ?_
  refine e_iload C d_Ways_put_26 rfl ?_
  refine e_iast C 5 0 d_Ways_put_28 rfl rfl j rfl hj (by omega) ?_
  exact e_vret C E d_Ways_put_29 (Nat.le_refl _) (Nat.le_refl _) ⟨rfl, rfl⟩
/-- a slot emptied -/
def emptyF (f : Nat → Nat → Int32) (j : Nat) : Nat → Nat → Int32 := up2 (up2 (up2 (up2 (up2 f 2 (upd (f 2) j 0)) 3 (upd (f 3) j 0)) 4 (upd (f 4) j 0)) 5 (upd (f 5) j 0)) 6 (upd (f 6) j 0)
set_option maxRecDepth 100000 in
theorem k_Ways_empty (h : CD v S wd) {j : Nat} (hj : j < S * wd) : Con l G y_Ways_empty c_Ways_empty 2 none (rz 0 0) [.ref (a 1), .int (nI j)] (cF G a v f (S * wd) V wr) (DV (cF G a v (emptyF f j) (S * wd) V wr)) := by
  refine Con.of rfl rfl (fun X C E hR hl hn => ?_)
  have hn1 := h.n128
  refine e_aload_n C d_Ways_empty_0 rfl ?_
  refine e_get C 1 (k := 3) in_Ways g46 d_Ways_empty_1 rfl rfl rfl rfl ?_
  refine e_iload_n C d_Ways_empty_4 rfl ?_
  refine e_iconst C d_Ways_empty_5 (v := 0) (by decide) ?_
  refine e_iast C 2 0 d_Ways_empty_6 rfl rfl j rfl hj (by omega) ?_
  refine e_aload_n C d_Ways_empty_7 rfl ?_
  refine e_get C 1 (k := 4) in_Ways g48 d_Ways_empty_8 rfl rfl rfl rfl ?_
  refine e_iload_n C d_Ways_empty_11 rfl ?_
  refine e_iconst C d_Ways_empty_12 (v := 0) (by decide) ?_
  refine e_zast C 3 1 d_Ways_empty_13 rfl rfl j rfl hj (by omega) rfl ?_
  refine e_aload_n C d_Ways_empty_14 rfl ?_
  refine e_get C 1 (k := 5) in_Ways g50 d_Ways_empty_15 rfl rfl rfl rfl ?_
  refine e_iload_n C d_Ways_empty_18 rfl ?_
  refine e_iconst C d_Ways_empty_19 (v := 0) (by decide) ?_
  refine e_iast C 4 0 d_Ways_empty_20 rfl rfl j rfl hj (by omega) ?_
  refine e_aload_n C d_Ways_empty_21 rfl ?_
  refine e_get C 1 (k := 6) in_Ways g52 d_Ways_empty_22 rfl rfl rfl rfl ?_
  refine e_iload_n C d_Ways_empty_25 rfl ?_
  refine e_iconst C d_Ways_empty_26 (v := 0) (by decide) ?_
  refine e_iast C 5 0 d_Ways_empty_27 rfl rfl j rfl hj (by omega) ?_
  refine e_aload_n C d_Ways_empty_28 rfl ?_
  refine e_get C 1 (k := 7) in_Ways g54 d_Ways_empty_29 rfl rfl rfl rfl ?_
  refine e_iload_n C d_Ways_empty_32 rfl ?_
  refine e_iconst C d_Ways_empty_33 (v := 0) (by decide) ?_
  refine e_zast C 6 1 d_Ways_empty_34 rfl rfl j rfl hj (by omega) rfl ?_
  exact e_vret C E d_Ways_empty_35 (Nat.le_refl _) (Nat.le_refl _) ⟨rfl, rfl⟩
set_option maxRecDepth 100000 in
theorem k_Ways_cleanSlot (h : CD v S wd) {j c : Nat} (hj : j < S * wd) (hc : c < 16) (hcj : f 5 j = nI c) : Con l G y_Ways_cleanSlot c_Ways_cleanSlot 3 (some .int) (rz 1 20) [.ref (a 1), .int (nI j)] (cF G a v f (S * wd) V wr) (DI (nI (pop4 c)) (cF G a v (up2 f 5 (upd (f 5) j 0)) (S * wd) V wr)) := by
  refine Con.of rfl rfl (fun X C E hR hl hn => ?_)
  have hn1 := h.n128
  refine e_aload_n C d_Ways_cleanSlot_0 rfl ?_
  refine e_get C 1 (k := 6) in_Ways g52 d_Ways_cleanSlot_1 rfl rfl rfl rfl ?_
  refine e_iload_n C d_Ways_cleanSlot_4 rfl ?_
  refine e_iald C 5 0 d_Ways_cleanSlot_5 rfl rfl j rfl hj (by omega) ?_
  refine e_top hcj ?_
  refine e_cSi C hR (k_bitCount hc) g331 g19 g329 g330 d_Ways_cleanSlot_6 rfl ey_Integer_bitCount rfl rfl ⟨Nat.zero_le _, Nat.zero_le _⟩ ?_
  refine e_istore_n C d_Ways_cleanSlot_9 rfl ?_
  refine e_aload_n C d_Ways_cleanSlot_10 rfl ?_
  refine e_get C 1 (k := 6) in_Ways g52 d_Ways_cleanSlot_11 rfl rfl rfl rfl ?_
  refine e_iload_n C d_Ways_cleanSlot_14 rfl ?_
  refine e_iconst C d_Ways_cleanSlot_15 (v := 0) (by decide) ?_
  refine e_iast C 5 0 d_Ways_cleanSlot_16 rfl rfl j rfl hj (by omega) ?_
  refine e_iload_n C d_Ways_cleanSlot_17 rfl ?_
  exact e_iret C E d_Ways_cleanSlot_18 (Nat.le_refl _) (Nat.le_refl _) rfl ⟨rfl, rfl⟩
end WaysRows
