/-! THE JDK's own -/
theorem ey_Integer_bitCount : eY y_Integer_bitCount 1 = true := by decide +kernel
theorem d_Integer_bitCount_0 : decode c_Integer_bitCount 0 = .ok (.iload_n 0, 1) := by decide +kernel
theorem d_Integer_bitCount_1 : decode c_Integer_bitCount 1 = .ok (.iload_n 0, 1) := by decide +kernel
theorem d_Integer_bitCount_2 : decode c_Integer_bitCount 2 = .ok (.iconst 1, 1) := by decide +kernel
theorem d_Integer_bitCount_3 : decode c_Integer_bitCount 3 = .ok (.iushr, 1) := by decide +kernel
theorem d_Integer_bitCount_4 : decode c_Integer_bitCount 4 = .ok (.ldc_w 265, 3) := by decide +kernel
theorem d_Integer_bitCount_7 : decode c_Integer_bitCount 7 = .ok (.iand, 1) := by decide +kernel
theorem d_Integer_bitCount_8 : decode c_Integer_bitCount 8 = .ok (.isub, 1) := by decide +kernel
theorem d_Integer_bitCount_9 : decode c_Integer_bitCount 9 = .ok (.istore_n 0, 1) := by decide +kernel
theorem d_Integer_bitCount_10 : decode c_Integer_bitCount 10 = .ok (.iload_n 0, 1) := by decide +kernel
theorem d_Integer_bitCount_11 : decode c_Integer_bitCount 11 = .ok (.ldc_w 266, 3) := by decide +kernel
theorem d_Integer_bitCount_14 : decode c_Integer_bitCount 14 = .ok (.iand, 1) := by decide +kernel
theorem d_Integer_bitCount_15 : decode c_Integer_bitCount 15 = .ok (.iload_n 0, 1) := by decide +kernel
theorem d_Integer_bitCount_16 : decode c_Integer_bitCount 16 = .ok (.iconst 2, 1) := by decide +kernel
theorem d_Integer_bitCount_17 : decode c_Integer_bitCount 17 = .ok (.iushr, 1) := by decide +kernel
theorem d_Integer_bitCount_18 : decode c_Integer_bitCount 18 = .ok (.ldc_w 266, 3) := by decide +kernel
theorem d_Integer_bitCount_21 : decode c_Integer_bitCount 21 = .ok (.iand, 1) := by decide +kernel
theorem d_Integer_bitCount_22 : decode c_Integer_bitCount 22 = .ok (.iadd, 1) := by decide +kernel
theorem d_Integer_bitCount_23 : decode c_Integer_bitCount 23 = .ok (.istore_n 0, 1) := by decide +kernel
theorem d_Integer_bitCount_24 : decode c_Integer_bitCount 24 = .ok (.iload_n 0, 1) := by decide +kernel
theorem d_Integer_bitCount_25 : decode c_Integer_bitCount 25 = .ok (.iload_n 0, 1) := by decide +kernel
theorem d_Integer_bitCount_26 : decode c_Integer_bitCount 26 = .ok (.iconst 4, 1) := by decide +kernel
theorem d_Integer_bitCount_27 : decode c_Integer_bitCount 27 = .ok (.iushr, 1) := by decide +kernel
theorem d_Integer_bitCount_28 : decode c_Integer_bitCount 28 = .ok (.iadd, 1) := by decide +kernel
theorem d_Integer_bitCount_29 : decode c_Integer_bitCount 29 = .ok (.ldc_w 267, 3) := by decide +kernel
theorem d_Integer_bitCount_32 : decode c_Integer_bitCount 32 = .ok (.iand, 1) := by decide +kernel
theorem d_Integer_bitCount_33 : decode c_Integer_bitCount 33 = .ok (.istore_n 0, 1) := by decide +kernel
theorem d_Integer_bitCount_34 : decode c_Integer_bitCount 34 = .ok (.iload_n 0, 1) := by decide +kernel
theorem d_Integer_bitCount_35 : decode c_Integer_bitCount 35 = .ok (.iload_n 0, 1) := by decide +kernel
theorem d_Integer_bitCount_36 : decode c_Integer_bitCount 36 = .ok (.bipush 8, 2) := by decide +kernel
theorem d_Integer_bitCount_38 : decode c_Integer_bitCount 38 = .ok (.iushr, 1) := by decide +kernel
theorem d_Integer_bitCount_39 : decode c_Integer_bitCount 39 = .ok (.iadd, 1) := by decide +kernel
theorem d_Integer_bitCount_40 : decode c_Integer_bitCount 40 = .ok (.istore_n 0, 1) := by decide +kernel
theorem d_Integer_bitCount_41 : decode c_Integer_bitCount 41 = .ok (.iload_n 0, 1) := by decide +kernel
theorem d_Integer_bitCount_42 : decode c_Integer_bitCount 42 = .ok (.iload_n 0, 1) := by decide +kernel
theorem d_Integer_bitCount_43 : decode c_Integer_bitCount 43 = .ok (.bipush 16, 2) := by decide +kernel
theorem d_Integer_bitCount_45 : decode c_Integer_bitCount 45 = .ok (.iushr, 1) := by decide +kernel
theorem d_Integer_bitCount_46 : decode c_Integer_bitCount 46 = .ok (.iadd, 1) := by decide +kernel
theorem d_Integer_bitCount_47 : decode c_Integer_bitCount 47 = .ok (.istore_n 0, 1) := by decide +kernel
theorem d_Integer_bitCount_48 : decode c_Integer_bitCount 48 = .ok (.iload_n 0, 1) := by decide +kernel
theorem d_Integer_bitCount_49 : decode c_Integer_bitCount 49 = .ok (.bipush 63, 2) := by decide +kernel
theorem d_Integer_bitCount_51 : decode c_Integer_bitCount 51 = .ok (.iand, 1) := by decide +kernel
theorem d_Integer_bitCount_52 : decode c_Integer_bitCount 52 = .ok (.ireturn, 1) := by decide +kernel
/-- how many of four bits are set -/
def pop4 (j : Nat) : Nat := j % 2 + j / 2 % 2 + j / 4 % 2 + j / 8 % 2
set_option maxRecDepth 100000 in
theorem k_bitCount {l : Launch} {G : EG} {ws : va_W} {j : Nat} (hj : j < 16) : Con l G y_Integer_bitCount c_Integer_bitCount 1 (some .int) (rz 0 0) [.int (nI j)] ws (DI (nI (pop4 j)) ws) := by
  refine Con.of rfl rfl (fun X C E hR hl hn => ?_)
  refine e_iload_n C d_Integer_bitCount_0 rfl ?_
  refine e_iload_n C d_Integer_bitCount_1 rfl ?_
  refine e_iconst C d_Integer_bitCount_2 (v := 1) (by decide) ?_
  refine e_iushr C d_Integer_bitCount_3 rfl ?_
  refine e_ldcw C g332 d_Integer_bitCount_4 ?_
  refine e_iand C d_Integer_bitCount_7 ?_
  refine e_isub C d_Integer_bitCount_8 ?_
  refine e_istore_n C d_Integer_bitCount_9 rfl ?_
  refine e_iload_n C d_Integer_bitCount_10 rfl ?_
  refine e_ldcw C g333 d_Integer_bitCount_11 ?_
  refine e_iand C d_Integer_bitCount_14 ?_
  refine e_iload_n C d_Integer_bitCount_15 rfl ?_
  refine e_iconst C d_Integer_bitCount_16 (v := 2) (by decide) ?_
  refine e_iushr C d_Integer_bitCount_17 rfl ?_
  refine e_ldcw C g333 d_Integer_bitCount_18 ?_
  refine e_iand C d_Integer_bitCount_21 ?_
  refine e_iadd C d_Integer_bitCount_22 ?_
  refine e_istore_n C d_Integer_bitCount_23 rfl ?_
  refine e_iload_n C d_Integer_bitCount_24 rfl ?_
  refine e_iload_n C d_Integer_bitCount_25 rfl ?_
  refine e_iconst C d_Integer_bitCount_26 (v := 4) (by decide) ?_
  refine e_iushr C d_Integer_bitCount_27 rfl ?_
  refine e_iadd C d_Integer_bitCount_28 ?_
  refine e_ldcw C g334 d_Integer_bitCount_29 ?_
  refine e_iand C d_Integer_bitCount_32 ?_
  refine e_istore_n C d_Integer_bitCount_33 rfl ?_
  refine e_iload_n C d_Integer_bitCount_34 rfl ?_
  refine e_iload_n C d_Integer_bitCount_35 rfl ?_
  refine e_bipush C d_Integer_bitCount_36 (v := 8) (by decide) ?_
  refine e_iushr C d_Integer_bitCount_38 rfl ?_
  refine e_iadd C d_Integer_bitCount_39 ?_
  refine e_istore_n C d_Integer_bitCount_40 rfl ?_
  refine e_iload_n C d_Integer_bitCount_41 rfl ?_
  refine e_iload_n C d_Integer_bitCount_42 rfl ?_
  refine e_bipush C d_Integer_bitCount_43 (v := 16) (by decide) ?_
  refine e_iushr C d_Integer_bitCount_45 rfl ?_
  refine e_iadd C d_Integer_bitCount_46 ?_
  refine e_istore_n C d_Integer_bitCount_47 rfl ?_
  refine e_iload_n C d_Integer_bitCount_48 rfl ?_
  refine e_bipush C d_Integer_bitCount_49 (v := 63) (by decide) ?_
  refine e_iand C d_Integer_bitCount_51 ?_
  refine e_top (y := nI (pop4 j)) ?_ ?_
  · clear E C hR hl hn X
    revert j
    decide +kernel
  exact e_iret C E d_Integer_bitCount_52 (Nat.le_refl _) (Nat.le_refl _) rfl ⟨rfl, rfl⟩
