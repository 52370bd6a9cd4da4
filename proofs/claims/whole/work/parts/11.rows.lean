/-! CATCHING ROWS -/
theorem ey_Rows_find : eY y_Rows_find 1 = true := by decide +kernel
theorem d_Rows_find_0 : decode c_Rows_find 0 = .ok (.iconst 0, 1) := by decide +kernel
theorem d_Rows_find_1 : decode c_Rows_find 1 = .ok (.istore_n 2, 1) := by decide +kernel
theorem d_Rows_find_2 : decode c_Rows_find 2 = .ok (.iload_n 2, 1) := by decide +kernel
theorem d_Rows_find_3 : decode c_Rows_find 3 = .ok (.aload_n 0, 1) := by decide +kernel
theorem d_Rows_find_4 : decode c_Rows_find 4 = .ok (.getfield 25, 3) := by decide +kernel
theorem d_Rows_find_7 : decode c_Rows_find 7 = .ok (.if_icmp .ge 21, 3) := by decide +kernel
theorem d_Rows_find_10 : decode c_Rows_find 10 = .ok (.aload_n 0, 1) := by decide +kernel
theorem d_Rows_find_11 : decode c_Rows_find 11 = .ok (.getfield 15, 3) := by decide +kernel
theorem d_Rows_find_14 : decode c_Rows_find 14 = .ok (.iload_n 2, 1) := by decide +kernel
theorem d_Rows_find_15 : decode c_Rows_find 15 = .ok (.iaload, 1) := by decide +kernel
theorem d_Rows_find_16 : decode c_Rows_find 16 = .ok (.iload_n 1, 1) := by decide +kernel
theorem d_Rows_find_17 : decode c_Rows_find 17 = .ok (.if_icmp .ne 5, 3) := by decide +kernel
theorem d_Rows_find_20 : decode c_Rows_find 20 = .ok (.iload_n 2, 1) := by decide +kernel
theorem d_Rows_find_21 : decode c_Rows_find 21 = .ok (.ireturn, 1) := by decide +kernel
theorem d_Rows_find_22 : decode c_Rows_find 22 = .ok (.iinc 2 1, 3) := by decide +kernel
theorem d_Rows_find_25 : decode c_Rows_find 25 = .ok (.goto (-23), 3) := by decide +kernel
theorem d_Rows_find_28 : decode c_Rows_find 28 = .ok (.iconst (-1), 1) := by decide +kernel
theorem d_Rows_find_29 : decode c_Rows_find 29 = .ok (.ireturn, 1) := by decide +kernel
theorem ey_Rows_add : eY y_Rows_add 3 = true := by decide +kernel
theorem d_Rows_add_0 : decode c_Rows_add 0 = .ok (.aload_n 0, 1) := by decide +kernel
theorem d_Rows_add_1 : decode c_Rows_add 1 = .ok (.getfield 15, 3) := by decide +kernel
theorem d_Rows_add_4 : decode c_Rows_add 4 = .ok (.aload_n 0, 1) := by decide +kernel
theorem d_Rows_add_5 : decode c_Rows_add 5 = .ok (.getfield 25, 3) := by decide +kernel
theorem d_Rows_add_8 : decode c_Rows_add 8 = .ok (.iload_n 1, 1) := by decide +kernel
theorem d_Rows_add_9 : decode c_Rows_add 9 = .ok (.iastore, 1) := by decide +kernel
theorem d_Rows_add_10 : decode c_Rows_add 10 = .ok (.aload_n 0, 1) := by decide +kernel
theorem d_Rows_add_11 : decode c_Rows_add 11 = .ok (.getfield 19, 3) := by decide +kernel
theorem d_Rows_add_14 : decode c_Rows_add 14 = .ok (.aload_n 0, 1) := by decide +kernel
theorem d_Rows_add_15 : decode c_Rows_add 15 = .ok (.getfield 25, 3) := by decide +kernel
theorem d_Rows_add_18 : decode c_Rows_add 18 = .ok (.iload_n 2, 1) := by decide +kernel
theorem d_Rows_add_19 : decode c_Rows_add 19 = .ok (.iastore, 1) := by decide +kernel
theorem d_Rows_add_20 : decode c_Rows_add 20 = .ok (.aload_n 0, 1) := by decide +kernel
theorem d_Rows_add_21 : decode c_Rows_add 21 = .ok (.getfield 22, 3) := by decide +kernel
theorem d_Rows_add_24 : decode c_Rows_add 24 = .ok (.aload_n 0, 1) := by decide +kernel
theorem d_Rows_add_25 : decode c_Rows_add 25 = .ok (.getfield 25, 3) := by decide +kernel
theorem d_Rows_add_28 : decode c_Rows_add 28 = .ok (.iload_n 3, 1) := by decide +kernel
theorem d_Rows_add_29 : decode c_Rows_add 29 = .ok (.iastore, 1) := by decide +kernel
theorem d_Rows_add_30 : decode c_Rows_add 30 = .ok (.aload_n 0, 1) := by decide +kernel
theorem d_Rows_add_31 : decode c_Rows_add 31 = .ok (.dup, 1) := by decide +kernel
theorem d_Rows_add_32 : decode c_Rows_add 32 = .ok (.getfield 25, 3) := by decide +kernel
theorem d_Rows_add_35 : decode c_Rows_add 35 = .ok (.iconst 1, 1) := by decide +kernel
theorem d_Rows_add_36 : decode c_Rows_add 36 = .ok (.iadd, 1) := by decide +kernel
theorem d_Rows_add_37 : decode c_Rows_add 37 = .ok (.putfield 25, 3) := by decide +kernel
theorem d_Rows_add_40 : decode c_Rows_add 40 = .ok (.return_, 1) := by decide +kernel
theorem ey_Rows_remove : eY y_Rows_remove 1 = true := by decide +kernel
theorem d_Rows_remove_0 : decode c_Rows_remove 0 = .ok (.iload_n 1, 1) := by decide +kernel
theorem d_Rows_remove_1 : decode c_Rows_remove 1 = .ok (.istore_n 2, 1) := by decide +kernel
theorem d_Rows_remove_2 : decode c_Rows_remove 2 = .ok (.iload_n 2, 1) := by decide +kernel
theorem d_Rows_remove_3 : decode c_Rows_remove 3 = .ok (.iconst 1, 1) := by decide +kernel
theorem d_Rows_remove_4 : decode c_Rows_remove 4 = .ok (.iadd, 1) := by decide +kernel
theorem d_Rows_remove_5 : decode c_Rows_remove 5 = .ok (.aload_n 0, 1) := by decide +kernel
theorem d_Rows_remove_6 : decode c_Rows_remove 6 = .ok (.getfield 25, 3) := by decide +kernel
theorem d_Rows_remove_9 : decode c_Rows_remove 9 = .ok (.if_icmp .ge 51, 3) := by decide +kernel
theorem d_Rows_remove_12 : decode c_Rows_remove 12 = .ok (.aload_n 0, 1) := by decide +kernel
theorem d_Rows_remove_13 : decode c_Rows_remove 13 = .ok (.getfield 15, 3) := by decide +kernel
theorem d_Rows_remove_16 : decode c_Rows_remove 16 = .ok (.iload_n 2, 1) := by decide +kernel
theorem d_Rows_remove_17 : decode c_Rows_remove 17 = .ok (.aload_n 0, 1) := by decide +kernel
theorem d_Rows_remove_18 : decode c_Rows_remove 18 = .ok (.getfield 15, 3) := by decide +kernel
theorem d_Rows_remove_21 : decode c_Rows_remove 21 = .ok (.iload_n 2, 1) := by decide +kernel
theorem d_Rows_remove_22 : decode c_Rows_remove 22 = .ok (.iconst 1, 1) := by decide +kernel
theorem d_Rows_remove_23 : decode c_Rows_remove 23 = .ok (.iadd, 1) := by decide +kernel
theorem d_Rows_remove_24 : decode c_Rows_remove 24 = .ok (.iaload, 1) := by decide +kernel
theorem d_Rows_remove_25 : decode c_Rows_remove 25 = .ok (.iastore, 1) := by decide +kernel
theorem d_Rows_remove_26 : decode c_Rows_remove 26 = .ok (.aload_n 0, 1) := by decide +kernel
theorem d_Rows_remove_27 : decode c_Rows_remove 27 = .ok (.getfield 19, 3) := by decide +kernel
theorem d_Rows_remove_30 : decode c_Rows_remove 30 = .ok (.iload_n 2, 1) := by decide +kernel
theorem d_Rows_remove_31 : decode c_Rows_remove 31 = .ok (.aload_n 0, 1) := by decide +kernel
theorem d_Rows_remove_32 : decode c_Rows_remove 32 = .ok (.getfield 19, 3) := by decide +kernel
theorem d_Rows_remove_35 : decode c_Rows_remove 35 = .ok (.iload_n 2, 1) := by decide +kernel
theorem d_Rows_remove_36 : decode c_Rows_remove 36 = .ok (.iconst 1, 1) := by decide +kernel
theorem d_Rows_remove_37 : decode c_Rows_remove 37 = .ok (.iadd, 1) := by decide +kernel
theorem d_Rows_remove_38 : decode c_Rows_remove 38 = .ok (.iaload, 1) := by decide +kernel
theorem d_Rows_remove_39 : decode c_Rows_remove 39 = .ok (.iastore, 1) := by decide +kernel
theorem d_Rows_remove_40 : decode c_Rows_remove 40 = .ok (.aload_n 0, 1) := by decide +kernel
theorem d_Rows_remove_41 : decode c_Rows_remove 41 = .ok (.getfield 22, 3) := by decide +kernel
theorem d_Rows_remove_44 : decode c_Rows_remove 44 = .ok (.iload_n 2, 1) := by decide +kernel
theorem d_Rows_remove_45 : decode c_Rows_remove 45 = .ok (.aload_n 0, 1) := by decide +kernel
theorem d_Rows_remove_46 : decode c_Rows_remove 46 = .ok (.getfield 22, 3) := by decide +kernel
theorem d_Rows_remove_49 : decode c_Rows_remove 49 = .ok (.iload_n 2, 1) := by decide +kernel
theorem d_Rows_remove_50 : decode c_Rows_remove 50 = .ok (.iconst 1, 1) := by decide +kernel
theorem d_Rows_remove_51 : decode c_Rows_remove 51 = .ok (.iadd, 1) := by decide +kernel
theorem d_Rows_remove_52 : decode c_Rows_remove 52 = .ok (.iaload, 1) := by decide +kernel
theorem d_Rows_remove_53 : decode c_Rows_remove 53 = .ok (.iastore, 1) := by decide +kernel
theorem d_Rows_remove_54 : decode c_Rows_remove 54 = .ok (.iinc 2 1, 3) := by decide +kernel
theorem d_Rows_remove_57 : decode c_Rows_remove 57 = .ok (.goto (-55), 3) := by decide +kernel
theorem d_Rows_remove_60 : decode c_Rows_remove 60 = .ok (.aload_n 0, 1) := by decide +kernel
theorem d_Rows_remove_61 : decode c_Rows_remove 61 = .ok (.dup, 1) := by decide +kernel
theorem d_Rows_remove_62 : decode c_Rows_remove 62 = .ok (.getfield 25, 3) := by decide +kernel
theorem d_Rows_remove_65 : decode c_Rows_remove 65 = .ok (.iconst 1, 1) := by decide +kernel
theorem d_Rows_remove_66 : decode c_Rows_remove 66 = .ok (.isub, 1) := by decide +kernel
theorem d_Rows_remove_67 : decode c_Rows_remove 67 = .ok (.putfield 25, 3) := by decide +kernel
theorem d_Rows_remove_70 : decode c_Rows_remove 70 = .ok (.return_, 1) := by decide +kernel
theorem ey_Rows_cleanRow : eY y_Rows_cleanRow 1 = true := by decide +kernel
theorem d_Rows_cleanRow_0 : decode c_Rows_cleanRow 0 = .ok (.aload_n 0, 1) := by decide +kernel
theorem d_Rows_cleanRow_1 : decode c_Rows_cleanRow 1 = .ok (.getfield 22, 3) := by decide +kernel
theorem d_Rows_cleanRow_4 : decode c_Rows_cleanRow 4 = .ok (.iload_n 1, 1) := by decide +kernel
theorem d_Rows_cleanRow_5 : decode c_Rows_cleanRow 5 = .ok (.iaload, 1) := by decide +kernel
theorem d_Rows_cleanRow_6 : decode c_Rows_cleanRow 6 = .ok (.invokestatic 28, 3) := by decide +kernel
theorem d_Rows_cleanRow_9 : decode c_Rows_cleanRow 9 = .ok (.istore_n 2, 1) := by decide +kernel
theorem d_Rows_cleanRow_10 : decode c_Rows_cleanRow 10 = .ok (.aload_n 0, 1) := by decide +kernel
theorem d_Rows_cleanRow_11 : decode c_Rows_cleanRow 11 = .ok (.getfield 22, 3) := by decide +kernel
theorem d_Rows_cleanRow_14 : decode c_Rows_cleanRow 14 = .ok (.iload_n 1, 1) := by decide +kernel
theorem d_Rows_cleanRow_15 : decode c_Rows_cleanRow 15 = .ok (.iconst 0, 1) := by decide +kernel
theorem d_Rows_cleanRow_16 : decode c_Rows_cleanRow 16 = .ok (.iastore, 1) := by decide +kernel
theorem d_Rows_cleanRow_17 : decode c_Rows_cleanRow 17 = .ok (.iload_n 2, 1) := by decide +kernel
theorem d_Rows_cleanRow_18 : decode c_Rows_cleanRow 18 = .ok (.ireturn, 1) := by decide +kernel
/-- z rows of at most V -/
def RD (v : Nat → Int32) (V z : Nat) : Prop := v 9 = nI V ∧ v 10 = nI z ∧ z ≤ V ∧ V ≤ 4
section RowsRows
variable {l : Launch} {G : EG} {a : Nat → Nat} {v : Nat → Int32} {f : Nat → Nat → Int32} {n V z : Nat} {wr : va_W}
set_option maxRecDepth 100000 in
theorem k_Rows_find (h : RD v V z) (x : Int32) : Con l G y_Rows_find c_Rows_find 3 (some .int) (rz 0 0) [.ref (a 7), .int x] (cF G a v f n V wr) (DI (oI (fst1 (fun k => f 8 k == x) 0 z)) (cF G a v f n V wr)) := by
  refine Con.of rfl rfl (fun X C E hR hl hn => ?_)
  obtain ⟨h9, h10, hz, hV⟩ := h
  refine e_iconst C d_Rows_find_0 (v := 0) (by decide) ?_
  refine e_istore_n C d_Rows_find_1 rfl ?_
  have L : ∀ m k : Nat, k + m = z → fst1 (fun k => f 8 k == x) k m = fst1 (fun k => f 8 k == x) 0 z → EW X G 3 0 0 2 [(0, .ref (a 7)), (1, .int x), (2, .int (nI k))] [] (cF G a v f n V wr) := by
    intro m
    induction m with
    | zero =>
      intro k hk hf
      refine e_iload_n C d_Rows_find_2 rfl ?_
      refine e_aload_n C d_Rows_find_3 rfl ?_
      refine e_get C 7 (k := 4) in_Rows g89 d_Rows_find_4 rfl rfl rfl rfl ?_
      refine e_top h10 ?_
      refine e_icmp_ge C d_Rows_find_7 (tgt := 28) (by decide) (fun h7 => ?_) (fun h7 => ?_)
      · skip
        refine e_iconst C d_Rows_find_28 (v := (-1)) (by decide) ?_
        exact e_iret C E d_Rows_find_29 (Nat.le_refl _) (Nat.le_refl _) rfl ⟨by rw [← hf]; rfl, rfl⟩
      · exact absurd (nI_le (by omega) (by omega)) h7
    | succ m ih =>
      intro k hk hf
      refine e_iload_n C d_Rows_find_2 rfl ?_
      refine e_aload_n C d_Rows_find_3 rfl ?_
      refine e_get C 7 (k := 4) in_Rows g89 d_Rows_find_4 rfl rfl rfl rfl ?_
      refine e_top h10 ?_
      refine e_icmp_ge C d_Rows_find_7 (tgt := 28) (by decide) (fun h7 => ?_) (fun h7 => ?_)
      · exact absurd h7 (nI_ge (by omega) (by omega))
      · skip
        refine e_aload_n C d_Rows_find_10 rfl ?_
        refine e_get C 7 (k := 1) in_Rows g83 d_Rows_find_11 rfl rfl rfl rfl ?_
        refine e_iload_n C d_Rows_find_14 rfl ?_
        refine e_iald C 8 0 d_Rows_find_15 rfl rfl k rfl (by omega) (by omega) ?_
        refine e_iload_n C d_Rows_find_16 rfl ?_
        refine e_icmp_ne C d_Rows_find_17 (tgt := 22) (by decide) (fun h17 => ?_) (fun h17 => ?_)
        · skip
          refine e_iinc C d_Rows_find_22 rfl (nI_1 k) rfl ?_
          refine e_goto C d_Rows_find_25 (tgt := 2) (by decide) ?_
          exact e_lv2 (ih (k + 1) (by omega) (by rw [← hf]; simp [fst1, h17])) rfl
        · skip
          refine e_iload_n C d_Rows_find_20 rfl ?_
          exact e_iret C E d_Rows_find_21 (Nat.le_refl _) (Nat.le_refl _) rfl ⟨by rw [← hf]; simp [fst1, h17, oI], rfl⟩
  exact e_lv2 (L z 0 (by omega) rfl) rfl
/-- a row added -/
def raF (f : Nat → Nat → Int32) (z : Nat) (x t c : Int32) : Nat → Nat → Int32 := up2 (up2 (up2 f 8 (upd (f 8) z x)) 9 (upd (f 9) z t)) 10 (upd (f 10) z c)
set_option maxRecDepth 100000 in
theorem k_Rows_add (h : RD v V z) (hzV : z < V) (x t c : Int32) : Con l G y_Rows_add c_Rows_add 4 none (rz 0 0) [.ref (a 7), .int x, .int t, .int c] (cF G a v f n V wr) (DV (cF G a (upd v 10 (nI (z + 1))) (raF f z x t c) n V wr)) := by
  refine Con.of rfl rfl (fun X C E hR hl hn => ?_)
  obtain ⟨h9, h10, hz, hV⟩ := h
  refine e_aload_n C d_Rows_add_0 rfl ?_
  refine e_get C 7 (k := 1) in_Rows g83 d_Rows_add_1 rfl rfl rfl rfl ?_
  refine e_aload_n C d_Rows_add_4 rfl ?_
  refine e_get C 7 (k := 4) in_Rows g89 d_Rows_add_5 rfl rfl rfl rfl ?_
  refine e_iload_n C d_Rows_add_8 rfl ?_
  refine e_iast C 8 0 d_Rows_add_9 rfl rfl z h10 hzV (by omega) ?_
  refine e_aload_n C d_Rows_add_10 rfl ?_
  refine e_get C 7 (k := 2) in_Rows g85 d_Rows_add_11 rfl rfl rfl rfl ?_
  refine e_aload_n C d_Rows_add_14 rfl ?_
  refine e_get C 7 (k := 4) in_Rows g89 d_Rows_add_15 rfl rfl rfl rfl ?_
  refine e_iload_n C d_Rows_add_18 rfl ?_
  refine e_iast C 9 0 d_Rows_add_19 rfl rfl z h10 hzV (by omega) ?_
  refine e_aload_n C d_Rows_add_20 rfl ?_
  refine e_get C 7 (k := 3) in_Rows g87 d_Rows_add_21 rfl rfl rfl rfl ?_
  refine e_aload_n C d_Rows_add_24 rfl ?_
  refine e_get C 7 (k := 4) in_Rows g89 d_Rows_add_25 rfl rfl rfl rfl ?_
  refine e_iload_n C d_Rows_add_28 rfl ?_
  refine e_iast C 10 0 d_Rows_add_29 rfl rfl z h10 hzV (by omega) ?_
  refine e_aload_n C d_Rows_add_30 rfl ?_
  refine e_dup C d_Rows_add_31 rfl ?_
  refine e_get C 7 (k := 4) in_Rows g89 d_Rows_add_32 rfl rfl rfl rfl ?_
  refine e_iconst C d_Rows_add_35 (v := 1) (by decide) ?_
  refine e_iadd C d_Rows_add_36 ?_
  refine e_top (y := nI (z + 1)) (by rw [h10]; exact nI_1 z) ?_
  refine e_put C 7 (k := 4) in_Rows tk_Rows nm_Rows g89 d_Rows_add_37 rfl rfl rfl rfl rfl rfl rfl rfl ?_
  exact e_vret C E d_Rows_add_40 (Nat.le_refl _) (Nat.le_refl _) ⟨rfl, rfl⟩
/-- a row taken out -/
def rmF (f : Nat → Nat → Int32) (g k : Nat) : Nat → Nat → Int32 := up2 (up2 (up2 f 8 (shf (f 8) g k)) 9 (shf (f 9) g k)) 10 (shf (f 10) g k)
set_option maxRecDepth 100000 in
theorem k_Rows_remove (h : RD v V z) {g : Nat} (hg : g < z) : Con l G y_Rows_remove c_Rows_remove 3 none (rz 0 0) [.ref (a 7), .int (nI g)] (cF G a v f n V wr) (DV (cF G a (upd v 10 (nI (z - 1))) (rmF f g (z - 1)) n V wr)) := by
  refine Con.of rfl rfl (fun X C E hR hl hn => ?_)
  obtain ⟨h9, h10, hz, hV⟩ := h
  refine e_iload_n C d_Rows_remove_0 rfl ?_
  refine e_istore_n C d_Rows_remove_1 rfl ?_
  have L : ∀ m k : Nat, k + m = z - 1 → g ≤ k → EW X G 3 0 0 2 [(0, .ref (a 7)), (1, .int (nI g)), (2, .int (nI k))] [] (cF G a v (rmF f g k) n V wr) := by
    intro m
    induction m with
    | zero =>
      intro k hk hgk
      obtain rfl : k = z - 1 := by omega
      refine e_iload_n C d_Rows_remove_2 rfl ?_
      refine e_iconst C d_Rows_remove_3 (v := 1) (by decide) ?_
      refine e_iadd C d_Rows_remove_4 ?_
      refine e_top (y := nI (z - 1 + 1)) (nI_1 _) ?_
      refine e_aload_n C d_Rows_remove_5 rfl ?_
      refine e_get C 7 (k := 4) in_Rows g89 d_Rows_remove_6 rfl rfl rfl rfl ?_
      refine e_top h10 ?_
      refine e_icmp_ge C d_Rows_remove_9 (tgt := 60) (by decide) (fun hx9 => ?_) (fun hx9 => ?_)
      · skip
        refine e_aload_n C d_Rows_remove_60 rfl ?_
        refine e_dup C d_Rows_remove_61 rfl ?_
        refine e_get C 7 (k := 4) in_Rows g89 d_Rows_remove_62 rfl rfl rfl rfl ?_
        refine e_iconst C d_Rows_remove_65 (v := 1) (by decide) ?_
        refine e_isub C d_Rows_remove_66 ?_
        refine e_top (y := nI (z - 1)) (by rw [show v 10 = nI (z - 1 + 1) by rw [h10, show z - 1 + 1 = z by omega]]; exact nI_pred _) ?_
        refine e_put C 7 (k := 4) in_Rows tk_Rows nm_Rows g89 d_Rows_remove_67 rfl rfl rfl rfl rfl rfl rfl rfl ?_
        exact e_vret C E d_Rows_remove_70 (Nat.le_refl _) (Nat.le_refl _) ⟨rfl, rfl⟩
      · exact absurd (nI_le (by omega) (by omega)) hx9
    | succ m ih =>
      intro k hk hgk
      refine e_iload_n C d_Rows_remove_2 rfl ?_
      refine e_iconst C d_Rows_remove_3 (v := 1) (by decide) ?_
      refine e_iadd C d_Rows_remove_4 ?_
      refine e_top (y := nI (k + 1)) (nI_1 _) ?_
      refine e_aload_n C d_Rows_remove_5 rfl ?_
      refine e_get C 7 (k := 4) in_Rows g89 d_Rows_remove_6 rfl rfl rfl rfl ?_
      refine e_top h10 ?_
      refine e_icmp_ge C d_Rows_remove_9 (tgt := 60) (by decide) (fun hx9 => ?_) (fun hx9 => ?_)
      · exact absurd hx9 (nI_ge (by omega) (by omega))
      · skip
        refine e_aload_n C d_Rows_remove_12 rfl ?_
        refine e_get C 7 (k := 1) in_Rows g83 d_Rows_remove_13 rfl rfl rfl rfl ?_
        refine e_iload_n C d_Rows_remove_16 rfl ?_
        refine e_aload_n C d_Rows_remove_17 rfl ?_
        refine e_get C 7 (k := 1) in_Rows g83 d_Rows_remove_18 rfl rfl rfl rfl ?_
        refine e_iload_n C d_Rows_remove_21 rfl ?_
        refine e_iconst C d_Rows_remove_22 (v := 1) (by decide) ?_
        refine e_iadd C d_Rows_remove_23 ?_
        refine e_iald C 8 0 d_Rows_remove_24 rfl rfl (k + 1) (nI_1 k) (by omega) (by omega) ?_
        refine e_iast C 8 0 d_Rows_remove_25 rfl rfl k rfl (by omega) (by omega) ?_
        refine e_aload_n C d_Rows_remove_26 rfl ?_
        refine e_get C 7 (k := 2) in_Rows g85 d_Rows_remove_27 rfl rfl rfl rfl ?_
        refine e_iload_n C d_Rows_remove_30 rfl ?_
        refine e_aload_n C d_Rows_remove_31 rfl ?_
        refine e_get C 7 (k := 2) in_Rows g85 d_Rows_remove_32 rfl rfl rfl rfl ?_
        refine e_iload_n C d_Rows_remove_35 rfl ?_
        refine e_iconst C d_Rows_remove_36 (v := 1) (by decide) ?_
        refine e_iadd C d_Rows_remove_37 ?_
        refine e_iald C 9 0 d_Rows_remove_38 rfl rfl (k + 1) (nI_1 k) (by omega) (by omega) ?_
        refine e_iast C 9 0 d_Rows_remove_39 rfl rfl k rfl (by omega) (by omega) ?_
        refine e_aload_n C d_Rows_remove_40 rfl ?_
        refine e_get C 7 (k := 3) in_Rows g87 d_Rows_remove_41 rfl rfl rfl rfl ?_
        refine e_iload_n C d_Rows_remove_44 rfl ?_
        refine e_aload_n C d_Rows_remove_45 rfl ?_
        refine e_get C 7 (k := 3) in_Rows g87 d_Rows_remove_46 rfl rfl rfl rfl ?_
        refine e_iload_n C d_Rows_remove_49 rfl ?_
        refine e_iconst C d_Rows_remove_50 (v := 1) (by decide) ?_
        refine e_iadd C d_Rows_remove_51 ?_
        refine e_iald C 10 0 d_Rows_remove_52 rfl rfl (k + 1) (nI_1 k) (by omega) (by omega) ?_
        refine e_iast C 10 0 d_Rows_remove_53 rfl rfl k rfl (by omega) (by omega) ?_
        refine e_eq (ws' := cF G a v (rmF f g (k + 1)) n V wr) (by simp only [rmF, shf_s hgk]; rfl) ?_
        refine e_iinc C d_Rows_remove_54 rfl (nI_1 k) rfl ?_
        refine e_goto C d_Rows_remove_57 (tgt := 2) (by decide) ?_
        exact e_lv2 (ih (k + 1) (by omega) (by omega)) rfl
  refine e_eq (ws' := cF G a v (rmF f g g) n V wr) (by simp only [rmF, shf_0]; rfl) ?_
  exact e_lv2 (L (z - 1 - g) g (by omega) (Nat.le_refl _)) rfl
set_option maxRecDepth 100000 in
theorem k_Rows_cleanRow (h : RD v V z) {j c : Nat} (hj : j < z) (hc : c < 16) (hcj : f 10 j = nI c) : Con l G y_Rows_cleanRow c_Rows_cleanRow 3 (some .int) (rz 1 20) [.ref (a 7), .int (nI j)] (cF G a v f n V wr) (DI (nI (pop4 c)) (cF G a v (up2 f 10 (upd (f 10) j 0)) n V wr)) := by
  refine Con.of rfl rfl (fun X C E hR hl hn => ?_)
  obtain ⟨h9, h10, hz, hV⟩ := h
  refine e_aload_n C d_Rows_cleanRow_0 rfl ?_
  refine e_get C 7 (k := 3) in_Rows g87 d_Rows_cleanRow_1 rfl rfl rfl rfl ?_
  refine e_iload_n C d_Rows_cleanRow_4 rfl ?_
  refine e_iald C 10 0 d_Rows_cleanRow_5 rfl rfl j rfl (by omega) (by omega) ?_
  refine e_top hcj ?_
  refine e_cSi C hR (k_bitCount hc) g331 g19 g339 g330 d_Rows_cleanRow_6 rfl ey_Integer_bitCount rfl rfl ⟨Nat.zero_le _, Nat.zero_le _⟩ ?_
  refine e_istore_n C d_Rows_cleanRow_9 rfl ?_
  refine e_aload_n C d_Rows_cleanRow_10 rfl ?_
  refine e_get C 7 (k := 3) in_Rows g87 d_Rows_cleanRow_11 rfl rfl rfl rfl ?_
  refine e_iload_n C d_Rows_cleanRow_14 rfl ?_
  refine e_iconst C d_Rows_cleanRow_15 (v := 0) (by decide) ?_
  refine e_iast C 10 0 d_Rows_cleanRow_16 rfl rfl j rfl (by omega) (by omega) ?_
  refine e_iload_n C d_Rows_cleanRow_17 rfl ?_
  exact e_iret C E d_Rows_cleanRow_18 (Nat.le_refl _) (Nat.le_refl _) rfl ⟨rfl, rfl⟩
end RowsRows
