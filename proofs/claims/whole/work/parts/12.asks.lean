/-! ASKS -/
theorem ey_Asks_waits : eY y_Asks_waits 1 = true := by decide +kernel
theorem d_Asks_waits_0 : decode c_Asks_waits 0 = .ok (.iconst 0, 1) := by decide +kernel
theorem d_Asks_waits_1 : decode c_Asks_waits 1 = .ok (.istore_n 2, 1) := by decide +kernel
theorem d_Asks_waits_2 : decode c_Asks_waits 2 = .ok (.iload_n 2, 1) := by decide +kernel
theorem d_Asks_waits_3 : decode c_Asks_waits 3 = .ok (.aload_n 0, 1) := by decide +kernel
theorem d_Asks_waits_4 : decode c_Asks_waits 4 = .ok (.getfield 25, 3) := by decide +kernel
theorem d_Asks_waits_7 : decode c_Asks_waits 7 = .ok (.if_icmp .ge 21, 3) := by decide +kernel
theorem d_Asks_waits_10 : decode c_Asks_waits 10 = .ok (.aload_n 0, 1) := by decide +kernel
theorem d_Asks_waits_11 : decode c_Asks_waits 11 = .ok (.getfield 16, 3) := by decide +kernel
theorem d_Asks_waits_14 : decode c_Asks_waits 14 = .ok (.iload_n 2, 1) := by decide +kernel
theorem d_Asks_waits_15 : decode c_Asks_waits 15 = .ok (.iaload, 1) := by decide +kernel
theorem d_Asks_waits_16 : decode c_Asks_waits 16 = .ok (.iload_n 1, 1) := by decide +kernel
theorem d_Asks_waits_17 : decode c_Asks_waits 17 = .ok (.if_icmp .ne 5, 3) := by decide +kernel
theorem d_Asks_waits_20 : decode c_Asks_waits 20 = .ok (.iconst 1, 1) := by decide +kernel
theorem d_Asks_waits_21 : decode c_Asks_waits 21 = .ok (.ireturn, 1) := by decide +kernel
theorem d_Asks_waits_22 : decode c_Asks_waits 22 = .ok (.iinc 2 1, 3) := by decide +kernel
theorem d_Asks_waits_25 : decode c_Asks_waits 25 = .ok (.goto (-23), 3) := by decide +kernel
theorem d_Asks_waits_28 : decode c_Asks_waits 28 = .ok (.iconst 0, 1) := by decide +kernel
theorem d_Asks_waits_29 : decode c_Asks_waits 29 = .ok (.ireturn, 1) := by decide +kernel
theorem ey_Asks_hasRoomFor : eY y_Asks_hasRoomFor 1 = true := by decide +kernel
theorem d_Asks_hasRoomFor_0 : decode c_Asks_hasRoomFor 0 = .ok (.aload_n 0, 1) := by decide +kernel
theorem d_Asks_hasRoomFor_1 : decode c_Asks_hasRoomFor 1 = .ok (.getfield 29, 3) := by decide +kernel
theorem d_Asks_hasRoomFor_4 : decode c_Asks_hasRoomFor 4 = .ok (.bipush 16, 2) := by decide +kernel
theorem d_Asks_hasRoomFor_6 : decode c_Asks_hasRoomFor 6 = .ok (.if_icmp .ge 23, 3) := by decide +kernel
theorem d_Asks_hasRoomFor_9 : decode c_Asks_hasRoomFor 9 = .ok (.aload_n 0, 1) := by decide +kernel
theorem d_Asks_hasRoomFor_10 : decode c_Asks_hasRoomFor 10 = .ok (.getfield 25, 3) := by decide +kernel
theorem d_Asks_hasRoomFor_13 : decode c_Asks_hasRoomFor 13 = .ok (.iconst 4, 1) := by decide +kernel
theorem d_Asks_hasRoomFor_14 : decode c_Asks_hasRoomFor 14 = .ok (.if_icmp .lt 11, 3) := by decide +kernel
theorem d_Asks_hasRoomFor_17 : decode c_Asks_hasRoomFor 17 = .ok (.aload_n 0, 1) := by decide +kernel
theorem d_Asks_hasRoomFor_18 : decode c_Asks_hasRoomFor 18 = .ok (.iload_n 1, 1) := by decide +kernel
theorem d_Asks_hasRoomFor_19 : decode c_Asks_hasRoomFor 19 = .ok (.invokevirtual 32, 3) := by decide +kernel
theorem d_Asks_hasRoomFor_22 : decode c_Asks_hasRoomFor 22 = .ok (.ifCond .eq 7, 3) := by decide +kernel
theorem d_Asks_hasRoomFor_25 : decode c_Asks_hasRoomFor 25 = .ok (.iconst 1, 1) := by decide +kernel
theorem d_Asks_hasRoomFor_26 : decode c_Asks_hasRoomFor 26 = .ok (.goto 4, 3) := by decide +kernel
theorem d_Asks_hasRoomFor_29 : decode c_Asks_hasRoomFor 29 = .ok (.iconst 0, 1) := by decide +kernel
theorem d_Asks_hasRoomFor_30 : decode c_Asks_hasRoomFor 30 = .ok (.ireturn, 1) := by decide +kernel
theorem ey_Asks_add : eY y_Asks_add 2 = true := by decide +kernel
theorem d_Asks_add_0 : decode c_Asks_add 0 = .ok (.aload_n 0, 1) := by decide +kernel
theorem d_Asks_add_1 : decode c_Asks_add 1 = .ok (.iload_n 1, 1) := by decide +kernel
theorem d_Asks_add_2 : decode c_Asks_add 2 = .ok (.invokevirtual 32, 3) := by decide +kernel
theorem d_Asks_add_5 : decode c_Asks_add 5 = .ok (.ifCond .ne 7, 3) := by decide +kernel
theorem d_Asks_add_8 : decode c_Asks_add 8 = .ok (.iconst 1, 1) := by decide +kernel
theorem d_Asks_add_9 : decode c_Asks_add 9 = .ok (.goto 4, 3) := by decide +kernel
theorem d_Asks_add_12 : decode c_Asks_add 12 = .ok (.iconst 0, 1) := by decide +kernel
theorem d_Asks_add_13 : decode c_Asks_add 13 = .ok (.istore_n 3, 1) := by decide +kernel
theorem d_Asks_add_14 : decode c_Asks_add 14 = .ok (.iload_n 3, 1) := by decide +kernel
theorem d_Asks_add_15 : decode c_Asks_add 15 = .ok (.ifCond .eq 23, 3) := by decide +kernel
theorem d_Asks_add_18 : decode c_Asks_add 18 = .ok (.aload_n 0, 1) := by decide +kernel
theorem d_Asks_add_19 : decode c_Asks_add 19 = .ok (.getfield 16, 3) := by decide +kernel
theorem d_Asks_add_22 : decode c_Asks_add 22 = .ok (.aload_n 0, 1) := by decide +kernel
theorem d_Asks_add_23 : decode c_Asks_add 23 = .ok (.getfield 25, 3) := by decide +kernel
theorem d_Asks_add_26 : decode c_Asks_add 26 = .ok (.iload_n 1, 1) := by decide +kernel
theorem d_Asks_add_27 : decode c_Asks_add 27 = .ok (.iastore, 1) := by decide +kernel
theorem d_Asks_add_28 : decode c_Asks_add 28 = .ok (.aload_n 0, 1) := by decide +kernel
theorem d_Asks_add_29 : decode c_Asks_add 29 = .ok (.dup, 1) := by decide +kernel
theorem d_Asks_add_30 : decode c_Asks_add 30 = .ok (.getfield 25, 3) := by decide +kernel
theorem d_Asks_add_33 : decode c_Asks_add 33 = .ok (.iconst 1, 1) := by decide +kernel
theorem d_Asks_add_34 : decode c_Asks_add 34 = .ok (.iadd, 1) := by decide +kernel
theorem d_Asks_add_35 : decode c_Asks_add 35 = .ok (.putfield 25, 3) := by decide +kernel
theorem d_Asks_add_38 : decode c_Asks_add 38 = .ok (.aload_n 0, 1) := by decide +kernel
theorem d_Asks_add_39 : decode c_Asks_add 39 = .ok (.getfield 9, 3) := by decide +kernel
theorem d_Asks_add_42 : decode c_Asks_add 42 = .ok (.aload_n 0, 1) := by decide +kernel
theorem d_Asks_add_43 : decode c_Asks_add 43 = .ok (.getfield 29, 3) := by decide +kernel
theorem d_Asks_add_46 : decode c_Asks_add 46 = .ok (.iload_n 1, 1) := by decide +kernel
theorem d_Asks_add_47 : decode c_Asks_add 47 = .ok (.iastore, 1) := by decide +kernel
theorem d_Asks_add_48 : decode c_Asks_add 48 = .ok (.aload_n 0, 1) := by decide +kernel
theorem d_Asks_add_49 : decode c_Asks_add 49 = .ok (.getfield 13, 3) := by decide +kernel
theorem d_Asks_add_52 : decode c_Asks_add 52 = .ok (.aload_n 0, 1) := by decide +kernel
theorem d_Asks_add_53 : decode c_Asks_add 53 = .ok (.getfield 29, 3) := by decide +kernel
theorem d_Asks_add_56 : decode c_Asks_add 56 = .ok (.iload_n 2, 1) := by decide +kernel
theorem d_Asks_add_57 : decode c_Asks_add 57 = .ok (.iastore, 1) := by decide +kernel
theorem d_Asks_add_58 : decode c_Asks_add 58 = .ok (.aload_n 0, 1) := by decide +kernel
theorem d_Asks_add_59 : decode c_Asks_add 59 = .ok (.dup, 1) := by decide +kernel
theorem d_Asks_add_60 : decode c_Asks_add 60 = .ok (.getfield 29, 3) := by decide +kernel
theorem d_Asks_add_63 : decode c_Asks_add 63 = .ok (.iconst 1, 1) := by decide +kernel
theorem d_Asks_add_64 : decode c_Asks_add 64 = .ok (.iadd, 1) := by decide +kernel
theorem d_Asks_add_65 : decode c_Asks_add 65 = .ok (.putfield 29, 3) := by decide +kernel
theorem d_Asks_add_68 : decode c_Asks_add 68 = .ok (.iload_n 3, 1) := by decide +kernel
theorem d_Asks_add_69 : decode c_Asks_add 69 = .ok (.ireturn, 1) := by decide +kernel
theorem ey_Asks_takeFirstLine : eY y_Asks_takeFirstLine 0 = true := by decide +kernel
theorem d_Asks_takeFirstLine_0 : decode c_Asks_takeFirstLine 0 = .ok (.aload_n 0, 1) := by decide +kernel
theorem d_Asks_takeFirstLine_1 : decode c_Asks_takeFirstLine 1 = .ok (.getfield 16, 3) := by decide +kernel
theorem d_Asks_takeFirstLine_4 : decode c_Asks_takeFirstLine 4 = .ok (.iconst 0, 1) := by decide +kernel
theorem d_Asks_takeFirstLine_5 : decode c_Asks_takeFirstLine 5 = .ok (.iaload, 1) := by decide +kernel
theorem d_Asks_takeFirstLine_6 : decode c_Asks_takeFirstLine 6 = .ok (.istore_n 1, 1) := by decide +kernel
theorem d_Asks_takeFirstLine_7 : decode c_Asks_takeFirstLine 7 = .ok (.iconst 0, 1) := by decide +kernel
theorem d_Asks_takeFirstLine_8 : decode c_Asks_takeFirstLine 8 = .ok (.istore_n 2, 1) := by decide +kernel
theorem d_Asks_takeFirstLine_9 : decode c_Asks_takeFirstLine 9 = .ok (.aload_n 0, 1) := by decide +kernel
theorem d_Asks_takeFirstLine_10 : decode c_Asks_takeFirstLine 10 = .ok (.iconst 0, 1) := by decide +kernel
theorem d_Asks_takeFirstLine_11 : decode c_Asks_takeFirstLine 11 = .ok (.putfield 36, 3) := by decide +kernel
theorem d_Asks_takeFirstLine_14 : decode c_Asks_takeFirstLine 14 = .ok (.iconst 0, 1) := by decide +kernel
theorem d_Asks_takeFirstLine_15 : decode c_Asks_takeFirstLine 15 = .ok (.istore_n 3, 1) := by decide +kernel
theorem d_Asks_takeFirstLine_16 : decode c_Asks_takeFirstLine 16 = .ok (.iload_n 3, 1) := by decide +kernel
theorem d_Asks_takeFirstLine_17 : decode c_Asks_takeFirstLine 17 = .ok (.aload_n 0, 1) := by decide +kernel
theorem d_Asks_takeFirstLine_18 : decode c_Asks_takeFirstLine 18 = .ok (.getfield 29, 3) := by decide +kernel
theorem d_Asks_takeFirstLine_21 : decode c_Asks_takeFirstLine 21 = .ok (.if_icmp .ge 74, 3) := by decide +kernel
theorem d_Asks_takeFirstLine_24 : decode c_Asks_takeFirstLine 24 = .ok (.aload_n 0, 1) := by decide +kernel
theorem d_Asks_takeFirstLine_25 : decode c_Asks_takeFirstLine 25 = .ok (.getfield 9, 3) := by decide +kernel
theorem d_Asks_takeFirstLine_28 : decode c_Asks_takeFirstLine 28 = .ok (.iload_n 3, 1) := by decide +kernel
theorem d_Asks_takeFirstLine_29 : decode c_Asks_takeFirstLine 29 = .ok (.iaload, 1) := by decide +kernel
theorem d_Asks_takeFirstLine_30 : decode c_Asks_takeFirstLine 30 = .ok (.iload_n 1, 1) := by decide +kernel
theorem d_Asks_takeFirstLine_31 : decode c_Asks_takeFirstLine 31 = .ok (.if_icmp .ne 31, 3) := by decide +kernel
theorem d_Asks_takeFirstLine_34 : decode c_Asks_takeFirstLine 34 = .ok (.aload_n 0, 1) := by decide +kernel
theorem d_Asks_takeFirstLine_35 : decode c_Asks_takeFirstLine 35 = .ok (.getfield 19, 3) := by decide +kernel
theorem d_Asks_takeFirstLine_38 : decode c_Asks_takeFirstLine 38 = .ok (.aload_n 0, 1) := by decide +kernel
theorem d_Asks_takeFirstLine_39 : decode c_Asks_takeFirstLine 39 = .ok (.getfield 36, 3) := by decide +kernel
theorem d_Asks_takeFirstLine_42 : decode c_Asks_takeFirstLine 42 = .ok (.aload_n 0, 1) := by decide +kernel
theorem d_Asks_takeFirstLine_43 : decode c_Asks_takeFirstLine 43 = .ok (.getfield 13, 3) := by decide +kernel
theorem d_Asks_takeFirstLine_46 : decode c_Asks_takeFirstLine 46 = .ok (.iload_n 3, 1) := by decide +kernel
theorem d_Asks_takeFirstLine_47 : decode c_Asks_takeFirstLine 47 = .ok (.iaload, 1) := by decide +kernel
theorem d_Asks_takeFirstLine_48 : decode c_Asks_takeFirstLine 48 = .ok (.iastore, 1) := by decide +kernel
theorem d_Asks_takeFirstLine_49 : decode c_Asks_takeFirstLine 49 = .ok (.aload_n 0, 1) := by decide +kernel
theorem d_Asks_takeFirstLine_50 : decode c_Asks_takeFirstLine 50 = .ok (.dup, 1) := by decide +kernel
theorem d_Asks_takeFirstLine_51 : decode c_Asks_takeFirstLine 51 = .ok (.getfield 36, 3) := by decide +kernel
theorem d_Asks_takeFirstLine_54 : decode c_Asks_takeFirstLine 54 = .ok (.iconst 1, 1) := by decide +kernel
theorem d_Asks_takeFirstLine_55 : decode c_Asks_takeFirstLine 55 = .ok (.iadd, 1) := by decide +kernel
theorem d_Asks_takeFirstLine_56 : decode c_Asks_takeFirstLine 56 = .ok (.putfield 36, 3) := by decide +kernel
theorem d_Asks_takeFirstLine_59 : decode c_Asks_takeFirstLine 59 = .ok (.goto 30, 3) := by decide +kernel
theorem d_Asks_takeFirstLine_62 : decode c_Asks_takeFirstLine 62 = .ok (.aload_n 0, 1) := by decide +kernel
theorem d_Asks_takeFirstLine_63 : decode c_Asks_takeFirstLine 63 = .ok (.getfield 9, 3) := by decide +kernel
theorem d_Asks_takeFirstLine_66 : decode c_Asks_takeFirstLine 66 = .ok (.iload_n 2, 1) := by decide +kernel
theorem d_Asks_takeFirstLine_67 : decode c_Asks_takeFirstLine 67 = .ok (.aload_n 0, 1) := by decide +kernel
theorem d_Asks_takeFirstLine_68 : decode c_Asks_takeFirstLine 68 = .ok (.getfield 9, 3) := by decide +kernel
theorem d_Asks_takeFirstLine_71 : decode c_Asks_takeFirstLine 71 = .ok (.iload_n 3, 1) := by decide +kernel
theorem d_Asks_takeFirstLine_72 : decode c_Asks_takeFirstLine 72 = .ok (.iaload, 1) := by decide +kernel
theorem d_Asks_takeFirstLine_73 : decode c_Asks_takeFirstLine 73 = .ok (.iastore, 1) := by decide +kernel
theorem d_Asks_takeFirstLine_74 : decode c_Asks_takeFirstLine 74 = .ok (.aload_n 0, 1) := by decide +kernel
theorem d_Asks_takeFirstLine_75 : decode c_Asks_takeFirstLine 75 = .ok (.getfield 13, 3) := by decide +kernel
theorem d_Asks_takeFirstLine_78 : decode c_Asks_takeFirstLine 78 = .ok (.iload_n 2, 1) := by decide +kernel
theorem d_Asks_takeFirstLine_79 : decode c_Asks_takeFirstLine 79 = .ok (.aload_n 0, 1) := by decide +kernel
theorem d_Asks_takeFirstLine_80 : decode c_Asks_takeFirstLine 80 = .ok (.getfield 13, 3) := by decide +kernel
theorem d_Asks_takeFirstLine_83 : decode c_Asks_takeFirstLine 83 = .ok (.iload_n 3, 1) := by decide +kernel
theorem d_Asks_takeFirstLine_84 : decode c_Asks_takeFirstLine 84 = .ok (.iaload, 1) := by decide +kernel
theorem d_Asks_takeFirstLine_85 : decode c_Asks_takeFirstLine 85 = .ok (.iastore, 1) := by decide +kernel
theorem d_Asks_takeFirstLine_86 : decode c_Asks_takeFirstLine 86 = .ok (.iinc 2 1, 3) := by decide +kernel
theorem d_Asks_takeFirstLine_89 : decode c_Asks_takeFirstLine 89 = .ok (.iinc 3 1, 3) := by decide +kernel
theorem d_Asks_takeFirstLine_92 : decode c_Asks_takeFirstLine 92 = .ok (.goto (-76), 3) := by decide +kernel
theorem d_Asks_takeFirstLine_95 : decode c_Asks_takeFirstLine 95 = .ok (.aload_n 0, 1) := by decide +kernel
theorem d_Asks_takeFirstLine_96 : decode c_Asks_takeFirstLine 96 = .ok (.iload_n 2, 1) := by decide +kernel
theorem d_Asks_takeFirstLine_97 : decode c_Asks_takeFirstLine 97 = .ok (.putfield 29, 3) := by decide +kernel
theorem d_Asks_takeFirstLine_100 : decode c_Asks_takeFirstLine 100 = .ok (.iconst 0, 1) := by decide +kernel
theorem d_Asks_takeFirstLine_101 : decode c_Asks_takeFirstLine 101 = .ok (.istore_n 3, 1) := by decide +kernel
theorem d_Asks_takeFirstLine_102 : decode c_Asks_takeFirstLine 102 = .ok (.iload_n 3, 1) := by decide +kernel
theorem d_Asks_takeFirstLine_103 : decode c_Asks_takeFirstLine 103 = .ok (.iconst 1, 1) := by decide +kernel
theorem d_Asks_takeFirstLine_104 : decode c_Asks_takeFirstLine 104 = .ok (.iadd, 1) := by decide +kernel
theorem d_Asks_takeFirstLine_105 : decode c_Asks_takeFirstLine 105 = .ok (.aload_n 0, 1) := by decide +kernel
theorem d_Asks_takeFirstLine_106 : decode c_Asks_takeFirstLine 106 = .ok (.getfield 25, 3) := by decide +kernel
theorem d_Asks_takeFirstLine_109 : decode c_Asks_takeFirstLine 109 = .ok (.if_icmp .ge 23, 3) := by decide +kernel
theorem d_Asks_takeFirstLine_112 : decode c_Asks_takeFirstLine 112 = .ok (.aload_n 0, 1) := by decide +kernel
theorem d_Asks_takeFirstLine_113 : decode c_Asks_takeFirstLine 113 = .ok (.getfield 16, 3) := by decide +kernel
theorem d_Asks_takeFirstLine_116 : decode c_Asks_takeFirstLine 116 = .ok (.iload_n 3, 1) := by decide +kernel
theorem d_Asks_takeFirstLine_117 : decode c_Asks_takeFirstLine 117 = .ok (.aload_n 0, 1) := by decide +kernel
theorem d_Asks_takeFirstLine_118 : decode c_Asks_takeFirstLine 118 = .ok (.getfield 16, 3) := by decide +kernel
theorem d_Asks_takeFirstLine_121 : decode c_Asks_takeFirstLine 121 = .ok (.iload_n 3, 1) := by decide +kernel
theorem d_Asks_takeFirstLine_122 : decode c_Asks_takeFirstLine 122 = .ok (.iconst 1, 1) := by decide +kernel
theorem d_Asks_takeFirstLine_123 : decode c_Asks_takeFirstLine 123 = .ok (.iadd, 1) := by decide +kernel
theorem d_Asks_takeFirstLine_124 : decode c_Asks_takeFirstLine 124 = .ok (.iaload, 1) := by decide +kernel
theorem d_Asks_takeFirstLine_125 : decode c_Asks_takeFirstLine 125 = .ok (.iastore, 1) := by decide +kernel
theorem d_Asks_takeFirstLine_126 : decode c_Asks_takeFirstLine 126 = .ok (.iinc 3 1, 3) := by decide +kernel
theorem d_Asks_takeFirstLine_129 : decode c_Asks_takeFirstLine 129 = .ok (.goto (-27), 3) := by decide +kernel
theorem d_Asks_takeFirstLine_132 : decode c_Asks_takeFirstLine 132 = .ok (.aload_n 0, 1) := by decide +kernel
theorem d_Asks_takeFirstLine_133 : decode c_Asks_takeFirstLine 133 = .ok (.dup, 1) := by decide +kernel
theorem d_Asks_takeFirstLine_134 : decode c_Asks_takeFirstLine 134 = .ok (.getfield 25, 3) := by decide +kernel
theorem d_Asks_takeFirstLine_137 : decode c_Asks_takeFirstLine 137 = .ok (.iconst 1, 1) := by decide +kernel
theorem d_Asks_takeFirstLine_138 : decode c_Asks_takeFirstLine 138 = .ok (.isub, 1) := by decide +kernel
theorem d_Asks_takeFirstLine_139 : decode c_Asks_takeFirstLine 139 = .ok (.putfield 25, 3) := by decide +kernel
theorem d_Asks_takeFirstLine_142 : decode c_Asks_takeFirstLine 142 = .ok (.iload_n 1, 1) := by decide +kernel
theorem d_Asks_takeFirstLine_143 : decode c_Asks_takeFirstLine 143 = .ok (.ireturn, 1) := by decide +kernel
/-- z asks of lc lines wait -/
def AD (v : Nat → Int32) (z lc : Nat) : Prop := v 11 = nI z ∧ v 12 = nI lc ∧ z ≤ 16 ∧ lc ≤ 4
/-- the line waits -/
def wts (f : Nat → Nat → Int32) (lc : Nat) (x : Int32) : Bool := (fst1 (fun k => f 14 k == x) 0 lc).isSome
section AsksRows
variable {l : Launch} {G : EG} {a : Nat → Nat} {v : Nat → Int32} {f : Nat → Nat → Int32} {n V z lc : Nat} {wr : va_W}
set_option maxRecDepth 100000 in
theorem k_Asks_waits (h : AD v z lc) (x : Int32) : Con l G y_Asks_waits c_Asks_waits 3 (some .boolean) (rz 0 0) [.ref (a 11), .int x] (cF G a v f n V wr) (DI (bI (wts f lc x)) (cF G a v f n V wr)) := by
  refine Con.of rfl rfl (fun X C E hR hl hn => ?_)
  obtain ⟨h11, h12, hz, hlc⟩ := h
  refine e_iconst C d_Asks_waits_0 (v := 0) (by decide) ?_
  refine e_istore_n C d_Asks_waits_1 rfl ?_
  have L : ∀ m k : Nat, k + m = lc → fst1 (fun k => f 14 k == x) k m = fst1 (fun k => f 14 k == x) 0 lc → EW X G 3 0 0 2 [(0, .ref (a 11)), (1, .int x), (2, .int (nI k))] [] (cF G a v f n V wr) := by
    intro m
    induction m with
    | zero =>
      intro k hk hf
      refine e_iload_n C d_Asks_waits_2 rfl ?_
      refine e_aload_n C d_Asks_waits_3 rfl ?_
      refine e_get C 11 (k := 6) in_Asks g224 d_Asks_waits_4 rfl rfl rfl rfl ?_
      refine e_top h12 ?_
      refine e_icmp_ge C d_Asks_waits_7 (tgt := 28) (by decide) (fun h7 => ?_) (fun h7 => ?_)
      · skip
        refine e_iconst C d_Asks_waits_28 (v := 0) (by decide) ?_
        exact e_iret C E d_Asks_waits_29 (Nat.le_refl _) (Nat.le_refl _) rfl ⟨by simp only [wts]; rw [← hf]; rfl, rfl⟩
      · exact absurd (nI_le (by omega) (by omega)) h7
    | succ m ih =>
      intro k hk hf
      refine e_iload_n C d_Asks_waits_2 rfl ?_
      refine e_aload_n C d_Asks_waits_3 rfl ?_
      refine e_get C 11 (k := 6) in_Asks g224 d_Asks_waits_4 rfl rfl rfl rfl ?_
      refine e_top h12 ?_
      refine e_icmp_ge C d_Asks_waits_7 (tgt := 28) (by decide) (fun h7 => ?_) (fun h7 => ?_)
      · exact absurd h7 (nI_ge (by omega) (by omega))
      · skip
        refine e_aload_n C d_Asks_waits_10 rfl ?_
        refine e_get C 11 (k := 2) in_Asks g217 d_Asks_waits_11 rfl rfl rfl rfl ?_
        refine e_iload_n C d_Asks_waits_14 rfl ?_
        refine e_iald C 14 0 d_Asks_waits_15 rfl rfl k rfl (by omega) (by omega) ?_
        refine e_iload_n C d_Asks_waits_16 rfl ?_
        refine e_icmp_ne C d_Asks_waits_17 (tgt := 22) (by decide) (fun h17 => ?_) (fun h17 => ?_)
        · skip
          refine e_iinc C d_Asks_waits_22 rfl (nI_1 k) rfl ?_
          refine e_goto C d_Asks_waits_25 (tgt := 2) (by decide) ?_
          exact e_lv2 (ih (k + 1) (by omega) (by rw [← hf]; simp [fst1, h17])) rfl
        · skip
          refine e_iconst C d_Asks_waits_20 (v := 1) (by decide) ?_
          exact e_iret C E d_Asks_waits_21 (Nat.le_refl _) (Nat.le_refl _) rfl ⟨by simp only [wts]; rw [← hf]; simp [fst1, h17, bI], rfl⟩
  exact e_lv2 (L lc 0 (by omega) rfl) rfl
theorem bI_0 {b : Bool} : bI b = 0 ↔ b = false := by cases b <;> decide
theorem bI_n {b : Bool} : ¬ bI b = 0 ↔ b = true := by cases b <;> decide
/-- there is room for an ask of the line -/
def roomA (f : Nat → Nat → Int32) (z lc : Nat) (x : Int32) : Bool := decide (z < 16) && (decide (lc < 4) || wts f lc x)
set_option maxRecDepth 100000 in
theorem k_Asks_hasRoomFor (h : AD v z lc) (x : Int32) : Con l G y_Asks_hasRoomFor c_Asks_hasRoomFor 2 (some .boolean) (rz 1 22) [.ref (a 11), .int x] (cF G a v f n V wr) (DI (bI (roomA f z lc x)) (cF G a v f n V wr)) := by
  refine Con.of rfl rfl (fun X C E hR hl hn => ?_)
  have h0 := h
  obtain ⟨h11, h12, hz, hlc⟩ := h
  refine e_aload_n C d_Asks_hasRoomFor_0 rfl ?_
  refine e_get C 11 (k := 5) in_Asks g222 d_Asks_hasRoomFor_1 rfl rfl rfl rfl ?_
  refine e_top h11 ?_
  refine e_bipush C d_Asks_hasRoomFor_4 (v := nI 16) (by decide) ?_
  refine e_icmp_ge C d_Asks_hasRoomFor_6 (tgt := 29) (by decide) (fun h6 => ?_) (fun h6 => ?_)
  · rw [nI_leI (by omega) (by omega)] at h6
    refine e_iconst C d_Asks_hasRoomFor_29 (v := 0) (by decide) ?_
    exact e_iret C E d_Asks_hasRoomFor_30 (Nat.le_refl _) (Nat.le_refl _) rfl ⟨by simp [roomA, bI, show ¬ z < 16 by omega], rfl⟩
  · rw [nI_leI (by omega) (by omega)] at h6
    refine e_aload_n C d_Asks_hasRoomFor_9 rfl ?_
    refine e_get C 11 (k := 6) in_Asks g224 d_Asks_hasRoomFor_10 rfl rfl rfl rfl ?_
    refine e_top h12 ?_
    refine e_iconst C d_Asks_hasRoomFor_13 (v := nI 4) (by decide) ?_
    refine e_icmp_lt C d_Asks_hasRoomFor_14 (tgt := 25) (by decide) (fun h14 => ?_) (fun h14 => ?_)
    · rw [nI_ltI (by omega) (by omega)] at h14
      refine e_iconst C d_Asks_hasRoomFor_25 (v := 1) (by decide) ?_
      refine e_goto C d_Asks_hasRoomFor_26 (tgt := 30) (by decide) ?_
      exact e_iret C E d_Asks_hasRoomFor_30 (Nat.le_refl _) (Nat.le_refl _) rfl ⟨by simp [roomA, bI, show z < 16 by omega, h14], rfl⟩
    · rw [nI_ltI (by omega) (by omega)] at h14
      refine e_aload_n C d_Asks_hasRoomFor_17 rfl ?_
      refine e_iload_n C d_Asks_hasRoomFor_18 rfl ?_
      refine e_cVi C hR 11 (k_Asks_waits h0 x) g625 g12 g622 g623 g624 d_Asks_hasRoomFor_19 rfl ey_Asks_waits rfl rfl rfl rfl ⟨Nat.zero_le _, Nat.zero_le _⟩ ?_
      refine e_if_eq C d_Asks_hasRoomFor_22 (tgt := 29) (by decide) (fun h22 => ?_) (fun h22 => ?_)
      · rw [bI_0] at h22
        refine e_iconst C d_Asks_hasRoomFor_29 (v := 0) (by decide) ?_
        exact e_iret C E d_Asks_hasRoomFor_30 (Nat.le_refl _) (Nat.le_refl _) rfl ⟨by simp [roomA, bI, h22, h14], rfl⟩
      · rw [bI_n] at h22
        refine e_iconst C d_Asks_hasRoomFor_25 (v := 1) (by decide) ?_
        refine e_goto C d_Asks_hasRoomFor_26 (tgt := 30) (by decide) ?_
        exact e_iret C E d_Asks_hasRoomFor_30 (Nat.le_refl _) (Nat.le_refl _) rfl ⟨by simp [roomA, bI, show z < 16 by omega, h22], rfl⟩
/-- an ask added -/
def adF (f : Nat → Nat → Int32) (z lc : Nat) (x p : Int32) : Nat → Nat → Int32 := up2 (up2 (if wts f lc x then f else up2 f 14 (upd (f 14) lc x)) 12 (upd (f 12) z x)) 13 (upd (f 13) z p)
def adV (v : Nat → Int32) (f : Nat → Nat → Int32) (z lc : Nat) (x : Int32) : Nat → Int32 := upd (if wts f lc x then v else upd v 12 (nI (lc + 1))) 11 (nI (z + 1))
set_option maxRecDepth 100000 in
theorem k_Asks_add (h : AD v z lc) (x p : Int32) (hr : roomA f z lc x = true) : Con l G y_Asks_add c_Asks_add 4 (some .boolean) (rz 1 22) [.ref (a 11), .int x, .int p] (cF G a v f n V wr) (DI (bI (!wts f lc x)) (cF G a (adV v f z lc x) (adF f z lc x p) n V wr)) := by
  refine Con.of rfl rfl (fun X C E hR hl hn => ?_)
  have h0 := h
  obtain ⟨h11, h12, hz, hlc⟩ := h
  have hz16 : z < 16 := by
    simp [roomA] at hr
    exact hr.1
  refine e_aload_n C d_Asks_add_0 rfl ?_
  refine e_iload_n C d_Asks_add_1 rfl ?_
  refine e_cVi C hR 11 (k_Asks_waits h0 x) g625 g12 g622 g623 g624 d_Asks_add_2 rfl ey_Asks_waits rfl rfl rfl rfl ⟨Nat.zero_le _, Nat.zero_le _⟩ ?_
  refine e_if_ne C d_Asks_add_5 (tgt := 12) (by decide) (fun h5 => ?_) (fun h5 => ?_)
  · rw [bI_n] at h5
    rw [h5] at E
    have e1 : adV v f z lc x = upd v 11 (nI (z + 1)) := by simp [adV, h5]
    have e2 : adF f z lc x p = up2 (up2 f 12 (upd (f 12) z x)) 13 (upd (f 13) z p) := by simp [adF, h5]
    rw [e1, e2] at E
    refine e_iconst C d_Asks_add_12 (v := 0) (by decide) ?_
    refine e_istore_n C d_Asks_add_13 rfl ?_
    refine e_iload_n C d_Asks_add_14 rfl ?_
    refine e_if_eq C d_Asks_add_15 (tgt := 38) (by decide) (fun h15 => ?_) (fun h15 => ?_)
    · skip
      refine e_aload_n C d_Asks_add_38 rfl ?_
      refine e_get C 11 (k := 0) in_Asks g215 d_Asks_add_39 rfl rfl rfl rfl ?_
      refine e_aload_n C d_Asks_add_42 rfl ?_
      refine e_get C 11 (k := 5) in_Asks g222 d_Asks_add_43 rfl rfl rfl rfl ?_
      refine e_iload_n C d_Asks_add_46 rfl ?_
      refine e_iast C 12 0 d_Asks_add_47 rfl rfl z h11 (by omega) (by omega) ?_
      refine e_aload_n C d_Asks_add_48 rfl ?_
      refine e_get C 11 (k := 1) in_Asks g216 d_Asks_add_49 rfl rfl rfl rfl ?_
      refine e_aload_n C d_Asks_add_52 rfl ?_
      refine e_get C 11 (k := 5) in_Asks g222 d_Asks_add_53 rfl rfl rfl rfl ?_
      refine e_iload_n C d_Asks_add_56 rfl ?_
      refine e_iast C 13 0 d_Asks_add_57 rfl rfl z h11 (by omega) (by omega) ?_
      refine e_aload_n C d_Asks_add_58 rfl ?_
      refine e_dup C d_Asks_add_59 rfl ?_
      refine e_get C 11 (k := 5) in_Asks g222 d_Asks_add_60 rfl rfl rfl rfl ?_
      refine e_iconst C d_Asks_add_63 (v := 1) (by decide) ?_
      refine e_iadd C d_Asks_add_64 ?_
      refine e_top (y := nI (z + 1)) (by rw [h11]; exact nI_1 z) ?_
      refine e_put C 11 (k := 5) in_Asks tk_Asks nm_Asks g222 d_Asks_add_65 rfl rfl rfl rfl rfl rfl rfl rfl ?_
      refine e_iload_n C d_Asks_add_68 rfl ?_
      exact e_iret C E d_Asks_add_69 (Nat.le_refl _) (Nat.le_refl _) rfl ⟨rfl, rfl⟩
    · exact absurd rfl h15
  · rw [bI_0] at h5
    rw [h5] at E
    have hlc4 : lc < 4 := by
      simp [roomA, h5] at hr
      exact hr.2
    have e1 : adV v f z lc x = upd (upd v 12 (nI (lc + 1))) 11 (nI (z + 1)) := by simp [adV, h5]
    have e2 : adF f z lc x p = up2 (up2 (up2 f 14 (upd (f 14) lc x)) 12 (upd (f 12) z x)) 13 (upd (f 13) z p) := by simp [adF, h5]
    rw [e1, e2] at E
    refine e_iconst C d_Asks_add_8 (v := 1) (by decide) ?_
    refine e_goto C d_Asks_add_9 (tgt := 13) (by decide) ?_
    refine e_istore_n C d_Asks_add_13 rfl ?_
    refine e_iload_n C d_Asks_add_14 rfl ?_
    refine e_if_eq C d_Asks_add_15 (tgt := 38) (by decide) (fun h15 => ?_) (fun h15 => ?_)
    · exact absurd h15 (by decide)
    · skip
      refine e_aload_n C d_Asks_add_18 rfl ?_
      refine e_get C 11 (k := 2) in_Asks g217 d_Asks_add_19 rfl rfl rfl rfl ?_
      refine e_aload_n C d_Asks_add_22 rfl ?_
      refine e_get C 11 (k := 6) in_Asks g224 d_Asks_add_23 rfl rfl rfl rfl ?_
      refine e_iload_n C d_Asks_add_26 rfl ?_
      refine e_iast C 14 0 d_Asks_add_27 rfl rfl lc h12 (by omega) (by omega) ?_
      refine e_aload_n C d_Asks_add_28 rfl ?_
      refine e_dup C d_Asks_add_29 rfl ?_
      refine e_get C 11 (k := 6) in_Asks g224 d_Asks_add_30 rfl rfl rfl rfl ?_
      refine e_iconst C d_Asks_add_33 (v := 1) (by decide) ?_
      refine e_iadd C d_Asks_add_34 ?_
      refine e_top (y := nI (lc + 1)) (by rw [h12]; exact nI_1 lc) ?_
      refine e_put C 11 (k := 6) in_Asks tk_Asks nm_Asks g224 d_Asks_add_35 rfl rfl rfl rfl rfl rfl rfl rfl ?_
      refine e_aload_n C d_Asks_add_38 rfl ?_
      refine e_get C 11 (k := 0) in_Asks g215 d_Asks_add_39 rfl rfl rfl rfl ?_
      refine e_aload_n C d_Asks_add_42 rfl ?_
      refine e_get C 11 (k := 5) in_Asks g222 d_Asks_add_43 rfl rfl rfl rfl ?_
      refine e_iload_n C d_Asks_add_46 rfl ?_
      refine e_iast C 12 0 d_Asks_add_47 rfl rfl z h11 (by omega) (by omega) ?_
      refine e_aload_n C d_Asks_add_48 rfl ?_
      refine e_get C 11 (k := 1) in_Asks g216 d_Asks_add_49 rfl rfl rfl rfl ?_
      refine e_aload_n C d_Asks_add_52 rfl ?_
      refine e_get C 11 (k := 5) in_Asks g222 d_Asks_add_53 rfl rfl rfl rfl ?_
      refine e_iload_n C d_Asks_add_56 rfl ?_
      refine e_iast C 13 0 d_Asks_add_57 rfl rfl z h11 (by omega) (by omega) ?_
      refine e_aload_n C d_Asks_add_58 rfl ?_
      refine e_dup C d_Asks_add_59 rfl ?_
      refine e_get C 11 (k := 5) in_Asks g222 d_Asks_add_60 rfl rfl rfl rfl ?_
      refine e_iconst C d_Asks_add_63 (v := 1) (by decide) ?_
      refine e_iadd C d_Asks_add_64 ?_
      refine e_top (y := nI (z + 1)) (by rw [h11]; exact nI_1 z) ?_
      refine e_put C 11 (k := 5) in_Asks tk_Asks nm_Asks g222 d_Asks_add_65 rfl rfl rfl rfl rfl rfl rfl rfl ?_
      refine e_iload_n C d_Asks_add_68 rfl ?_
      exact e_iret C E d_Asks_add_69 (Nat.le_refl _) (Nat.le_refl _) rfl ⟨rfl, rfl⟩
/-- the asks of line x taken out, from the first k: lines, parts, parts done, how many stay, how many are done -/
def tk (x : Int32) (p q r : Nat → Int32) : Nat → (Nat → Int32) × (Nat → Int32) × (Nat → Int32) × Nat × Nat
  | 0 => (p, q, r, 0, 0)
  | k + 1 => if (tk x p q r k).1 k = x then ((tk x p q r k).1, (tk x p q r k).2.1, upd (tk x p q r k).2.2.1 (tk x p q r k).2.2.2.2 ((tk x p q r k).2.1 k), (tk x p q r k).2.2.2.1, (tk x p q r k).2.2.2.2 + 1)
    else (upd (tk x p q r k).1 (tk x p q r k).2.2.2.1 ((tk x p q r k).1 k), upd (tk x p q r k).2.1 (tk x p q r k).2.2.2.1 ((tk x p q r k).2.1 k), (tk x p q r k).2.2.1, (tk x p q r k).2.2.2.1 + 1, (tk x p q r k).2.2.2.2)
theorem tk_le (x : Int32) (p q r : Nat → Int32) : ∀ k, (tk x p q r k).2.2.2.1 + (tk x p q r k).2.2.2.2 = k
  | 0 => rfl
  | k + 1 => by
    have := tk_le x p q r k
    unfold tk
    split <;> dsimp only <;> omega
def tkF (f : Nat → Nat → Int32) (t : (Nat → Int32) × (Nat → Int32) × (Nat → Int32) × Nat × Nat) : Nat → Nat → Int32 := up2 (up2 (up2 f 12 t.1) 13 t.2.1) 15 t.2.2.1
set_option maxRecDepth 100000 in
theorem k_Asks_takeFirstLine (h : AD v z lc) (hlc1 : 1 ≤ lc) : Con l G y_Asks_takeFirstLine c_Asks_takeFirstLine 4 (some .int) (rz 0 0) [.ref (a 11)] (cF G a v f n V wr) (DI (f 14 0) (cF G a (upd (upd (upd v 13 (nI (tk (f 14 0) (f 12) (f 13) (f 15) z).2.2.2.2)) 11 (nI (tk (f 14 0) (f 12) (f 13) (f 15) z).2.2.2.1)) 12 (nI (lc - 1))) (up2 (tkF f (tk (f 14 0) (f 12) (f 13) (f 15) z)) 14 (shf (f 14) 0 (lc - 1))) n V wr)) := by
  refine Con.of rfl rfl (fun X C E hR hl hn => ?_)
  obtain ⟨h11, h12, hz, hlc⟩ := h
  refine e_aload_n C d_Asks_takeFirstLine_0 rfl ?_
  refine e_get C 11 (k := 2) in_Asks g217 d_Asks_takeFirstLine_1 rfl rfl rfl rfl ?_
  refine e_iconst C d_Asks_takeFirstLine_4 (v := 0) (by decide) ?_
  refine e_iald C 14 0 d_Asks_takeFirstLine_5 rfl rfl 0 rfl (by omega) (by omega) ?_
  refine e_istore_n C d_Asks_takeFirstLine_6 rfl ?_
  refine e_iconst C d_Asks_takeFirstLine_7 (v := 0) (by decide) ?_
  refine e_istore_n C d_Asks_takeFirstLine_8 rfl ?_
  refine e_aload_n C d_Asks_takeFirstLine_9 rfl ?_
  refine e_iconst C d_Asks_takeFirstLine_10 (v := 0) (by decide) ?_
  refine e_put C 11 (k := 7) in_Asks tk_Asks nm_Asks g226 d_Asks_takeFirstLine_11 rfl rfl rfl rfl rfl rfl rfl rfl ?_
  refine e_iconst C d_Asks_takeFirstLine_14 (v := 0) (by decide) ?_
  refine e_istore_n C d_Asks_takeFirstLine_15 rfl ?_
  generalize hx : f 14 0 = x at E ⊢
  have L : ∀ m k : Nat, k + m = z → EW X G 4 0 0 16 [(0, .ref (a 11)), (1, .int x), (2, .int (nI (tk x (f 12) (f 13) (f 15) k).2.2.2.1)), (3, .int (nI k))] [] (cF G a (upd v 13 (nI (tk x (f 12) (f 13) (f 15) k).2.2.2.2)) (tkF f (tk x (f 12) (f 13) (f 15) k)) n V wr) := by
    intro m
    induction m with
    | zero =>
      intro k hk
      obtain rfl : k = z := by omega
      generalize ht : tk x (f 12) (f 13) (f 15) k = t at E ⊢
      refine e_iload_n C d_Asks_takeFirstLine_16 rfl ?_
      refine e_aload_n C d_Asks_takeFirstLine_17 rfl ?_
      refine e_get C 11 (k := 5) in_Asks g222 d_Asks_takeFirstLine_18 rfl rfl rfl rfl ?_
      refine e_top h11 ?_
      refine e_icmp_ge C d_Asks_takeFirstLine_21 (tgt := 95) (by decide) (fun h21 => ?_) (fun h21 => ?_)
      · skip
        refine e_aload_n C d_Asks_takeFirstLine_95 rfl ?_
        refine e_iload_n C d_Asks_takeFirstLine_96 rfl ?_
        refine e_put C 11 (k := 5) in_Asks tk_Asks nm_Asks g222 d_Asks_takeFirstLine_97 rfl rfl rfl rfl rfl rfl rfl rfl ?_
        refine e_iconst C d_Asks_takeFirstLine_100 (v := 0) (by decide) ?_
        refine e_istore_n C d_Asks_takeFirstLine_101 rfl ?_
        have L2 : ∀ m j : Nat, j + m = lc - 1 → EW X G 4 0 0 102 [(0, .ref (a 11)), (1, .int x), (3, .int (nI j))] [] (cF G a (upd (upd v 13 (nI t.2.2.2.2)) 11 (nI t.2.2.2.1)) (up2 (tkF f t) 14 (shf (f 14) 0 j)) n V wr) := by
          intro m
          induction m with
          | zero =>
            intro j hj
            obtain rfl : j = lc - 1 := by omega
            refine e_iload_n C d_Asks_takeFirstLine_102 rfl ?_
            refine e_iconst C d_Asks_takeFirstLine_103 (v := 1) (by decide) ?_
            refine e_iadd C d_Asks_takeFirstLine_104 ?_
            refine e_top (y := nI (lc - 1 + 1)) (nI_1 _) ?_
            refine e_aload_n C d_Asks_takeFirstLine_105 rfl ?_
            refine e_get C 11 (k := 6) in_Asks g224 d_Asks_takeFirstLine_106 rfl rfl rfl rfl ?_
            refine e_top h12 ?_
            refine e_icmp_ge C d_Asks_takeFirstLine_109 (tgt := 132) (by decide) (fun h109 => ?_) (fun h109 => ?_)
            · skip
              refine e_aload_n C d_Asks_takeFirstLine_132 rfl ?_
              refine e_dup C d_Asks_takeFirstLine_133 rfl ?_
              refine e_get C 11 (k := 6) in_Asks g224 d_Asks_takeFirstLine_134 rfl rfl rfl rfl ?_
              refine e_iconst C d_Asks_takeFirstLine_137 (v := 1) (by decide) ?_
              refine e_isub C d_Asks_takeFirstLine_138 ?_
              refine e_top (y := nI (lc - 1)) (by show v 12 - 1 = _; rw [show v 12 = nI (lc - 1 + 1) by rw [h12, show lc - 1 + 1 = lc by omega]]; exact nI_pred _) ?_
              refine e_put C 11 (k := 6) in_Asks tk_Asks nm_Asks g224 d_Asks_takeFirstLine_139 rfl rfl rfl rfl rfl rfl rfl rfl ?_
              refine e_iload_n C d_Asks_takeFirstLine_142 rfl ?_
              exact e_iret C E d_Asks_takeFirstLine_143 (Nat.le_refl _) (Nat.le_refl _) rfl ⟨rfl, rfl⟩
            · exact absurd (nI_le (by omega) (by omega)) h109
          | succ m ih2 =>
            intro j hj
            refine e_iload_n C d_Asks_takeFirstLine_102 rfl ?_
            refine e_iconst C d_Asks_takeFirstLine_103 (v := 1) (by decide) ?_
            refine e_iadd C d_Asks_takeFirstLine_104 ?_
            refine e_top (y := nI (j + 1)) (nI_1 _) ?_
            refine e_aload_n C d_Asks_takeFirstLine_105 rfl ?_
            refine e_get C 11 (k := 6) in_Asks g224 d_Asks_takeFirstLine_106 rfl rfl rfl rfl ?_
            refine e_top h12 ?_
            refine e_icmp_ge C d_Asks_takeFirstLine_109 (tgt := 132) (by decide) (fun h109 => ?_) (fun h109 => ?_)
            · exact absurd h109 (nI_ge (by omega) (by omega))
            · skip
              refine e_aload_n C d_Asks_takeFirstLine_112 rfl ?_
              refine e_get C 11 (k := 2) in_Asks g217 d_Asks_takeFirstLine_113 rfl rfl rfl rfl ?_
              refine e_iload_n C d_Asks_takeFirstLine_116 rfl ?_
              refine e_aload_n C d_Asks_takeFirstLine_117 rfl ?_
              refine e_get C 11 (k := 2) in_Asks g217 d_Asks_takeFirstLine_118 rfl rfl rfl rfl ?_
              refine e_iload_n C d_Asks_takeFirstLine_121 rfl ?_
              refine e_iconst C d_Asks_takeFirstLine_122 (v := 1) (by decide) ?_
              refine e_iadd C d_Asks_takeFirstLine_123 ?_
              refine e_iald C 14 0 d_Asks_takeFirstLine_124 rfl rfl (j + 1) (nI_1 j) (by omega) (by omega) ?_
              refine e_iast C 14 0 d_Asks_takeFirstLine_125 rfl rfl j rfl (by omega) (by omega) ?_
              refine e_eq (ws' := cF G a (upd (upd v 13 (nI t.2.2.2.2)) 11 (nI t.2.2.2.1)) (up2 (tkF f t) 14 (shf (f 14) 0 (j + 1))) n V wr) (by simp only [shf_s (Nat.zero_le j)]; rfl) ?_
              refine e_iinc C d_Asks_takeFirstLine_126 rfl (nI_1 j) rfl ?_
              refine e_goto C d_Asks_takeFirstLine_129 (tgt := 102) (by decide) ?_
              exact e_lv2 (ih2 (j + 1) (by omega)) rfl
        refine e_eq (ws' := cF G a (upd (upd v 13 (nI t.2.2.2.2)) 11 (nI t.2.2.2.1)) (up2 (tkF f t) 14 (shf (f 14) 0 0)) n V wr) (by simp only [shf_0]; rfl) ?_
        exact e_lv2 (L2 (lc - 1) 0 (by omega)) rfl
      · exact absurd (nI_le (by omega) (by omega)) h21
    | succ m ih =>
      intro k hk
      have hle := tk_le x (f 12) (f 13) (f 15) k
      refine e_iload_n C d_Asks_takeFirstLine_16 rfl ?_
      refine e_aload_n C d_Asks_takeFirstLine_17 rfl ?_
      refine e_get C 11 (k := 5) in_Asks g222 d_Asks_takeFirstLine_18 rfl rfl rfl rfl ?_
      refine e_top h11 ?_
      refine e_icmp_ge C d_Asks_takeFirstLine_21 (tgt := 95) (by decide) (fun h21 => ?_) (fun h21 => ?_)
      · exact absurd h21 (nI_ge (by omega) (by omega))
      · skip
        refine e_aload_n C d_Asks_takeFirstLine_24 rfl ?_
        refine e_get C 11 (k := 0) in_Asks g215 d_Asks_takeFirstLine_25 rfl rfl rfl rfl ?_
        refine e_iload_n C d_Asks_takeFirstLine_28 rfl ?_
        refine e_iald C 12 0 d_Asks_takeFirstLine_29 rfl rfl k rfl (by omega) (by omega) ?_
        refine e_iload_n C d_Asks_takeFirstLine_30 rfl ?_
        refine e_icmp_ne C d_Asks_takeFirstLine_31 (tgt := 62) (by decide) (fun h31 => ?_) (fun h31 => ?_)
        · have hs : tk x (f 12) (f 13) (f 15) (k + 1) = (upd (tk x (f 12) (f 13) (f 15) k).1 (tk x (f 12) (f 13) (f 15) k).2.2.2.1 ((tk x (f 12) (f 13) (f 15) k).1 k), upd (tk x (f 12) (f 13) (f 15) k).2.1 (tk x (f 12) (f 13) (f 15) k).2.2.2.1 ((tk x (f 12) (f 13) (f 15) k).2.1 k), (tk x (f 12) (f 13) (f 15) k).2.2.1, (tk x (f 12) (f 13) (f 15) k).2.2.2.1 + 1, (tk x (f 12) (f 13) (f 15) k).2.2.2.2) := by
            have h31 : ¬ (tk x (f 12) (f 13) (f 15) k).1 k = x := h31
            simp only [tk, if_neg h31]
          have ih := ih (k + 1) (by omega)
          rw [hs] at ih
          refine e_aload_n C d_Asks_takeFirstLine_62 rfl ?_
          refine e_get C 11 (k := 0) in_Asks g215 d_Asks_takeFirstLine_63 rfl rfl rfl rfl ?_
          refine e_iload_n C d_Asks_takeFirstLine_66 rfl ?_
          refine e_aload_n C d_Asks_takeFirstLine_67 rfl ?_
          refine e_get C 11 (k := 0) in_Asks g215 d_Asks_takeFirstLine_68 rfl rfl rfl rfl ?_
          refine e_iload_n C d_Asks_takeFirstLine_71 rfl ?_
          refine e_iald C 12 0 d_Asks_takeFirstLine_72 rfl rfl k rfl (by omega) (by omega) ?_
          refine e_iast C 12 0 d_Asks_takeFirstLine_73 rfl rfl _ rfl (by omega) (by omega) ?_
          refine e_aload_n C d_Asks_takeFirstLine_74 rfl ?_
          refine e_get C 11 (k := 1) in_Asks g216 d_Asks_takeFirstLine_75 rfl rfl rfl rfl ?_
          refine e_iload_n C d_Asks_takeFirstLine_78 rfl ?_
          refine e_aload_n C d_Asks_takeFirstLine_79 rfl ?_
          refine e_get C 11 (k := 1) in_Asks g216 d_Asks_takeFirstLine_80 rfl rfl rfl rfl ?_
          refine e_iload_n C d_Asks_takeFirstLine_83 rfl ?_
          refine e_iald C 13 0 d_Asks_takeFirstLine_84 rfl rfl k rfl (by omega) (by omega) ?_
          refine e_iast C 13 0 d_Asks_takeFirstLine_85 rfl rfl _ rfl (by omega) (by omega) ?_
          refine e_iinc C d_Asks_takeFirstLine_86 rfl (nI_1 _) rfl ?_
          refine e_iinc C d_Asks_takeFirstLine_89 rfl (nI_1 k) rfl ?_
          refine e_goto C d_Asks_takeFirstLine_92 (tgt := 16) (by decide) ?_
          exact e_lv2 ih rfl
        · have hs : tk x (f 12) (f 13) (f 15) (k + 1) = ((tk x (f 12) (f 13) (f 15) k).1, (tk x (f 12) (f 13) (f 15) k).2.1, upd (tk x (f 12) (f 13) (f 15) k).2.2.1 (tk x (f 12) (f 13) (f 15) k).2.2.2.2 ((tk x (f 12) (f 13) (f 15) k).2.1 k), (tk x (f 12) (f 13) (f 15) k).2.2.2.1, (tk x (f 12) (f 13) (f 15) k).2.2.2.2 + 1) := by
            have h31 : (tk x (f 12) (f 13) (f 15) k).1 k = x := h31
            simp only [tk, if_pos h31]
          have ih := ih (k + 1) (by omega)
          rw [hs] at ih
          refine e_aload_n C d_Asks_takeFirstLine_34 rfl ?_
          refine e_get C 11 (k := 3) in_Asks g218 d_Asks_takeFirstLine_35 rfl rfl rfl rfl ?_
          refine e_aload_n C d_Asks_takeFirstLine_38 rfl ?_
          refine e_get C 11 (k := 7) in_Asks g226 d_Asks_takeFirstLine_39 rfl rfl rfl rfl ?_
          refine e_aload_n C d_Asks_takeFirstLine_42 rfl ?_
          refine e_get C 11 (k := 1) in_Asks g216 d_Asks_takeFirstLine_43 rfl rfl rfl rfl ?_
          refine e_iload_n C d_Asks_takeFirstLine_46 rfl ?_
          refine e_iald C 13 0 d_Asks_takeFirstLine_47 rfl rfl k rfl (by omega) (by omega) ?_
          refine e_iast C 15 0 d_Asks_takeFirstLine_48 rfl rfl _ rfl (by omega) (by omega) ?_
          refine e_aload_n C d_Asks_takeFirstLine_49 rfl ?_
          refine e_dup C d_Asks_takeFirstLine_50 rfl ?_
          refine e_get C 11 (k := 7) in_Asks g226 d_Asks_takeFirstLine_51 rfl rfl rfl rfl ?_
          refine e_iconst C d_Asks_takeFirstLine_54 (v := 1) (by decide) ?_
          refine e_iadd C d_Asks_takeFirstLine_55 ?_
          refine e_top (nI_1 _) ?_
          refine e_put C 11 (k := 7) in_Asks tk_Asks nm_Asks g226 d_Asks_takeFirstLine_56 rfl rfl rfl rfl rfl rfl rfl rfl ?_
          refine e_goto C d_Asks_takeFirstLine_59 (tgt := 89) (by decide) ?_
          refine e_iinc C d_Asks_takeFirstLine_89 rfl (nI_1 k) rfl ?_
          refine e_goto C d_Asks_takeFirstLine_92 (tgt := 16) (by decide) ?_
          exact e_lv2 ih rfl
  exact e_lv2 (L z 0 (by omega)) rfl
end AsksRows
