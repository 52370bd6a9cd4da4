/-! RULES 0, 1, 2, 4, 9 -/
theorem ey_Time_use : eY y_Time_use 2 = true := by decide +kernel
theorem d_Time_use_0 : decode c_Time_use 0 = .ok (.iload_n 1, 1) := by decide +kernel
theorem d_Time_use_1 : decode c_Time_use 1 = .ok (.aload_n 0, 1) := by decide +kernel
theorem d_Time_use_2 : decode c_Time_use 2 = .ok (.getfield 25, 3) := by decide +kernel
theorem d_Time_use_5 : decode c_Time_use 5 = .ok (.imul, 1) := by decide +kernel
theorem d_Time_use_6 : decode c_Time_use 6 = .ok (.iload_n 2, 1) := by decide +kernel
theorem d_Time_use_7 : decode c_Time_use 7 = .ok (.iadd, 1) := by decide +kernel
theorem d_Time_use_8 : decode c_Time_use 8 = .ok (.istore_n 3, 1) := by decide +kernel
theorem d_Time_use_9 : decode c_Time_use 9 = .ok (.aload_n 0, 1) := by decide +kernel
theorem d_Time_use_10 : decode c_Time_use 10 = .ok (.dup, 1) := by decide +kernel
theorem d_Time_use_11 : decode c_Time_use 11 = .ok (.getfield 28, 3) := by decide +kernel
theorem d_Time_use_14 : decode c_Time_use 14 = .ok (.iconst 1, 1) := by decide +kernel
theorem d_Time_use_15 : decode c_Time_use 15 = .ok (.iadd, 1) := by decide +kernel
theorem d_Time_use_16 : decode c_Time_use 16 = .ok (.putfield 28, 3) := by decide +kernel
theorem d_Time_use_19 : decode c_Time_use 19 = .ok (.aload_n 0, 1) := by decide +kernel
theorem d_Time_use_20 : decode c_Time_use 20 = .ok (.getfield 15, 3) := by decide +kernel
theorem d_Time_use_23 : decode c_Time_use 23 = .ok (.iload_n 3, 1) := by decide +kernel
theorem d_Time_use_24 : decode c_Time_use 24 = .ok (.aload_n 0, 1) := by decide +kernel
theorem d_Time_use_25 : decode c_Time_use 25 = .ok (.getfield 28, 3) := by decide +kernel
theorem d_Time_use_28 : decode c_Time_use 28 = .ok (.iastore, 1) := by decide +kernel
theorem d_Time_use_29 : decode c_Time_use 29 = .ok (.aload_n 0, 1) := by decide +kernel
theorem d_Time_use_30 : decode c_Time_use 30 = .ok (.getfield 22, 3) := by decide +kernel
theorem d_Time_use_33 : decode c_Time_use 33 = .ok (.iload_n 3, 1) := by decide +kernel
theorem d_Time_use_34 : decode c_Time_use 34 = .ok (.dup2, 1) := by decide +kernel
theorem d_Time_use_35 : decode c_Time_use 35 = .ok (.iaload, 1) := by decide +kernel
theorem d_Time_use_36 : decode c_Time_use 36 = .ok (.iconst 1, 1) := by decide +kernel
theorem d_Time_use_37 : decode c_Time_use 37 = .ok (.iadd, 1) := by decide +kernel
theorem d_Time_use_38 : decode c_Time_use 38 = .ok (.iastore, 1) := by decide +kernel
theorem d_Time_use_39 : decode c_Time_use 39 = .ok (.return_, 1) := by decide +kernel
theorem ey_Time_come : eY y_Time_come 2 = true := by decide +kernel
theorem d_Time_come_0 : decode c_Time_come 0 = .ok (.iload_n 1, 1) := by decide +kernel
theorem d_Time_come_1 : decode c_Time_come 1 = .ok (.aload_n 0, 1) := by decide +kernel
theorem d_Time_come_2 : decode c_Time_come 2 = .ok (.getfield 25, 3) := by decide +kernel
theorem d_Time_come_5 : decode c_Time_come 5 = .ok (.imul, 1) := by decide +kernel
theorem d_Time_come_6 : decode c_Time_come 6 = .ok (.iload_n 2, 1) := by decide +kernel
theorem d_Time_come_7 : decode c_Time_come 7 = .ok (.iadd, 1) := by decide +kernel
theorem d_Time_come_8 : decode c_Time_come 8 = .ok (.istore_n 3, 1) := by decide +kernel
theorem d_Time_come_9 : decode c_Time_come 9 = .ok (.aload_n 0, 1) := by decide +kernel
theorem d_Time_come_10 : decode c_Time_come 10 = .ok (.dup, 1) := by decide +kernel
theorem d_Time_come_11 : decode c_Time_come 11 = .ok (.getfield 28, 3) := by decide +kernel
theorem d_Time_come_14 : decode c_Time_come 14 = .ok (.iconst 1, 1) := by decide +kernel
theorem d_Time_come_15 : decode c_Time_come 15 = .ok (.iadd, 1) := by decide +kernel
theorem d_Time_come_16 : decode c_Time_come 16 = .ok (.putfield 28, 3) := by decide +kernel
theorem d_Time_come_19 : decode c_Time_come 19 = .ok (.aload_n 0, 1) := by decide +kernel
theorem d_Time_come_20 : decode c_Time_come 20 = .ok (.dup, 1) := by decide +kernel
theorem d_Time_come_21 : decode c_Time_come 21 = .ok (.getfield 31, 3) := by decide +kernel
theorem d_Time_come_24 : decode c_Time_come 24 = .ok (.iconst 1, 1) := by decide +kernel
theorem d_Time_come_25 : decode c_Time_come 25 = .ok (.isub, 1) := by decide +kernel
theorem d_Time_come_26 : decode c_Time_come 26 = .ok (.putfield 31, 3) := by decide +kernel
theorem d_Time_come_29 : decode c_Time_come 29 = .ok (.aload_n 0, 1) := by decide +kernel
theorem d_Time_come_30 : decode c_Time_come 30 = .ok (.getfield 15, 3) := by decide +kernel
theorem d_Time_come_33 : decode c_Time_come 33 = .ok (.iload_n 3, 1) := by decide +kernel
theorem d_Time_come_34 : decode c_Time_come 34 = .ok (.aload_n 0, 1) := by decide +kernel
theorem d_Time_come_35 : decode c_Time_come 35 = .ok (.getfield 9, 3) := by decide +kernel
theorem d_Time_come_38 : decode c_Time_come 38 = .ok (.bipush 9, 2) := by decide +kernel
theorem d_Time_come_40 : decode c_Time_come 40 = .ok (.if_icmp .ne 10, 3) := by decide +kernel
theorem d_Time_come_43 : decode c_Time_come 43 = .ok (.aload_n 0, 1) := by decide +kernel
theorem d_Time_come_44 : decode c_Time_come 44 = .ok (.getfield 31, 3) := by decide +kernel
theorem d_Time_come_47 : decode c_Time_come 47 = .ok (.goto 7, 3) := by decide +kernel
theorem d_Time_come_50 : decode c_Time_come 50 = .ok (.aload_n 0, 1) := by decide +kernel
theorem d_Time_come_51 : decode c_Time_come 51 = .ok (.getfield 28, 3) := by decide +kernel
theorem d_Time_come_54 : decode c_Time_come 54 = .ok (.iastore, 1) := by decide +kernel
theorem d_Time_come_55 : decode c_Time_come 55 = .ok (.aload_n 0, 1) := by decide +kernel
theorem d_Time_come_56 : decode c_Time_come 56 = .ok (.getfield 19, 3) := by decide +kernel
theorem d_Time_come_59 : decode c_Time_come 59 = .ok (.iload_n 3, 1) := by decide +kernel
theorem d_Time_come_60 : decode c_Time_come 60 = .ok (.aload_n 0, 1) := by decide +kernel
theorem d_Time_come_61 : decode c_Time_come 61 = .ok (.getfield 28, 3) := by decide +kernel
theorem d_Time_come_64 : decode c_Time_come 64 = .ok (.iastore, 1) := by decide +kernel
theorem d_Time_come_65 : decode c_Time_come 65 = .ok (.aload_n 0, 1) := by decide +kernel
theorem d_Time_come_66 : decode c_Time_come 66 = .ok (.getfield 22, 3) := by decide +kernel
theorem d_Time_come_69 : decode c_Time_come 69 = .ok (.iload_n 3, 1) := by decide +kernel
theorem d_Time_come_70 : decode c_Time_come 70 = .ok (.iconst 0, 1) := by decide +kernel
theorem d_Time_come_71 : decode c_Time_come 71 = .ok (.iastore, 1) := by decide +kernel
theorem d_Time_come_72 : decode c_Time_come 72 = .ok (.return_, 1) := by decide +kernel
theorem ey_Time_choose : eY y_Time_choose 2 = true := by decide +kernel
theorem d_Time_choose_0 : decode c_Time_choose 0 = .ok (.iconst (-1), 1) := by decide +kernel
theorem d_Time_choose_1 : decode c_Time_choose 1 = .ok (.istore_n 3, 1) := by decide +kernel
theorem d_Time_choose_2 : decode c_Time_choose 2 = .ok (.iload_n 1, 1) := by decide +kernel
theorem d_Time_choose_3 : decode c_Time_choose 3 = .ok (.aload_n 0, 1) := by decide +kernel
theorem d_Time_choose_4 : decode c_Time_choose 4 = .ok (.getfield 25, 3) := by decide +kernel
theorem d_Time_choose_7 : decode c_Time_choose 7 = .ok (.imul, 1) := by decide +kernel
theorem d_Time_choose_8 : decode c_Time_choose 8 = .ok (.istore 4, 2) := by decide +kernel
theorem d_Time_choose_10 : decode c_Time_choose 10 = .ok (.iconst 0, 1) := by decide +kernel
theorem d_Time_choose_11 : decode c_Time_choose 11 = .ok (.istore 5, 2) := by decide +kernel
theorem d_Time_choose_13 : decode c_Time_choose 13 = .ok (.iload 5, 2) := by decide +kernel
theorem d_Time_choose_15 : decode c_Time_choose 15 = .ok (.aload_n 0, 1) := by decide +kernel
theorem d_Time_choose_16 : decode c_Time_choose 16 = .ok (.getfield 25, 3) := by decide +kernel
theorem d_Time_choose_19 : decode c_Time_choose 19 = .ok (.if_icmp .ge 43, 3) := by decide +kernel
theorem d_Time_choose_22 : decode c_Time_choose 22 = .ok (.aload_n 2, 1) := by decide +kernel
theorem d_Time_choose_23 : decode c_Time_choose 23 = .ok (.iload 4, 2) := by decide +kernel
theorem d_Time_choose_25 : decode c_Time_choose 25 = .ok (.iload 5, 2) := by decide +kernel
theorem d_Time_choose_27 : decode c_Time_choose 27 = .ok (.iadd, 1) := by decide +kernel
theorem d_Time_choose_28 : decode c_Time_choose 28 = .ok (.baload, 1) := by decide +kernel
theorem d_Time_choose_29 : decode c_Time_choose 29 = .ok (.ifCond .ne 27, 3) := by decide +kernel
theorem d_Time_choose_32 : decode c_Time_choose 32 = .ok (.iload_n 3, 1) := by decide +kernel
theorem d_Time_choose_33 : decode c_Time_choose 33 = .ok (.iconst (-1), 1) := by decide +kernel
theorem d_Time_choose_34 : decode c_Time_choose 34 = .ok (.if_icmp .eq 19, 3) := by decide +kernel
theorem d_Time_choose_37 : decode c_Time_choose 37 = .ok (.aload_n 0, 1) := by decide +kernel
theorem d_Time_choose_38 : decode c_Time_choose 38 = .ok (.iload 4, 2) := by decide +kernel
theorem d_Time_choose_40 : decode c_Time_choose 40 = .ok (.iload 5, 2) := by decide +kernel
theorem d_Time_choose_42 : decode c_Time_choose 42 = .ok (.iadd, 1) := by decide +kernel
theorem d_Time_choose_43 : decode c_Time_choose 43 = .ok (.iload 4, 2) := by decide +kernel
theorem d_Time_choose_45 : decode c_Time_choose 45 = .ok (.iload_n 3, 1) := by decide +kernel
theorem d_Time_choose_46 : decode c_Time_choose 46 = .ok (.iadd, 1) := by decide +kernel
theorem d_Time_choose_47 : decode c_Time_choose 47 = .ok (.invokevirtual 34, 3) := by decide +kernel
theorem d_Time_choose_50 : decode c_Time_choose 50 = .ok (.ifCond .eq 6, 3) := by decide +kernel
theorem d_Time_choose_53 : decode c_Time_choose 53 = .ok (.iload 5, 2) := by decide +kernel
theorem d_Time_choose_55 : decode c_Time_choose 55 = .ok (.istore_n 3, 1) := by decide +kernel
theorem d_Time_choose_56 : decode c_Time_choose 56 = .ok (.iinc 5 1, 3) := by decide +kernel
theorem d_Time_choose_59 : decode c_Time_choose 59 = .ok (.goto (-46), 3) := by decide +kernel
theorem d_Time_choose_62 : decode c_Time_choose 62 = .ok (.iload_n 3, 1) := by decide +kernel
theorem d_Time_choose_63 : decode c_Time_choose 63 = .ok (.ireturn, 1) := by decide +kernel
theorem ey_Time_goesSooner : eY y_Time_goesSooner 2 = true := by decide +kernel
theorem d_Time_goesSooner_0 : decode c_Time_goesSooner 0 = .ok (.aload_n 0, 1) := by decide +kernel
theorem d_Time_goesSooner_1 : decode c_Time_goesSooner 1 = .ok (.getfield 9, 3) := by decide +kernel
theorem d_Time_goesSooner_4 : decode c_Time_goesSooner 4 = .ok (.iconst 1, 1) := by decide +kernel
theorem d_Time_goesSooner_5 : decode c_Time_goesSooner 5 = .ok (.if_icmp .ne 24, 3) := by decide +kernel
theorem d_Time_goesSooner_8 : decode c_Time_goesSooner 8 = .ok (.aload_n 0, 1) := by decide +kernel
theorem d_Time_goesSooner_9 : decode c_Time_goesSooner 9 = .ok (.getfield 19, 3) := by decide +kernel
theorem d_Time_goesSooner_12 : decode c_Time_goesSooner 12 = .ok (.iload_n 1, 1) := by decide +kernel
theorem d_Time_goesSooner_13 : decode c_Time_goesSooner 13 = .ok (.iaload, 1) := by decide +kernel
theorem d_Time_goesSooner_14 : decode c_Time_goesSooner 14 = .ok (.aload_n 0, 1) := by decide +kernel
theorem d_Time_goesSooner_15 : decode c_Time_goesSooner 15 = .ok (.getfield 19, 3) := by decide +kernel
theorem d_Time_goesSooner_18 : decode c_Time_goesSooner 18 = .ok (.iload_n 2, 1) := by decide +kernel
theorem d_Time_goesSooner_19 : decode c_Time_goesSooner 19 = .ok (.iaload, 1) := by decide +kernel
theorem d_Time_goesSooner_20 : decode c_Time_goesSooner 20 = .ok (.if_icmp .ge 7, 3) := by decide +kernel
theorem d_Time_goesSooner_23 : decode c_Time_goesSooner 23 = .ok (.iconst 1, 1) := by decide +kernel
theorem d_Time_goesSooner_24 : decode c_Time_goesSooner 24 = .ok (.goto 4, 3) := by decide +kernel
theorem d_Time_goesSooner_27 : decode c_Time_goesSooner 27 = .ok (.iconst 0, 1) := by decide +kernel
theorem d_Time_goesSooner_28 : decode c_Time_goesSooner 28 = .ok (.ireturn, 1) := by decide +kernel
theorem d_Time_goesSooner_29 : decode c_Time_goesSooner 29 = .ok (.aload_n 0, 1) := by decide +kernel
theorem d_Time_goesSooner_30 : decode c_Time_goesSooner 30 = .ok (.getfield 9, 3) := by decide +kernel
theorem d_Time_goesSooner_33 : decode c_Time_goesSooner 33 = .ok (.iconst 2, 1) := by decide +kernel
theorem d_Time_goesSooner_34 : decode c_Time_goesSooner 34 = .ok (.if_icmp .ne 24, 3) := by decide +kernel
theorem d_Time_goesSooner_37 : decode c_Time_goesSooner 37 = .ok (.aload_n 0, 1) := by decide +kernel
theorem d_Time_goesSooner_38 : decode c_Time_goesSooner 38 = .ok (.getfield 15, 3) := by decide +kernel
theorem d_Time_goesSooner_41 : decode c_Time_goesSooner 41 = .ok (.iload_n 1, 1) := by decide +kernel
theorem d_Time_goesSooner_42 : decode c_Time_goesSooner 42 = .ok (.iaload, 1) := by decide +kernel
theorem d_Time_goesSooner_43 : decode c_Time_goesSooner 43 = .ok (.aload_n 0, 1) := by decide +kernel
theorem d_Time_goesSooner_44 : decode c_Time_goesSooner 44 = .ok (.getfield 15, 3) := by decide +kernel
theorem d_Time_goesSooner_47 : decode c_Time_goesSooner 47 = .ok (.iload_n 2, 1) := by decide +kernel
theorem d_Time_goesSooner_48 : decode c_Time_goesSooner 48 = .ok (.iaload, 1) := by decide +kernel
theorem d_Time_goesSooner_49 : decode c_Time_goesSooner 49 = .ok (.if_icmp .le 7, 3) := by decide +kernel
theorem d_Time_goesSooner_52 : decode c_Time_goesSooner 52 = .ok (.iconst 1, 1) := by decide +kernel
theorem d_Time_goesSooner_53 : decode c_Time_goesSooner 53 = .ok (.goto 4, 3) := by decide +kernel
theorem d_Time_goesSooner_56 : decode c_Time_goesSooner 56 = .ok (.iconst 0, 1) := by decide +kernel
theorem d_Time_goesSooner_57 : decode c_Time_goesSooner 57 = .ok (.ireturn, 1) := by decide +kernel
theorem d_Time_goesSooner_58 : decode c_Time_goesSooner 58 = .ok (.aload_n 0, 1) := by decide +kernel
theorem d_Time_goesSooner_59 : decode c_Time_goesSooner 59 = .ok (.getfield 9, 3) := by decide +kernel
theorem d_Time_goesSooner_62 : decode c_Time_goesSooner 62 = .ok (.iconst 4, 1) := by decide +kernel
theorem d_Time_goesSooner_63 : decode c_Time_goesSooner 63 = .ok (.if_icmp .ne 39, 3) := by decide +kernel
theorem d_Time_goesSooner_66 : decode c_Time_goesSooner 66 = .ok (.aload_n 0, 1) := by decide +kernel
theorem d_Time_goesSooner_67 : decode c_Time_goesSooner 67 = .ok (.getfield 22, 3) := by decide +kernel
theorem d_Time_goesSooner_70 : decode c_Time_goesSooner 70 = .ok (.iload_n 1, 1) := by decide +kernel
theorem d_Time_goesSooner_71 : decode c_Time_goesSooner 71 = .ok (.iaload, 1) := by decide +kernel
theorem d_Time_goesSooner_72 : decode c_Time_goesSooner 72 = .ok (.aload_n 0, 1) := by decide +kernel
theorem d_Time_goesSooner_73 : decode c_Time_goesSooner 73 = .ok (.getfield 22, 3) := by decide +kernel
theorem d_Time_goesSooner_76 : decode c_Time_goesSooner 76 = .ok (.iload_n 2, 1) := by decide +kernel
theorem d_Time_goesSooner_77 : decode c_Time_goesSooner 77 = .ok (.iaload, 1) := by decide +kernel
theorem d_Time_goesSooner_78 : decode c_Time_goesSooner 78 = .ok (.if_icmp .eq 24, 3) := by decide +kernel
theorem d_Time_goesSooner_81 : decode c_Time_goesSooner 81 = .ok (.aload_n 0, 1) := by decide +kernel
theorem d_Time_goesSooner_82 : decode c_Time_goesSooner 82 = .ok (.getfield 22, 3) := by decide +kernel
theorem d_Time_goesSooner_85 : decode c_Time_goesSooner 85 = .ok (.iload_n 1, 1) := by decide +kernel
theorem d_Time_goesSooner_86 : decode c_Time_goesSooner 86 = .ok (.iaload, 1) := by decide +kernel
theorem d_Time_goesSooner_87 : decode c_Time_goesSooner 87 = .ok (.aload_n 0, 1) := by decide +kernel
theorem d_Time_goesSooner_88 : decode c_Time_goesSooner 88 = .ok (.getfield 22, 3) := by decide +kernel
theorem d_Time_goesSooner_91 : decode c_Time_goesSooner 91 = .ok (.iload_n 2, 1) := by decide +kernel
theorem d_Time_goesSooner_92 : decode c_Time_goesSooner 92 = .ok (.iaload, 1) := by decide +kernel
theorem d_Time_goesSooner_93 : decode c_Time_goesSooner 93 = .ok (.if_icmp .ge 7, 3) := by decide +kernel
theorem d_Time_goesSooner_96 : decode c_Time_goesSooner 96 = .ok (.iconst 1, 1) := by decide +kernel
theorem d_Time_goesSooner_97 : decode c_Time_goesSooner 97 = .ok (.goto 4, 3) := by decide +kernel
theorem d_Time_goesSooner_100 : decode c_Time_goesSooner 100 = .ok (.iconst 0, 1) := by decide +kernel
theorem d_Time_goesSooner_101 : decode c_Time_goesSooner 101 = .ok (.ireturn, 1) := by decide +kernel
theorem d_Time_goesSooner_102 : decode c_Time_goesSooner 102 = .ok (.aload_n 0, 1) := by decide +kernel
theorem d_Time_goesSooner_103 : decode c_Time_goesSooner 103 = .ok (.getfield 15, 3) := by decide +kernel
theorem d_Time_goesSooner_106 : decode c_Time_goesSooner 106 = .ok (.iload_n 1, 1) := by decide +kernel
theorem d_Time_goesSooner_107 : decode c_Time_goesSooner 107 = .ok (.iaload, 1) := by decide +kernel
theorem d_Time_goesSooner_108 : decode c_Time_goesSooner 108 = .ok (.aload_n 0, 1) := by decide +kernel
theorem d_Time_goesSooner_109 : decode c_Time_goesSooner 109 = .ok (.getfield 15, 3) := by decide +kernel
theorem d_Time_goesSooner_112 : decode c_Time_goesSooner 112 = .ok (.iload_n 2, 1) := by decide +kernel
theorem d_Time_goesSooner_113 : decode c_Time_goesSooner 113 = .ok (.iaload, 1) := by decide +kernel
theorem d_Time_goesSooner_114 : decode c_Time_goesSooner 114 = .ok (.if_icmp .ge 7, 3) := by decide +kernel
theorem d_Time_goesSooner_117 : decode c_Time_goesSooner 117 = .ok (.iconst 1, 1) := by decide +kernel
theorem d_Time_goesSooner_118 : decode c_Time_goesSooner 118 = .ok (.goto 4, 3) := by decide +kernel
theorem d_Time_goesSooner_121 : decode c_Time_goesSooner 121 = .ok (.iconst 0, 1) := by decide +kernel
theorem d_Time_goesSooner_122 : decode c_Time_goesSooner 122 = .ok (.ireturn, 1) := by decide +kernel
theorem ey_Time_settle : eY y_Time_settle 3 = true := by decide +kernel
theorem d_Time_settle_0 : decode c_Time_settle 0 = .ok (.return_, 1) := by decide +kernel
abbrev wT (G : EG) (a : Nat → Nat) (v : Nat → Int32) (f : Nat → Nat → Int32) (n V : Nat) : va_W := cF G a v f n V (rTime G a v f n)
/-- goes sooner -/
def gs (num : Int32) (f : Nat → Nat → Int32) (i j : Nat) : Bool :=
  if num = 1 then !decide (f 23 j ≤ f 23 i) else if num = 2 then !decide (f 22 i ≤ f 22 j) else if num = 4 ∧ ¬ f 24 i = f 24 j then !decide (f 24 j ≤ f 24 i) else !decide (f 22 j ≤ f 22 i)
/-- locked, by the way of a set -/
def lkd (f : Nat → Nat → Int32) (wd s w : Nat) : Bool := !(f 6 (s * wd + w) == 0)
section TimeRows
variable {l : Launch} {G : EG} {a : Nat → Nat} {v : Nat → Int32} {f : Nat → Nat → Int32} {V S wd s w : Nat}
set_option maxRecDepth 100000 in
theorem k_Time_use (h : CD v S wd) (hs : s < S) (hw : w < wd) : Con l G y_Time_use c_Time_use 4 none (rz 0 0) [.ref (a 21), .int (nI s), .int (nI w)] (wT G a v f (S * wd) V) (DV (wT G a (upd v 17 (v 17 + 1)) (up2 (up2 f 22 (upd (f 22) (s * wd + w) (v 17 + 1))) 24 (upd (f 24) (s * wd + w) (f 24 (s * wd + w) + 1))) (S * wd) V)) := by
  refine Con.of rfl rfl (fun X C E hR hl hn => ?_)
  have hn1 := h.n128
  have hlt := slot_lt hs hw
  refine e_iload_n C d_Time_use_0 rfl ?_
  refine e_aload_n C d_Time_use_1 rfl ?_
  refine e_getI C 21 (k := 0) in_Time g118 g119 d_Time_use_2 rfl rfl rfl rfl ?_
  refine e_imul C d_Time_use_5 ?_
  refine e_iload_n C d_Time_use_6 rfl ?_
  refine e_iadd C d_Time_use_7 ?_
  refine e_top (y := nI (s * wd + w)) (by rw [h.2.1, pk_mul, nI_add]) ?_
  refine e_istore_n C d_Time_use_8 rfl ?_
  refine e_aload_n C d_Time_use_9 rfl ?_
  refine e_dup C d_Time_use_10 rfl ?_
  refine e_get C 21 (k := 5) in_Time g193 d_Time_use_11 rfl rfl rfl rfl ?_
  refine e_iconst C d_Time_use_14 (v := 1) (by decide) ?_
  refine e_iadd C d_Time_use_15 ?_
  refine e_put C 21 (k := 5) in_Time tk_Time nm_Time g193 d_Time_use_16 rfl rfl rfl rfl rfl rfl rfl rfl ?_
  refine e_aload_n C d_Time_use_19 rfl ?_
  refine e_get C 21 (k := 2) in_Time g190 d_Time_use_20 rfl rfl rfl rfl ?_
  refine e_iload_n C d_Time_use_23 rfl ?_
  refine e_aload_n C d_Time_use_24 rfl ?_
  refine e_get C 21 (k := 5) in_Time g193 d_Time_use_25 rfl rfl rfl rfl ?_
  refine e_iast C 22 0 d_Time_use_28 rfl rfl _ rfl hlt (by omega) ?_
  refine e_aload_n C d_Time_use_29 rfl ?_
  refine e_get C 21 (k := 4) in_Time g192 d_Time_use_30 rfl rfl rfl rfl ?_
  refine e_iload_n C d_Time_use_33 rfl ?_
  refine e_dup2 C d_Time_use_34 rfl rfl ?_
  refine e_iald C 24 0 d_Time_use_35 rfl rfl _ rfl hlt (by omega) ?_
  refine e_iconst C d_Time_use_36 (v := 1) (by decide) ?_
  refine e_iadd C d_Time_use_37 ?_
  refine e_iast C 24 0 d_Time_use_38 rfl rfl _ rfl hlt (by omega) ?_
  exact e_vret C E d_Time_use_39 (Nat.le_refl _) (Nat.le_refl _) ⟨rfl, rfl⟩
set_option maxRecDepth 100000 in
theorem k_Time_come (h : CD v S wd) (hs : s < S) (hw : w < wd) : Con l G y_Time_come c_Time_come 4 none (rz 0 0) [.ref (a 21), .int (nI s), .int (nI w)] (wT G a v f (S * wd) V) (DV (wT G a (upd (upd v 17 (v 17 + 1)) 18 (v 18 - 1)) (up2 (up2 (up2 f 22 (upd (f 22) (s * wd + w) (if v 16 = 9 then v 18 - 1 else v 17 + 1))) 23 (upd (f 23) (s * wd + w) (v 17 + 1))) 24 (upd (f 24) (s * wd + w) 0)) (S * wd) V)) := by
  refine Con.of rfl rfl (fun X C E hR hl hn => ?_)
  have hn1 := h.n128
  have hlt := slot_lt hs hw
  refine e_iload_n C d_Time_come_0 rfl ?_
  refine e_aload_n C d_Time_come_1 rfl ?_
  refine e_getI C 21 (k := 0) in_Time g118 g119 d_Time_come_2 rfl rfl rfl rfl ?_
  refine e_imul C d_Time_come_5 ?_
  refine e_iload_n C d_Time_come_6 rfl ?_
  refine e_iadd C d_Time_come_7 ?_
  refine e_top (y := nI (s * wd + w)) (by rw [h.2.1, pk_mul, nI_add]) ?_
  refine e_istore_n C d_Time_come_8 rfl ?_
  refine e_aload_n C d_Time_come_9 rfl ?_
  refine e_dup C d_Time_come_10 rfl ?_
  refine e_get C 21 (k := 5) in_Time g193 d_Time_come_11 rfl rfl rfl rfl ?_
  refine e_iconst C d_Time_come_14 (v := 1) (by decide) ?_
  refine e_iadd C d_Time_come_15 ?_
  refine e_put C 21 (k := 5) in_Time tk_Time nm_Time g193 d_Time_come_16 rfl rfl rfl rfl rfl rfl rfl rfl ?_
  refine e_aload_n C d_Time_come_19 rfl ?_
  refine e_dup C d_Time_come_20 rfl ?_
  refine e_get C 21 (k := 6) in_Time g194 d_Time_come_21 rfl rfl rfl rfl ?_
  refine e_iconst C d_Time_come_24 (v := 1) (by decide) ?_
  refine e_isub C d_Time_come_25 ?_
  refine e_put C 21 (k := 6) in_Time tk_Time nm_Time g194 d_Time_come_26 rfl rfl rfl rfl rfl rfl rfl rfl ?_
  refine e_aload_n C d_Time_come_29 rfl ?_
  refine e_get C 21 (k := 2) in_Time g190 d_Time_come_30 rfl rfl rfl rfl ?_
  refine e_iload_n C d_Time_come_33 rfl ?_
  refine e_aload_n C d_Time_come_34 rfl ?_
  refine e_get C 21 (k := 1) in_Time g189 d_Time_come_35 rfl rfl rfl rfl ?_
  refine e_bipush C d_Time_come_38 (v := 9) (by decide) ?_
  refine e_icmp_ne C d_Time_come_40 (tgt := 50) (by decide) (fun h40 => ?_) (fun h40 => ?_)
  · rw [if_neg (show ¬ v 16 = 9 from h40)] at E
    refine e_aload_n C d_Time_come_50 rfl ?_
    refine e_get C 21 (k := 5) in_Time g193 d_Time_come_51 rfl rfl rfl rfl ?_
    refine e_iast C 22 0 d_Time_come_54 rfl rfl _ rfl hlt (by omega) ?_
    refine e_aload_n C d_Time_come_55 rfl ?_
    refine e_get C 21 (k := 3) in_Time g191 d_Time_come_56 rfl rfl rfl rfl ?_
    refine e_iload_n C d_Time_come_59 rfl ?_
    refine e_aload_n C d_Time_come_60 rfl ?_
    refine e_get C 21 (k := 5) in_Time g193 d_Time_come_61 rfl rfl rfl rfl ?_
    refine e_iast C 23 0 d_Time_come_64 rfl rfl _ rfl hlt (by omega) ?_
    refine e_aload_n C d_Time_come_65 rfl ?_
    refine e_get C 21 (k := 4) in_Time g192 d_Time_come_66 rfl rfl rfl rfl ?_
    refine e_iload_n C d_Time_come_69 rfl ?_
    refine e_iconst C d_Time_come_70 (v := 0) (by decide) ?_
    refine e_iast C 24 0 d_Time_come_71 rfl rfl _ rfl hlt (by omega) ?_
    exact e_vret C E d_Time_come_72 (Nat.le_refl _) (Nat.le_refl _) ⟨rfl, rfl⟩
  · rw [if_pos (show v 16 = 9 from h40)] at E
    refine e_aload_n C d_Time_come_43 rfl ?_
    refine e_get C 21 (k := 6) in_Time g194 d_Time_come_44 rfl rfl rfl rfl ?_
    refine e_goto C d_Time_come_47 (tgt := 54) (by decide) ?_
    refine e_iast C 22 0 d_Time_come_54 rfl rfl _ rfl hlt (by omega) ?_
    refine e_aload_n C d_Time_come_55 rfl ?_
    refine e_get C 21 (k := 3) in_Time g191 d_Time_come_56 rfl rfl rfl rfl ?_
    refine e_iload_n C d_Time_come_59 rfl ?_
    refine e_aload_n C d_Time_come_60 rfl ?_
    refine e_get C 21 (k := 5) in_Time g193 d_Time_come_61 rfl rfl rfl rfl ?_
    refine e_iast C 23 0 d_Time_come_64 rfl rfl _ rfl hlt (by omega) ?_
    refine e_aload_n C d_Time_come_65 rfl ?_
    refine e_get C 21 (k := 4) in_Time g192 d_Time_come_66 rfl rfl rfl rfl ?_
    refine e_iload_n C d_Time_come_69 rfl ?_
    refine e_iconst C d_Time_come_70 (v := 0) (by decide) ?_
    refine e_iast C 24 0 d_Time_come_71 rfl rfl _ rfl hlt (by omega) ?_
    exact e_vret C E d_Time_come_72 (Nat.le_refl _) (Nat.le_refl _) ⟨rfl, rfl⟩
set_option maxRecDepth 100000 in
theorem k_Time_goesSooner (h : CD v S wd) {i j : Nat} (hi : i < S * wd) (hj : j < S * wd) : Con l G y_Time_goesSooner c_Time_goesSooner 3 (some .boolean) (rz 0 0) [.ref (a 21), .int (nI i), .int (nI j)] (wT G a v f (S * wd) V) (DI (bI (gs (v 16) f i j)) (wT G a v f (S * wd) V)) := by
  refine Con.of rfl rfl (fun X C E hR hl hn => ?_)
  have hn1 := h.n128
  refine e_aload_n C d_Time_goesSooner_0 rfl ?_
  refine e_get C 21 (k := 1) in_Time g189 d_Time_goesSooner_1 rfl rfl rfl rfl ?_
  refine e_iconst C d_Time_goesSooner_4 (v := 1) (by decide) ?_
  refine e_icmp_ne C d_Time_goesSooner_5 (tgt := 29) (by decide) (fun h5 => ?_) (fun h5 => ?_)
  · have h5 : ¬ v 16 = 1 := h5
    refine e_aload_n C d_Time_goesSooner_29 rfl ?_
    refine e_get C 21 (k := 1) in_Time g189 d_Time_goesSooner_30 rfl rfl rfl rfl ?_
    refine e_iconst C d_Time_goesSooner_33 (v := 2) (by decide) ?_
    refine e_icmp_ne C d_Time_goesSooner_34 (tgt := 58) (by decide) (fun h34 => ?_) (fun h34 => ?_)
    · have h34 : ¬ v 16 = 2 := h34
      refine e_aload_n C d_Time_goesSooner_58 rfl ?_
      refine e_get C 21 (k := 1) in_Time g189 d_Time_goesSooner_59 rfl rfl rfl rfl ?_
      refine e_iconst C d_Time_goesSooner_62 (v := 4) (by decide) ?_
      refine e_icmp_ne C d_Time_goesSooner_63 (tgt := 102) (by decide) (fun h63 => ?_) (fun h63 => ?_)
      · have h63 : ¬ v 16 = 4 := h63
        refine e_aload_n C d_Time_goesSooner_102 rfl ?_
        refine e_get C 21 (k := 2) in_Time g190 d_Time_goesSooner_103 rfl rfl rfl rfl ?_
        refine e_iload_n C d_Time_goesSooner_106 rfl ?_
        refine e_iald C 22 0 d_Time_goesSooner_107 rfl rfl i rfl hi (by omega) ?_
        refine e_aload_n C d_Time_goesSooner_108 rfl ?_
        refine e_get C 21 (k := 2) in_Time g190 d_Time_goesSooner_109 rfl rfl rfl rfl ?_
        refine e_iload_n C d_Time_goesSooner_112 rfl ?_
        refine e_iald C 22 0 d_Time_goesSooner_113 rfl rfl j rfl hj (by omega) ?_
        refine e_icmp_ge C d_Time_goesSooner_114 (tgt := 121) (by decide) (fun h114 => ?_) (fun h114 => ?_)
        · have h114 : f 22 j ≤ f 22 i := h114
          refine e_iconst C d_Time_goesSooner_121 (v := 0) (by decide) ?_
          exact e_iret C E d_Time_goesSooner_122 (Nat.le_refl _) (Nat.le_refl _) rfl ⟨by simp [gs, h5, h34, h63, h114, bI], rfl⟩
        · have h114 : ¬ f 22 j ≤ f 22 i := h114
          refine e_iconst C d_Time_goesSooner_117 (v := 1) (by decide) ?_
          refine e_goto C d_Time_goesSooner_118 (tgt := 122) (by decide) ?_
          exact e_iret C E d_Time_goesSooner_122 (Nat.le_refl _) (Nat.le_refl _) rfl ⟨by simp [gs, h5, h34, h63, h114, bI], rfl⟩
      · have h63 : v 16 = 4 := h63
        refine e_aload_n C d_Time_goesSooner_66 rfl ?_
        refine e_get C 21 (k := 4) in_Time g192 d_Time_goesSooner_67 rfl rfl rfl rfl ?_
        refine e_iload_n C d_Time_goesSooner_70 rfl ?_
        refine e_iald C 24 0 d_Time_goesSooner_71 rfl rfl i rfl hi (by omega) ?_
        refine e_aload_n C d_Time_goesSooner_72 rfl ?_
        refine e_get C 21 (k := 4) in_Time g192 d_Time_goesSooner_73 rfl rfl rfl rfl ?_
        refine e_iload_n C d_Time_goesSooner_76 rfl ?_
        refine e_iald C 24 0 d_Time_goesSooner_77 rfl rfl j rfl hj (by omega) ?_
        refine e_icmp_eq C d_Time_goesSooner_78 (tgt := 102) (by decide) (fun h78 => ?_) (fun h78 => ?_)
        · have h78 : f 24 i = f 24 j := h78
          refine e_aload_n C d_Time_goesSooner_102 rfl ?_
          refine e_get C 21 (k := 2) in_Time g190 d_Time_goesSooner_103 rfl rfl rfl rfl ?_
          refine e_iload_n C d_Time_goesSooner_106 rfl ?_
          refine e_iald C 22 0 d_Time_goesSooner_107 rfl rfl i rfl hi (by omega) ?_
          refine e_aload_n C d_Time_goesSooner_108 rfl ?_
          refine e_get C 21 (k := 2) in_Time g190 d_Time_goesSooner_109 rfl rfl rfl rfl ?_
          refine e_iload_n C d_Time_goesSooner_112 rfl ?_
          refine e_iald C 22 0 d_Time_goesSooner_113 rfl rfl j rfl hj (by omega) ?_
          refine e_icmp_ge C d_Time_goesSooner_114 (tgt := 121) (by decide) (fun h114 => ?_) (fun h114 => ?_)
          · have h114 : f 22 j ≤ f 22 i := h114
            refine e_iconst C d_Time_goesSooner_121 (v := 0) (by decide) ?_
            exact e_iret C E d_Time_goesSooner_122 (Nat.le_refl _) (Nat.le_refl _) rfl ⟨by simp [gs, h5, h34, h78, h114, bI], rfl⟩
          · have h114 : ¬ f 22 j ≤ f 22 i := h114
            refine e_iconst C d_Time_goesSooner_117 (v := 1) (by decide) ?_
            refine e_goto C d_Time_goesSooner_118 (tgt := 122) (by decide) ?_
            exact e_iret C E d_Time_goesSooner_122 (Nat.le_refl _) (Nat.le_refl _) rfl ⟨by simp [gs, h5, h34, h78, h114, bI], rfl⟩
        · have h78 : ¬ f 24 i = f 24 j := h78
          refine e_aload_n C d_Time_goesSooner_81 rfl ?_
          refine e_get C 21 (k := 4) in_Time g192 d_Time_goesSooner_82 rfl rfl rfl rfl ?_
          refine e_iload_n C d_Time_goesSooner_85 rfl ?_
          refine e_iald C 24 0 d_Time_goesSooner_86 rfl rfl i rfl hi (by omega) ?_
          refine e_aload_n C d_Time_goesSooner_87 rfl ?_
          refine e_get C 21 (k := 4) in_Time g192 d_Time_goesSooner_88 rfl rfl rfl rfl ?_
          refine e_iload_n C d_Time_goesSooner_91 rfl ?_
          refine e_iald C 24 0 d_Time_goesSooner_92 rfl rfl j rfl hj (by omega) ?_
          refine e_icmp_ge C d_Time_goesSooner_93 (tgt := 100) (by decide) (fun h93 => ?_) (fun h93 => ?_)
          · have h93 : f 24 j ≤ f 24 i := h93
            refine e_iconst C d_Time_goesSooner_100 (v := 0) (by decide) ?_
            exact e_iret C E d_Time_goesSooner_101 (Nat.le_refl _) (Nat.le_refl _) rfl ⟨by simp [gs, h5, h34, h63, h78, h93, bI], rfl⟩
          · have h93 : ¬ f 24 j ≤ f 24 i := h93
            refine e_iconst C d_Time_goesSooner_96 (v := 1) (by decide) ?_
            refine e_goto C d_Time_goesSooner_97 (tgt := 101) (by decide) ?_
            exact e_iret C E d_Time_goesSooner_101 (Nat.le_refl _) (Nat.le_refl _) rfl ⟨by simp [gs, h5, h34, h63, h78, h93, bI], rfl⟩
    · have h34 : v 16 = 2 := h34
      refine e_aload_n C d_Time_goesSooner_37 rfl ?_
      refine e_get C 21 (k := 2) in_Time g190 d_Time_goesSooner_38 rfl rfl rfl rfl ?_
      refine e_iload_n C d_Time_goesSooner_41 rfl ?_
      refine e_iald C 22 0 d_Time_goesSooner_42 rfl rfl i rfl hi (by omega) ?_
      refine e_aload_n C d_Time_goesSooner_43 rfl ?_
      refine e_get C 21 (k := 2) in_Time g190 d_Time_goesSooner_44 rfl rfl rfl rfl ?_
      refine e_iload_n C d_Time_goesSooner_47 rfl ?_
      refine e_iald C 22 0 d_Time_goesSooner_48 rfl rfl j rfl hj (by omega) ?_
      refine e_icmp_le C d_Time_goesSooner_49 (tgt := 56) (by decide) (fun h49 => ?_) (fun h49 => ?_)
      · have h49 : f 22 i ≤ f 22 j := h49
        refine e_iconst C d_Time_goesSooner_56 (v := 0) (by decide) ?_
        exact e_iret C E d_Time_goesSooner_57 (Nat.le_refl _) (Nat.le_refl _) rfl ⟨by simp [gs, h34, h49, bI], rfl⟩
      · have h49 : ¬ f 22 i ≤ f 22 j := h49
        refine e_iconst C d_Time_goesSooner_52 (v := 1) (by decide) ?_
        refine e_goto C d_Time_goesSooner_53 (tgt := 57) (by decide) ?_
        exact e_iret C E d_Time_goesSooner_57 (Nat.le_refl _) (Nat.le_refl _) rfl ⟨by simp [gs, h34, h49, bI], rfl⟩
  · have h5 : v 16 = 1 := h5
    refine e_aload_n C d_Time_goesSooner_8 rfl ?_
    refine e_get C 21 (k := 3) in_Time g191 d_Time_goesSooner_9 rfl rfl rfl rfl ?_
    refine e_iload_n C d_Time_goesSooner_12 rfl ?_
    refine e_iald C 23 0 d_Time_goesSooner_13 rfl rfl i rfl hi (by omega) ?_
    refine e_aload_n C d_Time_goesSooner_14 rfl ?_
    refine e_get C 21 (k := 3) in_Time g191 d_Time_goesSooner_15 rfl rfl rfl rfl ?_
    refine e_iload_n C d_Time_goesSooner_18 rfl ?_
    refine e_iald C 23 0 d_Time_goesSooner_19 rfl rfl j rfl hj (by omega) ?_
    refine e_icmp_ge C d_Time_goesSooner_20 (tgt := 27) (by decide) (fun h20 => ?_) (fun h20 => ?_)
    · have h20 : f 23 j ≤ f 23 i := h20
      refine e_iconst C d_Time_goesSooner_27 (v := 0) (by decide) ?_
      exact e_iret C E d_Time_goesSooner_28 (Nat.le_refl _) (Nat.le_refl _) rfl ⟨by simp [gs, h5, h20, bI], rfl⟩
    · have h20 : ¬ f 23 j ≤ f 23 i := h20
      refine e_iconst C d_Time_goesSooner_23 (v := 1) (by decide) ?_
      refine e_goto C d_Time_goesSooner_24 (tgt := 28) (by decide) ?_
      exact e_iret C E d_Time_goesSooner_28 (Nat.le_refl _) (Nat.le_refl _) rfl ⟨by simp [gs, h5, h20, bI], rfl⟩
set_option maxRecDepth 100000 in
theorem k_Time_choose (h : CD v S wd) (hs : s < S) : Con l G y_Time_choose c_Time_choose 6 (some .int) (rz 1 22) [.ref (a 21), .int (nI s), .ref (a 6)] (wT G a v f (S * wd) V) (DI (oI (pickB (lkd f wd s) (fun x y => gs (v 16) f (s * wd + x) (s * wd + y)) none 0 wd)) (wT G a v f (S * wd) V)) := by
  refine Con.of rfl rfl (fun X C E hR hl hn => ?_)
  have hn1 := h.n128
  have hw8 := h.2.2.2.2
  refine e_iconst C d_Time_choose_0 (v := (-1)) (by decide) ?_
  refine e_istore_n C d_Time_choose_1 rfl ?_
  refine e_iload_n C d_Time_choose_2 rfl ?_
  refine e_aload_n C d_Time_choose_3 rfl ?_
  refine e_getI C 21 (k := 0) in_Time g118 g119 d_Time_choose_4 rfl rfl rfl rfl ?_
  refine e_imul C d_Time_choose_7 ?_
  refine e_top (y := nI (s * wd)) (by rw [h.2.1, pk_mul]) ?_
  refine e_istore C d_Time_choose_8 rfl ?_
  refine e_iconst C d_Time_choose_10 (v := 0) (by decide) ?_
  refine e_istore C d_Time_choose_11 rfl ?_
  generalize hbt : (fun x y => gs (v 16) f (s * wd + x) (s * wd + y)) = bt at E
  have L : ∀ (m k : Nat) (b : Option Nat), k + m = wd → (∀ j, b = some j → j < wd) → pickB (lkd f wd s) bt b k m = pickB (lkd f wd s) bt none 0 wd → EW X G 6 0 0 13 [(0, .ref (a 21)), (1, .int (nI s)), (2, .ref (a 6)), (3, .int (oI b)), (4, .int (nI (s * wd))), (5, .int (nI k))] [] (wT G a v f (S * wd) V) := by
    intro m
    induction m with
    | zero =>
      intro k b hk hbk hf
      refine e_iload C d_Time_choose_13 rfl ?_
      refine e_aload_n C d_Time_choose_15 rfl ?_
      refine e_getI C 21 (k := 0) in_Time g118 g119 d_Time_choose_16 rfl rfl rfl rfl ?_
      refine e_top h.2.1 ?_
      refine e_icmp_ge C d_Time_choose_19 (tgt := 62) (by decide) (fun h19 => ?_) (fun h19 => ?_)
      · skip
        refine e_iload_n C d_Time_choose_62 rfl ?_
        exact e_iret C E d_Time_choose_63 (Nat.le_refl _) (Nat.le_refl _) rfl ⟨by rw [← hf]; rfl, rfl⟩
      · exact absurd (nI_le (by omega) (by omega)) h19
    | succ m ih =>
      intro k b hk hbk hf
      have hlt := slot_lt (w := k) hs (show k < wd by omega)
      refine e_iload C d_Time_choose_13 rfl ?_
      refine e_aload_n C d_Time_choose_15 rfl ?_
      refine e_getI C 21 (k := 0) in_Time g118 g119 d_Time_choose_16 rfl rfl rfl rfl ?_
      refine e_top h.2.1 ?_
      refine e_icmp_ge C d_Time_choose_19 (tgt := 62) (by decide) (fun h19 => ?_) (fun h19 => ?_)
      · exact absurd h19 (nI_ge (by omega) (by omega))
      · skip
        refine e_aload_n C d_Time_choose_22 rfl ?_
        refine e_iload C d_Time_choose_23 rfl ?_
        refine e_iload C d_Time_choose_25 rfl ?_
        refine e_iadd C d_Time_choose_27 ?_
        refine e_zald C 6 1 d_Time_choose_28 rfl rfl (s * wd + k) (nI_add _ _) hlt (by omega) ?_
        refine e_if_ne C d_Time_choose_29 (tgt := 56) (by decide) (fun h29 => ?_) (fun h29 => ?_)
        · have hh : lkd f wd s k = true := by simp [lkd]; exact h29
          refine e_iinc C d_Time_choose_56 rfl (nI_1 k) rfl ?_
          refine e_goto C d_Time_choose_59 (tgt := 13) (by decide) ?_
          exact e_lv2 (ih (k + 1) b (by omega) hbk (by rw [← hf]; simp [pickB, hh])) rfl
        · have hh : lkd f wd s k = false := by simp [lkd]; exact h29
          refine e_iload_n C d_Time_choose_32 rfl ?_
          refine e_iconst C d_Time_choose_33 (v := (-1)) (by decide) ?_
          refine e_icmp_eq C d_Time_choose_34 (tgt := 53) (by decide) (fun h34 => ?_) (fun h34 => ?_)
          · cases b with
            | some j => exact absurd h34 (by rw [oI_n1 (fun k hk => by have := hbk k hk; omega)]; simp)
            | none =>
              refine e_iload C d_Time_choose_53 rfl ?_
              refine e_istore_n C d_Time_choose_55 rfl ?_
              refine e_iinc C d_Time_choose_56 rfl (nI_1 k) rfl ?_
              refine e_goto C d_Time_choose_59 (tgt := 13) (by decide) ?_
              exact e_lv2 (ih (k + 1) (some k) (by omega) (fun j hj => by cases hj; omega) (by rw [← hf]; simp [pickB, hh])) rfl
          · cases b with
            | none => exact absurd rfl h34
            | some j =>
              have hjw := hbk j rfl
              have hlt2 := slot_lt (w := j) hs hjw
              refine e_aload_n C d_Time_choose_37 rfl ?_
              refine e_iload C d_Time_choose_38 rfl ?_
              refine e_iload C d_Time_choose_40 rfl ?_
              refine e_iadd C d_Time_choose_42 ?_
              refine e_top (y := nI (s * wd + k)) (nI_add _ _) ?_
              refine e_iload C d_Time_choose_43 rfl ?_
              refine e_iload_n C d_Time_choose_45 rfl ?_
              refine e_iadd C d_Time_choose_46 ?_
              refine e_top (y := nI (s * wd + j)) (nI_add _ _) ?_
              refine e_cVi C hR 21 (k_Time_goesSooner h hlt hlt2) g546 g11 g543 g545 (gt_sel 8 (by decide +kernel) (by decide +kernel)) d_Time_choose_47 rfl ey_Time_goesSooner rfl rfl rfl rfl ⟨Nat.zero_le _, Nat.zero_le _⟩ ?_
              refine e_if_eq C d_Time_choose_50 (tgt := 56) (by decide) (fun h50 => ?_) (fun h50 => ?_)
              · rw [bI_0] at h50
                have hb2 : bt k j = false := by rw [← hbt]; exact h50
                refine e_iinc C d_Time_choose_56 rfl (nI_1 k) rfl ?_
                refine e_goto C d_Time_choose_59 (tgt := 13) (by decide) ?_
                exact e_lv2 (ih (k + 1) (some j) (by omega) hbk (by rw [← hf]; simp [pickB, hh, hb2])) rfl
              · rw [bI_n] at h50
                have hb2 : bt k j = true := by rw [← hbt]; exact h50
                refine e_iload C d_Time_choose_53 rfl ?_
                refine e_istore_n C d_Time_choose_55 rfl ?_
                refine e_iinc C d_Time_choose_56 rfl (nI_1 k) rfl ?_
                refine e_goto C d_Time_choose_59 (tgt := 13) (by decide) ?_
                exact e_lv2 (ih (k + 1) (some k) (by omega) (fun j hj => by cases hj; omega) (by rw [← hf]; simp [pickB, hh, hb2])) rfl
  exact e_lv2 (L wd 0 none (by omega) (fun j hj => by cases hj) rfl) rfl
theorem k_Time_settle (x y : Int32) : Con l G y_Time_settle c_Time_settle 4 none (rz 0 0) [.ref (a 21), .int x, .int y, .ref (a 6)] (wT G a v f (S * wd) V) (DV (wT G a v f (S * wd) V)) := by
  refine Con.of rfl rfl (fun X C E hR hl hn => ?_)
  exact e_vret C E d_Time_settle_0 (Nat.le_refl _) (Nat.le_refl _) ⟨rfl, rfl⟩
end TimeRows
