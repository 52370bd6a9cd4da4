/-! THE REFERENCE: its small methods -/
theorem ey_M_thrown : eY y_M_thrown 0 = true := by decide +kernel
theorem d_M_thrown_0 : decode c_M_thrown 0 = .ok (.aload_n 0, 1) := by decide +kernel
theorem d_M_thrown_1 : decode c_M_thrown 1 = .ok (.getfield 104, 3) := by decide +kernel
theorem d_M_thrown_4 : decode c_M_thrown 4 = .ok (.ireturn, 1) := by decide +kernel
theorem ey_M_fail : eY y_M_fail 1 = true := by decide +kernel
theorem d_M_fail_0 : decode c_M_fail 0 = .ok (.aload_n 0, 1) := by decide +kernel
theorem d_M_fail_1 : decode c_M_fail 1 = .ok (.iload_n 1, 1) := by decide +kernel
theorem d_M_fail_2 : decode c_M_fail 2 = .ok (.putfield 104, 3) := by decide +kernel
theorem d_M_fail_5 : decode c_M_fail 5 = .ok (.iconst 0, 1) := by decide +kernel
theorem d_M_fail_6 : decode c_M_fail 6 = .ok (.ireturn, 1) := by decide +kernel
theorem ey_M_within : eY y_M_within 3 = true := by decide +kernel
theorem d_M_within_0 : decode c_M_within 0 = .ok (.iload_n 0, 1) := by decide +kernel
theorem d_M_within_1 : decode c_M_within 1 = .ok (.iload_n 1, 1) := by decide +kernel
theorem d_M_within_2 : decode c_M_within 2 = .ok (.if_icmp .lt 12, 3) := by decide +kernel
theorem d_M_within_5 : decode c_M_within 5 = .ok (.iload_n 0, 1) := by decide +kernel
theorem d_M_within_6 : decode c_M_within 6 = .ok (.iload_n 2, 1) := by decide +kernel
theorem d_M_within_7 : decode c_M_within 7 = .ok (.if_icmp .gt 7, 3) := by decide +kernel
theorem d_M_within_10 : decode c_M_within 10 = .ok (.iconst 1, 1) := by decide +kernel
theorem d_M_within_11 : decode c_M_within 11 = .ok (.goto 4, 3) := by decide +kernel
theorem d_M_within_14 : decode c_M_within 14 = .ok (.iconst 0, 1) := by decide +kernel
theorem d_M_within_15 : decode c_M_within 15 = .ok (.ireturn, 1) := by decide +kernel
theorem ey_M_mode : eY y_M_mode 2 = true := by decide +kernel
theorem d_M_mode_0 : decode c_M_mode 0 = .ok (.aload_n 0, 1) := by decide +kernel
theorem d_M_mode_1 : decode c_M_mode 1 = .ok (.iconst 0, 1) := by decide +kernel
theorem d_M_mode_2 : decode c_M_mode 2 = .ok (.putfield 104, 3) := by decide +kernel
theorem d_M_mode_5 : decode c_M_mode 5 = .ok (.aload_n 0, 1) := by decide +kernel
theorem d_M_mode_6 : decode c_M_mode 6 = .ok (.getfield 107, 3) := by decide +kernel
theorem d_M_mode_9 : decode c_M_mode 9 = .ok (.ifCond .eq 7, 3) := by decide +kernel
theorem d_M_mode_12 : decode c_M_mode 12 = .ok (.iconst 1, 1) := by decide +kernel
theorem d_M_mode_13 : decode c_M_mode 13 = .ok (.goto 4, 3) := by decide +kernel
theorem d_M_mode_16 : decode c_M_mode 16 = .ok (.iconst 0, 1) := by decide +kernel
theorem d_M_mode_17 : decode c_M_mode 17 = .ok (.aload_n 0, 1) := by decide +kernel
theorem d_M_mode_18 : decode c_M_mode 18 = .ok (.getfield 7, 3) := by decide +kernel
theorem d_M_mode_21 : decode c_M_mode 21 = .ok (.ifCond .eq 7, 3) := by decide +kernel
theorem d_M_mode_24 : decode c_M_mode 24 = .ok (.iconst 2, 1) := by decide +kernel
theorem d_M_mode_25 : decode c_M_mode 25 = .ok (.goto 4, 3) := by decide +kernel
theorem d_M_mode_28 : decode c_M_mode 28 = .ok (.iconst 0, 1) := by decide +kernel
theorem d_M_mode_29 : decode c_M_mode 29 = .ok (.iadd, 1) := by decide +kernel
theorem d_M_mode_30 : decode c_M_mode 30 = .ok (.istore_n 3, 1) := by decide +kernel
theorem d_M_mode_31 : decode c_M_mode 31 = .ok (.aload_n 0, 1) := by decide +kernel
theorem d_M_mode_32 : decode c_M_mode 32 = .ok (.iload_n 1, 1) := by decide +kernel
theorem d_M_mode_33 : decode c_M_mode 33 = .ok (.putfield 107, 3) := by decide +kernel
theorem d_M_mode_36 : decode c_M_mode 36 = .ok (.aload_n 0, 1) := by decide +kernel
theorem d_M_mode_37 : decode c_M_mode 37 = .ok (.iload_n 2, 1) := by decide +kernel
theorem d_M_mode_38 : decode c_M_mode 38 = .ok (.putfield 7, 3) := by decide +kernel
theorem d_M_mode_41 : decode c_M_mode 41 = .ok (.iload_n 3, 1) := by decide +kernel
theorem d_M_mode_42 : decode c_M_mode 42 = .ok (.ireturn, 1) := by decide +kernel
theorem ey_M_ones : eY y_M_ones 1 = true := by decide +kernel
theorem d_M_ones_0 : decode c_M_ones 0 = .ok (.iload_n 0, 1) := by decide +kernel
theorem d_M_ones_1 : decode c_M_ones 1 = .ok (.iconst 1, 1) := by decide +kernel
theorem d_M_ones_2 : decode c_M_ones 2 = .ok (.iand, 1) := by decide +kernel
theorem d_M_ones_3 : decode c_M_ones 3 = .ok (.iload_n 0, 1) := by decide +kernel
theorem d_M_ones_4 : decode c_M_ones 4 = .ok (.iconst 1, 1) := by decide +kernel
theorem d_M_ones_5 : decode c_M_ones 5 = .ok (.ishr, 1) := by decide +kernel
theorem d_M_ones_6 : decode c_M_ones 6 = .ok (.iconst 1, 1) := by decide +kernel
theorem d_M_ones_7 : decode c_M_ones 7 = .ok (.iand, 1) := by decide +kernel
theorem d_M_ones_8 : decode c_M_ones 8 = .ok (.iadd, 1) := by decide +kernel
theorem d_M_ones_9 : decode c_M_ones 9 = .ok (.iload_n 0, 1) := by decide +kernel
theorem d_M_ones_10 : decode c_M_ones 10 = .ok (.iconst 2, 1) := by decide +kernel
theorem d_M_ones_11 : decode c_M_ones 11 = .ok (.ishr, 1) := by decide +kernel
theorem d_M_ones_12 : decode c_M_ones 12 = .ok (.iconst 1, 1) := by decide +kernel
theorem d_M_ones_13 : decode c_M_ones 13 = .ok (.iand, 1) := by decide +kernel
theorem d_M_ones_14 : decode c_M_ones 14 = .ok (.iadd, 1) := by decide +kernel
theorem d_M_ones_15 : decode c_M_ones 15 = .ok (.iload_n 0, 1) := by decide +kernel
theorem d_M_ones_16 : decode c_M_ones 16 = .ok (.iconst 3, 1) := by decide +kernel
theorem d_M_ones_17 : decode c_M_ones 17 = .ok (.ishr, 1) := by decide +kernel
theorem d_M_ones_18 : decode c_M_ones 18 = .ok (.iconst 1, 1) := by decide +kernel
theorem d_M_ones_19 : decode c_M_ones 19 = .ok (.iand, 1) := by decide +kernel
theorem d_M_ones_20 : decode c_M_ones 20 = .ok (.iadd, 1) := by decide +kernel
theorem d_M_ones_21 : decode c_M_ones 21 = .ok (.ireturn, 1) := by decide +kernel
theorem ey_M_setOf : eY y_M_setOf 1 = true := by decide +kernel
theorem d_M_setOf_0 : decode c_M_setOf 0 = .ok (.iload_n 1, 1) := by decide +kernel
theorem d_M_setOf_1 : decode c_M_setOf 1 = .ok (.aload_n 0, 1) := by decide +kernel
theorem d_M_setOf_2 : decode c_M_setOf 2 = .ok (.getfield 92, 3) := by decide +kernel
theorem d_M_setOf_5 : decode c_M_setOf 5 = .ok (.iconst 1, 1) := by decide +kernel
theorem d_M_setOf_6 : decode c_M_setOf 6 = .ok (.isub, 1) := by decide +kernel
theorem d_M_setOf_7 : decode c_M_setOf 7 = .ok (.iand, 1) := by decide +kernel
theorem d_M_setOf_8 : decode c_M_setOf 8 = .ok (.ireturn, 1) := by decide +kernel
theorem ey_M_find : eY y_M_find 1 = true := by decide +kernel
theorem d_M_find_0 : decode c_M_find 0 = .ok (.iconst (-1), 1) := by decide +kernel
theorem d_M_find_1 : decode c_M_find 1 = .ok (.istore_n 2, 1) := by decide +kernel
theorem d_M_find_2 : decode c_M_find 2 = .ok (.bipush 8, 2) := by decide +kernel
theorem d_M_find_4 : decode c_M_find 4 = .ok (.aload_n 0, 1) := by decide +kernel
theorem d_M_find_5 : decode c_M_find 5 = .ok (.iload_n 1, 1) := by decide +kernel
theorem d_M_find_6 : decode c_M_find 6 = .ok (.invokevirtual 110, 3) := by decide +kernel
theorem d_M_find_9 : decode c_M_find 9 = .ok (.imul, 1) := by decide +kernel
theorem d_M_find_10 : decode c_M_find 10 = .ok (.istore_n 3, 1) := by decide +kernel
theorem d_M_find_11 : decode c_M_find 11 = .ok (.iload_n 3, 1) := by decide +kernel
theorem d_M_find_12 : decode c_M_find 12 = .ok (.istore 4, 2) := by decide +kernel
theorem d_M_find_14 : decode c_M_find 14 = .ok (.iload 4, 2) := by decide +kernel
theorem d_M_find_16 : decode c_M_find 16 = .ok (.iload_n 3, 1) := by decide +kernel
theorem d_M_find_17 : decode c_M_find 17 = .ok (.aload_n 0, 1) := by decide +kernel
theorem d_M_find_18 : decode c_M_find 18 = .ok (.getfield 95, 3) := by decide +kernel
theorem d_M_find_21 : decode c_M_find 21 = .ok (.iadd, 1) := by decide +kernel
theorem d_M_find_22 : decode c_M_find 22 = .ok (.if_icmp .ge 37, 3) := by decide +kernel
theorem d_M_find_25 : decode c_M_find 25 = .ok (.aload_n 0, 1) := by decide +kernel
theorem d_M_find_26 : decode c_M_find 26 = .ok (.getfield 13, 3) := by decide +kernel
theorem d_M_find_29 : decode c_M_find 29 = .ok (.iload 4, 2) := by decide +kernel
theorem d_M_find_31 : decode c_M_find 31 = .ok (.baload, 1) := by decide +kernel
theorem d_M_find_32 : decode c_M_find 32 = .ok (.ifCond .eq 19, 3) := by decide +kernel
theorem d_M_find_35 : decode c_M_find 35 = .ok (.aload_n 0, 1) := by decide +kernel
theorem d_M_find_36 : decode c_M_find 36 = .ok (.getfield 17, 3) := by decide +kernel
theorem d_M_find_39 : decode c_M_find 39 = .ok (.iload 4, 2) := by decide +kernel
theorem d_M_find_41 : decode c_M_find 41 = .ok (.iaload, 1) := by decide +kernel
theorem d_M_find_42 : decode c_M_find 42 = .ok (.iload_n 1, 1) := by decide +kernel
theorem d_M_find_43 : decode c_M_find 43 = .ok (.if_icmp .ne 8, 3) := by decide +kernel
theorem d_M_find_46 : decode c_M_find 46 = .ok (.iload 4, 2) := by decide +kernel
theorem d_M_find_48 : decode c_M_find 48 = .ok (.goto 4, 3) := by decide +kernel
theorem d_M_find_51 : decode c_M_find 51 = .ok (.iload_n 2, 1) := by decide +kernel
theorem d_M_find_52 : decode c_M_find 52 = .ok (.istore_n 2, 1) := by decide +kernel
theorem d_M_find_53 : decode c_M_find 53 = .ok (.iinc 4 1, 3) := by decide +kernel
theorem d_M_find_56 : decode c_M_find 56 = .ok (.goto (-42), 3) := by decide +kernel
theorem d_M_find_59 : decode c_M_find 59 = .ok (.iload_n 2, 1) := by decide +kernel
theorem d_M_find_60 : decode c_M_find 60 = .ok (.ireturn, 1) := by decide +kernel
theorem ey_M_findRow : eY y_M_findRow 1 = true := by decide +kernel
theorem d_M_findRow_0 : decode c_M_findRow 0 = .ok (.iconst (-1), 1) := by decide +kernel
theorem d_M_findRow_1 : decode c_M_findRow 1 = .ok (.istore_n 2, 1) := by decide +kernel
theorem d_M_findRow_2 : decode c_M_findRow 2 = .ok (.iconst 0, 1) := by decide +kernel
theorem d_M_findRow_3 : decode c_M_findRow 3 = .ok (.istore_n 3, 1) := by decide +kernel
theorem d_M_findRow_4 : decode c_M_findRow 4 = .ok (.iload_n 3, 1) := by decide +kernel
theorem d_M_findRow_5 : decode c_M_findRow 5 = .ok (.aload_n 0, 1) := by decide +kernel
theorem d_M_findRow_6 : decode c_M_findRow 6 = .ok (.getfield 114, 3) := by decide +kernel
theorem d_M_findRow_9 : decode c_M_findRow 9 = .ok (.if_icmp .ge 25, 3) := by decide +kernel
theorem d_M_findRow_12 : decode c_M_findRow 12 = .ok (.aload_n 0, 1) := by decide +kernel
theorem d_M_findRow_13 : decode c_M_findRow 13 = .ok (.getfield 55, 3) := by decide +kernel
theorem d_M_findRow_16 : decode c_M_findRow 16 = .ok (.iload_n 3, 1) := by decide +kernel
theorem d_M_findRow_17 : decode c_M_findRow 17 = .ok (.iaload, 1) := by decide +kernel
theorem d_M_findRow_18 : decode c_M_findRow 18 = .ok (.iload_n 1, 1) := by decide +kernel
theorem d_M_findRow_19 : decode c_M_findRow 19 = .ok (.if_icmp .ne 7, 3) := by decide +kernel
theorem d_M_findRow_22 : decode c_M_findRow 22 = .ok (.iload_n 3, 1) := by decide +kernel
theorem d_M_findRow_23 : decode c_M_findRow 23 = .ok (.goto 4, 3) := by decide +kernel
theorem d_M_findRow_26 : decode c_M_findRow 26 = .ok (.iload_n 2, 1) := by decide +kernel
theorem d_M_findRow_27 : decode c_M_findRow 27 = .ok (.istore_n 2, 1) := by decide +kernel
theorem d_M_findRow_28 : decode c_M_findRow 28 = .ok (.iinc 3 1, 3) := by decide +kernel
theorem d_M_findRow_31 : decode c_M_findRow 31 = .ok (.goto (-27), 3) := by decide +kernel
theorem d_M_findRow_34 : decode c_M_findRow 34 = .ok (.iload_n 2, 1) := by decide +kernel
theorem d_M_findRow_35 : decode c_M_findRow 35 = .ok (.ireturn, 1) := by decide +kernel
theorem ey_M_treeSize : eY y_M_treeSize 0 = true := by decide +kernel
theorem d_M_treeSize_0 : decode c_M_treeSize 0 = .ok (.aload_n 0, 1) := by decide +kernel
theorem d_M_treeSize_1 : decode c_M_treeSize 1 = .ok (.getfield 95, 3) := by decide +kernel
theorem d_M_treeSize_4 : decode c_M_treeSize 4 = .ok (.iconst 1, 1) := by decide +kernel
theorem d_M_treeSize_5 : decode c_M_treeSize 5 = .ok (.if_icmp .ne 7, 3) := by decide +kernel
theorem d_M_treeSize_8 : decode c_M_treeSize 8 = .ok (.iconst 1, 1) := by decide +kernel
theorem d_M_treeSize_9 : decode c_M_treeSize 9 = .ok (.goto 29, 3) := by decide +kernel
theorem d_M_treeSize_12 : decode c_M_treeSize 12 = .ok (.aload_n 0, 1) := by decide +kernel
theorem d_M_treeSize_13 : decode c_M_treeSize 13 = .ok (.getfield 95, 3) := by decide +kernel
theorem d_M_treeSize_16 : decode c_M_treeSize 16 = .ok (.iconst 2, 1) := by decide +kernel
theorem d_M_treeSize_17 : decode c_M_treeSize 17 = .ok (.if_icmp .ne 7, 3) := by decide +kernel
theorem d_M_treeSize_20 : decode c_M_treeSize 20 = .ok (.iconst 2, 1) := by decide +kernel
theorem d_M_treeSize_21 : decode c_M_treeSize 21 = .ok (.goto 17, 3) := by decide +kernel
theorem d_M_treeSize_24 : decode c_M_treeSize 24 = .ok (.aload_n 0, 1) := by decide +kernel
theorem d_M_treeSize_25 : decode c_M_treeSize 25 = .ok (.getfield 95, 3) := by decide +kernel
theorem d_M_treeSize_28 : decode c_M_treeSize 28 = .ok (.iconst 5, 1) := by decide +kernel
theorem d_M_treeSize_29 : decode c_M_treeSize 29 = .ok (.if_icmp .ge 7, 3) := by decide +kernel
theorem d_M_treeSize_32 : decode c_M_treeSize 32 = .ok (.iconst 4, 1) := by decide +kernel
theorem d_M_treeSize_33 : decode c_M_treeSize 33 = .ok (.goto 5, 3) := by decide +kernel
theorem d_M_treeSize_36 : decode c_M_treeSize 36 = .ok (.bipush 8, 2) := by decide +kernel
theorem d_M_treeSize_38 : decode c_M_treeSize 38 = .ok (.ireturn, 1) := by decide +kernel
theorem ey_M_turnAway : eY y_M_turnAway 1 = true := by decide +kernel
theorem d_M_turnAway_0 : decode c_M_turnAway 0 = .ok (.aload_n 0, 1) := by decide +kernel
theorem d_M_turnAway_1 : decode c_M_turnAway 1 = .ok (.invokevirtual 117, 3) := by decide +kernel
theorem d_M_turnAway_4 : decode c_M_turnAway 4 = .ok (.istore_n 2, 1) := by decide +kernel
theorem d_M_turnAway_5 : decode c_M_turnAway 5 = .ok (.iload_n 1, 1) := by decide +kernel
theorem d_M_turnAway_6 : decode c_M_turnAway 6 = .ok (.bipush 8, 2) := by decide +kernel
theorem d_M_turnAway_8 : decode c_M_turnAway 8 = .ok (.idiv, 1) := by decide +kernel
theorem d_M_turnAway_9 : decode c_M_turnAway 9 = .ok (.bipush 8, 2) := by decide +kernel
theorem d_M_turnAway_11 : decode c_M_turnAway 11 = .ok (.imul, 1) := by decide +kernel
theorem d_M_turnAway_12 : decode c_M_turnAway 12 = .ok (.istore_n 3, 1) := by decide +kernel
theorem d_M_turnAway_13 : decode c_M_turnAway 13 = .ok (.iload_n 2, 1) := by decide +kernel
theorem d_M_turnAway_14 : decode c_M_turnAway 14 = .ok (.iload_n 1, 1) := by decide +kernel
theorem d_M_turnAway_15 : decode c_M_turnAway 15 = .ok (.bipush 8, 2) := by decide +kernel
theorem d_M_turnAway_17 : decode c_M_turnAway 17 = .ok (.irem, 1) := by decide +kernel
theorem d_M_turnAway_18 : decode c_M_turnAway 18 = .ok (.iadd, 1) := by decide +kernel
theorem d_M_turnAway_19 : decode c_M_turnAway 19 = .ok (.istore 4, 2) := by decide +kernel
theorem d_M_turnAway_21 : decode c_M_turnAway 21 = .ok (.iload 4, 2) := by decide +kernel
theorem d_M_turnAway_23 : decode c_M_turnAway 23 = .ok (.iconst 1, 1) := by decide +kernel
theorem d_M_turnAway_24 : decode c_M_turnAway 24 = .ok (.if_icmp .le 35, 3) := by decide +kernel
theorem d_M_turnAway_27 : decode c_M_turnAway 27 = .ok (.aload_n 0, 1) := by decide +kernel
theorem d_M_turnAway_28 : decode c_M_turnAway 28 = .ok (.getfield 48, 3) := by decide +kernel
theorem d_M_turnAway_31 : decode c_M_turnAway 31 = .ok (.iload_n 3, 1) := by decide +kernel
theorem d_M_turnAway_32 : decode c_M_turnAway 32 = .ok (.iload 4, 2) := by decide +kernel
theorem d_M_turnAway_34 : decode c_M_turnAway 34 = .ok (.iconst 2, 1) := by decide +kernel
theorem d_M_turnAway_35 : decode c_M_turnAway 35 = .ok (.idiv, 1) := by decide +kernel
theorem d_M_turnAway_36 : decode c_M_turnAway 36 = .ok (.iadd, 1) := by decide +kernel
theorem d_M_turnAway_37 : decode c_M_turnAway 37 = .ok (.iload 4, 2) := by decide +kernel
theorem d_M_turnAway_39 : decode c_M_turnAway 39 = .ok (.iconst 2, 1) := by decide +kernel
theorem d_M_turnAway_40 : decode c_M_turnAway 40 = .ok (.irem, 1) := by decide +kernel
theorem d_M_turnAway_41 : decode c_M_turnAway 41 = .ok (.ifCond .ne 7, 3) := by decide +kernel
theorem d_M_turnAway_44 : decode c_M_turnAway 44 = .ok (.iconst 1, 1) := by decide +kernel
theorem d_M_turnAway_45 : decode c_M_turnAway 45 = .ok (.goto 4, 3) := by decide +kernel
theorem d_M_turnAway_48 : decode c_M_turnAway 48 = .ok (.iconst 0, 1) := by decide +kernel
theorem d_M_turnAway_49 : decode c_M_turnAway 49 = .ok (.bastore, 1) := by decide +kernel
theorem d_M_turnAway_50 : decode c_M_turnAway 50 = .ok (.iload 4, 2) := by decide +kernel
theorem d_M_turnAway_52 : decode c_M_turnAway 52 = .ok (.iconst 2, 1) := by decide +kernel
theorem d_M_turnAway_53 : decode c_M_turnAway 53 = .ok (.idiv, 1) := by decide +kernel
theorem d_M_turnAway_54 : decode c_M_turnAway 54 = .ok (.istore 4, 2) := by decide +kernel
theorem d_M_turnAway_56 : decode c_M_turnAway 56 = .ok (.goto (-35), 3) := by decide +kernel
theorem d_M_turnAway_59 : decode c_M_turnAway 59 = .ok (.return_, 1) := by decide +kernel
theorem ey_M_markLately : eY y_M_markLately 1 = true := by decide +kernel
theorem d_M_markLately_0 : decode c_M_markLately 0 = .ok (.iload_n 1, 1) := by decide +kernel
theorem d_M_markLately_1 : decode c_M_markLately 1 = .ok (.bipush 8, 2) := by decide +kernel
theorem d_M_markLately_3 : decode c_M_markLately 3 = .ok (.idiv, 1) := by decide +kernel
theorem d_M_markLately_4 : decode c_M_markLately 4 = .ok (.bipush 8, 2) := by decide +kernel
theorem d_M_markLately_6 : decode c_M_markLately 6 = .ok (.imul, 1) := by decide +kernel
theorem d_M_markLately_7 : decode c_M_markLately 7 = .ok (.istore_n 2, 1) := by decide +kernel
theorem d_M_markLately_8 : decode c_M_markLately 8 = .ok (.aload_n 0, 1) := by decide +kernel
theorem d_M_markLately_9 : decode c_M_markLately 9 = .ok (.getfield 39, 3) := by decide +kernel
theorem d_M_markLately_12 : decode c_M_markLately 12 = .ok (.iload_n 1, 1) := by decide +kernel
theorem d_M_markLately_13 : decode c_M_markLately 13 = .ok (.iconst 1, 1) := by decide +kernel
theorem d_M_markLately_14 : decode c_M_markLately 14 = .ok (.bastore, 1) := by decide +kernel
theorem d_M_markLately_15 : decode c_M_markLately 15 = .ok (.iconst 1, 1) := by decide +kernel
theorem d_M_markLately_16 : decode c_M_markLately 16 = .ok (.istore_n 3, 1) := by decide +kernel
theorem d_M_markLately_17 : decode c_M_markLately 17 = .ok (.iload_n 2, 1) := by decide +kernel
theorem d_M_markLately_18 : decode c_M_markLately 18 = .ok (.istore 4, 2) := by decide +kernel
theorem d_M_markLately_20 : decode c_M_markLately 20 = .ok (.iload 4, 2) := by decide +kernel
theorem d_M_markLately_22 : decode c_M_markLately 22 = .ok (.iload_n 2, 1) := by decide +kernel
theorem d_M_markLately_23 : decode c_M_markLately 23 = .ok (.aload_n 0, 1) := by decide +kernel
theorem d_M_markLately_24 : decode c_M_markLately 24 = .ok (.getfield 95, 3) := by decide +kernel
theorem d_M_markLately_27 : decode c_M_markLately 27 = .ok (.iadd, 1) := by decide +kernel
theorem d_M_markLately_28 : decode c_M_markLately 28 = .ok (.if_icmp .ge 29, 3) := by decide +kernel
theorem d_M_markLately_31 : decode c_M_markLately 31 = .ok (.iload_n 3, 1) := by decide +kernel
theorem d_M_markLately_32 : decode c_M_markLately 32 = .ok (.ifCond .eq 17, 3) := by decide +kernel
theorem d_M_markLately_35 : decode c_M_markLately 35 = .ok (.aload_n 0, 1) := by decide +kernel
theorem d_M_markLately_36 : decode c_M_markLately 36 = .ok (.getfield 39, 3) := by decide +kernel
theorem d_M_markLately_39 : decode c_M_markLately 39 = .ok (.iload 4, 2) := by decide +kernel
theorem d_M_markLately_41 : decode c_M_markLately 41 = .ok (.baload, 1) := by decide +kernel
theorem d_M_markLately_42 : decode c_M_markLately 42 = .ok (.ifCond .eq 7, 3) := by decide +kernel
theorem d_M_markLately_45 : decode c_M_markLately 45 = .ok (.iconst 1, 1) := by decide +kernel
theorem d_M_markLately_46 : decode c_M_markLately 46 = .ok (.goto 4, 3) := by decide +kernel
theorem d_M_markLately_49 : decode c_M_markLately 49 = .ok (.iconst 0, 1) := by decide +kernel
theorem d_M_markLately_50 : decode c_M_markLately 50 = .ok (.istore_n 3, 1) := by decide +kernel
theorem d_M_markLately_51 : decode c_M_markLately 51 = .ok (.iinc 4 1, 3) := by decide +kernel
theorem d_M_markLately_54 : decode c_M_markLately 54 = .ok (.goto (-34), 3) := by decide +kernel
theorem d_M_markLately_57 : decode c_M_markLately 57 = .ok (.iload_n 2, 1) := by decide +kernel
theorem d_M_markLately_58 : decode c_M_markLately 58 = .ok (.istore 4, 2) := by decide +kernel
theorem d_M_markLately_60 : decode c_M_markLately 60 = .ok (.iload 4, 2) := by decide +kernel
theorem d_M_markLately_62 : decode c_M_markLately 62 = .ok (.iload_n 2, 1) := by decide +kernel
theorem d_M_markLately_63 : decode c_M_markLately 63 = .ok (.aload_n 0, 1) := by decide +kernel
theorem d_M_markLately_64 : decode c_M_markLately 64 = .ok (.getfield 95, 3) := by decide +kernel
theorem d_M_markLately_67 : decode c_M_markLately 67 = .ok (.iadd, 1) := by decide +kernel
theorem d_M_markLately_68 : decode c_M_markLately 68 = .ok (.if_icmp .ge 31, 3) := by decide +kernel
theorem d_M_markLately_71 : decode c_M_markLately 71 = .ok (.iload_n 3, 1) := by decide +kernel
theorem d_M_markLately_72 : decode c_M_markLately 72 = .ok (.ifCond .eq 27, 3) := by decide +kernel
theorem d_M_markLately_75 : decode c_M_markLately 75 = .ok (.aload_n 0, 1) := by decide +kernel
theorem d_M_markLately_76 : decode c_M_markLately 76 = .ok (.getfield 39, 3) := by decide +kernel
theorem d_M_markLately_79 : decode c_M_markLately 79 = .ok (.iload 4, 2) := by decide +kernel
theorem d_M_markLately_81 : decode c_M_markLately 81 = .ok (.iload 4, 2) := by decide +kernel
theorem d_M_markLately_83 : decode c_M_markLately 83 = .ok (.iload_n 1, 1) := by decide +kernel
theorem d_M_markLately_84 : decode c_M_markLately 84 = .ok (.if_icmp .ne 7, 3) := by decide +kernel
theorem d_M_markLately_87 : decode c_M_markLately 87 = .ok (.iconst 1, 1) := by decide +kernel
theorem d_M_markLately_88 : decode c_M_markLately 88 = .ok (.goto 4, 3) := by decide +kernel
theorem d_M_markLately_91 : decode c_M_markLately 91 = .ok (.iconst 0, 1) := by decide +kernel
theorem d_M_markLately_92 : decode c_M_markLately 92 = .ok (.bastore, 1) := by decide +kernel
theorem d_M_markLately_93 : decode c_M_markLately 93 = .ok (.iinc 4 1, 3) := by decide +kernel
theorem d_M_markLately_96 : decode c_M_markLately 96 = .ok (.goto (-36), 3) := by decide +kernel
theorem d_M_markLately_99 : decode c_M_markLately 99 = .ok (.return_, 1) := by decide +kernel
theorem ey_M_tellUse : eY y_M_tellUse 1 = true := by decide +kernel
theorem d_M_tellUse_0 : decode c_M_tellUse 0 = .ok (.aload_n 0, 1) := by decide +kernel
theorem d_M_tellUse_1 : decode c_M_tellUse 1 = .ok (.dup, 1) := by decide +kernel
theorem d_M_tellUse_2 : decode c_M_tellUse 2 = .ok (.getfield 121, 3) := by decide +kernel
theorem d_M_tellUse_5 : decode c_M_tellUse 5 = .ok (.iconst 1, 1) := by decide +kernel
theorem d_M_tellUse_6 : decode c_M_tellUse 6 = .ok (.iadd, 1) := by decide +kernel
theorem d_M_tellUse_7 : decode c_M_tellUse 7 = .ok (.putfield 121, 3) := by decide +kernel
theorem d_M_tellUse_10 : decode c_M_tellUse 10 = .ok (.aload_n 0, 1) := by decide +kernel
theorem d_M_tellUse_11 : decode c_M_tellUse 11 = .ok (.getfield 30, 3) := by decide +kernel
theorem d_M_tellUse_14 : decode c_M_tellUse 14 = .ok (.iload_n 1, 1) := by decide +kernel
theorem d_M_tellUse_15 : decode c_M_tellUse 15 = .ok (.aload_n 0, 1) := by decide +kernel
theorem d_M_tellUse_16 : decode c_M_tellUse 16 = .ok (.getfield 121, 3) := by decide +kernel
theorem d_M_tellUse_19 : decode c_M_tellUse 19 = .ok (.iastore, 1) := by decide +kernel
theorem d_M_tellUse_20 : decode c_M_tellUse 20 = .ok (.aload_n 0, 1) := by decide +kernel
theorem d_M_tellUse_21 : decode c_M_tellUse 21 = .ok (.getfield 36, 3) := by decide +kernel
theorem d_M_tellUse_24 : decode c_M_tellUse 24 = .ok (.iload_n 1, 1) := by decide +kernel
theorem d_M_tellUse_25 : decode c_M_tellUse 25 = .ok (.dup2, 1) := by decide +kernel
theorem d_M_tellUse_26 : decode c_M_tellUse 26 = .ok (.iaload, 1) := by decide +kernel
theorem d_M_tellUse_27 : decode c_M_tellUse 27 = .ok (.iconst 1, 1) := by decide +kernel
theorem d_M_tellUse_28 : decode c_M_tellUse 28 = .ok (.iadd, 1) := by decide +kernel
theorem d_M_tellUse_29 : decode c_M_tellUse 29 = .ok (.iastore, 1) := by decide +kernel
theorem d_M_tellUse_30 : decode c_M_tellUse 30 = .ok (.aload_n 0, 1) := by decide +kernel
theorem d_M_tellUse_31 : decode c_M_tellUse 31 = .ok (.getfield 42, 3) := by decide +kernel
theorem d_M_tellUse_34 : decode c_M_tellUse 34 = .ok (.iload_n 1, 1) := by decide +kernel
theorem d_M_tellUse_35 : decode c_M_tellUse 35 = .ok (.iconst 0, 1) := by decide +kernel
theorem d_M_tellUse_36 : decode c_M_tellUse 36 = .ok (.iastore, 1) := by decide +kernel
theorem d_M_tellUse_37 : decode c_M_tellUse 37 = .ok (.aload_n 0, 1) := by decide +kernel
theorem d_M_tellUse_38 : decode c_M_tellUse 38 = .ok (.iload_n 1, 1) := by decide +kernel
theorem d_M_tellUse_39 : decode c_M_tellUse 39 = .ok (.invokevirtual 124, 3) := by decide +kernel
theorem d_M_tellUse_42 : decode c_M_tellUse 42 = .ok (.aload_n 0, 1) := by decide +kernel
theorem d_M_tellUse_43 : decode c_M_tellUse 43 = .ok (.getfield 98, 3) := by decide +kernel
theorem d_M_tellUse_46 : decode c_M_tellUse 46 = .ok (.bipush 7, 2) := by decide +kernel
theorem d_M_tellUse_48 : decode c_M_tellUse 48 = .ok (.if_icmp .ne 11, 3) := by decide +kernel
theorem d_M_tellUse_51 : decode c_M_tellUse 51 = .ok (.aload_n 0, 1) := by decide +kernel
theorem d_M_tellUse_52 : decode c_M_tellUse 52 = .ok (.iload_n 1, 1) := by decide +kernel
theorem d_M_tellUse_53 : decode c_M_tellUse 53 = .ok (.invokevirtual 128, 3) := by decide +kernel
theorem d_M_tellUse_56 : decode c_M_tellUse 56 = .ok (.goto 10, 3) := by decide +kernel
theorem d_M_tellUse_59 : decode c_M_tellUse 59 = .ok (.aload_n 0, 1) := by decide +kernel
theorem d_M_tellUse_60 : decode c_M_tellUse 60 = .ok (.getfield 39, 3) := by decide +kernel
theorem d_M_tellUse_63 : decode c_M_tellUse 63 = .ok (.iload_n 1, 1) := by decide +kernel
theorem d_M_tellUse_64 : decode c_M_tellUse 64 = .ok (.iconst 1, 1) := by decide +kernel
theorem d_M_tellUse_65 : decode c_M_tellUse 65 = .ok (.bastore, 1) := by decide +kernel
theorem d_M_tellUse_66 : decode c_M_tellUse 66 = .ok (.return_, 1) := by decide +kernel
theorem ey_M_tellComing : eY y_M_tellComing 1 = true := by decide +kernel
theorem d_M_tellComing_0 : decode c_M_tellComing 0 = .ok (.aload_n 0, 1) := by decide +kernel
theorem d_M_tellComing_1 : decode c_M_tellComing 1 = .ok (.dup, 1) := by decide +kernel
theorem d_M_tellComing_2 : decode c_M_tellComing 2 = .ok (.getfield 121, 3) := by decide +kernel
theorem d_M_tellComing_5 : decode c_M_tellComing 5 = .ok (.iconst 1, 1) := by decide +kernel
theorem d_M_tellComing_6 : decode c_M_tellComing 6 = .ok (.iadd, 1) := by decide +kernel
theorem d_M_tellComing_7 : decode c_M_tellComing 7 = .ok (.putfield 121, 3) := by decide +kernel
theorem d_M_tellComing_10 : decode c_M_tellComing 10 = .ok (.aload_n 0, 1) := by decide +kernel
theorem d_M_tellComing_11 : decode c_M_tellComing 11 = .ok (.getfield 30, 3) := by decide +kernel
theorem d_M_tellComing_14 : decode c_M_tellComing 14 = .ok (.iload_n 1, 1) := by decide +kernel
theorem d_M_tellComing_15 : decode c_M_tellComing 15 = .ok (.aload_n 0, 1) := by decide +kernel
theorem d_M_tellComing_16 : decode c_M_tellComing 16 = .ok (.getfield 98, 3) := by decide +kernel
theorem d_M_tellComing_19 : decode c_M_tellComing 19 = .ok (.bipush 9, 2) := by decide +kernel
theorem d_M_tellComing_21 : decode c_M_tellComing 21 = .ok (.if_icmp .ne 11, 3) := by decide +kernel
theorem d_M_tellComing_24 : decode c_M_tellComing 24 = .ok (.aload_n 0, 1) := by decide +kernel
theorem d_M_tellComing_25 : decode c_M_tellComing 25 = .ok (.getfield 121, 3) := by decide +kernel
theorem d_M_tellComing_28 : decode c_M_tellComing 28 = .ok (.ineg, 1) := by decide +kernel
theorem d_M_tellComing_29 : decode c_M_tellComing 29 = .ok (.goto 7, 3) := by decide +kernel
theorem d_M_tellComing_32 : decode c_M_tellComing 32 = .ok (.aload_n 0, 1) := by decide +kernel
theorem d_M_tellComing_33 : decode c_M_tellComing 33 = .ok (.getfield 121, 3) := by decide +kernel
theorem d_M_tellComing_36 : decode c_M_tellComing 36 = .ok (.iastore, 1) := by decide +kernel
theorem d_M_tellComing_37 : decode c_M_tellComing 37 = .ok (.aload_n 0, 1) := by decide +kernel
theorem d_M_tellComing_38 : decode c_M_tellComing 38 = .ok (.getfield 33, 3) := by decide +kernel
theorem d_M_tellComing_41 : decode c_M_tellComing 41 = .ok (.iload_n 1, 1) := by decide +kernel
theorem d_M_tellComing_42 : decode c_M_tellComing 42 = .ok (.aload_n 0, 1) := by decide +kernel
theorem d_M_tellComing_43 : decode c_M_tellComing 43 = .ok (.getfield 121, 3) := by decide +kernel
theorem d_M_tellComing_46 : decode c_M_tellComing 46 = .ok (.iastore, 1) := by decide +kernel
theorem d_M_tellComing_47 : decode c_M_tellComing 47 = .ok (.aload_n 0, 1) := by decide +kernel
theorem d_M_tellComing_48 : decode c_M_tellComing 48 = .ok (.getfield 36, 3) := by decide +kernel
theorem d_M_tellComing_51 : decode c_M_tellComing 51 = .ok (.iload_n 1, 1) := by decide +kernel
theorem d_M_tellComing_52 : decode c_M_tellComing 52 = .ok (.iconst 0, 1) := by decide +kernel
theorem d_M_tellComing_53 : decode c_M_tellComing 53 = .ok (.iastore, 1) := by decide +kernel
theorem d_M_tellComing_54 : decode c_M_tellComing 54 = .ok (.aload_n 0, 1) := by decide +kernel
theorem d_M_tellComing_55 : decode c_M_tellComing 55 = .ok (.getfield 42, 3) := by decide +kernel
theorem d_M_tellComing_58 : decode c_M_tellComing 58 = .ok (.iload_n 1, 1) := by decide +kernel
theorem d_M_tellComing_59 : decode c_M_tellComing 59 = .ok (.iconst 2, 1) := by decide +kernel
theorem d_M_tellComing_60 : decode c_M_tellComing 60 = .ok (.iastore, 1) := by decide +kernel
theorem d_M_tellComing_61 : decode c_M_tellComing 61 = .ok (.aload_n 0, 1) := by decide +kernel
theorem d_M_tellComing_62 : decode c_M_tellComing 62 = .ok (.iload_n 1, 1) := by decide +kernel
theorem d_M_tellComing_63 : decode c_M_tellComing 63 = .ok (.invokevirtual 124, 3) := by decide +kernel
theorem d_M_tellComing_66 : decode c_M_tellComing 66 = .ok (.aload_n 0, 1) := by decide +kernel
theorem d_M_tellComing_67 : decode c_M_tellComing 67 = .ok (.getfield 98, 3) := by decide +kernel
theorem d_M_tellComing_70 : decode c_M_tellComing 70 = .ok (.bipush 7, 2) := by decide +kernel
theorem d_M_tellComing_72 : decode c_M_tellComing 72 = .ok (.if_icmp .ne 11, 3) := by decide +kernel
theorem d_M_tellComing_75 : decode c_M_tellComing 75 = .ok (.aload_n 0, 1) := by decide +kernel
theorem d_M_tellComing_76 : decode c_M_tellComing 76 = .ok (.iload_n 1, 1) := by decide +kernel
theorem d_M_tellComing_77 : decode c_M_tellComing 77 = .ok (.invokevirtual 128, 3) := by decide +kernel
theorem d_M_tellComing_80 : decode c_M_tellComing 80 = .ok (.goto 10, 3) := by decide +kernel
theorem d_M_tellComing_83 : decode c_M_tellComing 83 = .ok (.aload_n 0, 1) := by decide +kernel
theorem d_M_tellComing_84 : decode c_M_tellComing 84 = .ok (.getfield 39, 3) := by decide +kernel
theorem d_M_tellComing_87 : decode c_M_tellComing 87 = .ok (.iload_n 1, 1) := by decide +kernel
theorem d_M_tellComing_88 : decode c_M_tellComing 88 = .ok (.iconst 0, 1) := by decide +kernel
theorem d_M_tellComing_89 : decode c_M_tellComing 89 = .ok (.bastore, 1) := by decide +kernel
theorem d_M_tellComing_90 : decode c_M_tellComing 90 = .ok (.return_, 1) := by decide +kernel
theorem ey_M_isBetter : eY y_M_isBetter 2 = true := by decide +kernel
theorem d_M_isBetter_0 : decode c_M_isBetter 0 = .ok (.aload_n 0, 1) := by decide +kernel
theorem d_M_isBetter_1 : decode c_M_isBetter 1 = .ok (.getfield 98, 3) := by decide +kernel
theorem d_M_isBetter_4 : decode c_M_isBetter 4 = .ok (.iconst 1, 1) := by decide +kernel
theorem d_M_isBetter_5 : decode c_M_isBetter 5 = .ok (.if_icmp .ne 24, 3) := by decide +kernel
theorem d_M_isBetter_8 : decode c_M_isBetter 8 = .ok (.aload_n 0, 1) := by decide +kernel
theorem d_M_isBetter_9 : decode c_M_isBetter 9 = .ok (.getfield 33, 3) := by decide +kernel
theorem d_M_isBetter_12 : decode c_M_isBetter 12 = .ok (.iload_n 1, 1) := by decide +kernel
theorem d_M_isBetter_13 : decode c_M_isBetter 13 = .ok (.iaload, 1) := by decide +kernel
theorem d_M_isBetter_14 : decode c_M_isBetter 14 = .ok (.aload_n 0, 1) := by decide +kernel
theorem d_M_isBetter_15 : decode c_M_isBetter 15 = .ok (.getfield 33, 3) := by decide +kernel
theorem d_M_isBetter_18 : decode c_M_isBetter 18 = .ok (.iload_n 2, 1) := by decide +kernel
theorem d_M_isBetter_19 : decode c_M_isBetter 19 = .ok (.iaload, 1) := by decide +kernel
theorem d_M_isBetter_20 : decode c_M_isBetter 20 = .ok (.if_icmp .ge 7, 3) := by decide +kernel
theorem d_M_isBetter_23 : decode c_M_isBetter 23 = .ok (.iconst 1, 1) := by decide +kernel
theorem d_M_isBetter_24 : decode c_M_isBetter 24 = .ok (.goto 4, 3) := by decide +kernel
theorem d_M_isBetter_27 : decode c_M_isBetter 27 = .ok (.iconst 0, 1) := by decide +kernel
theorem d_M_isBetter_28 : decode c_M_isBetter 28 = .ok (.ireturn, 1) := by decide +kernel
theorem d_M_isBetter_29 : decode c_M_isBetter 29 = .ok (.aload_n 0, 1) := by decide +kernel
theorem d_M_isBetter_30 : decode c_M_isBetter 30 = .ok (.getfield 98, 3) := by decide +kernel
theorem d_M_isBetter_33 : decode c_M_isBetter 33 = .ok (.iconst 2, 1) := by decide +kernel
theorem d_M_isBetter_34 : decode c_M_isBetter 34 = .ok (.if_icmp .ne 24, 3) := by decide +kernel
theorem d_M_isBetter_37 : decode c_M_isBetter 37 = .ok (.aload_n 0, 1) := by decide +kernel
theorem d_M_isBetter_38 : decode c_M_isBetter 38 = .ok (.getfield 30, 3) := by decide +kernel
theorem d_M_isBetter_41 : decode c_M_isBetter 41 = .ok (.iload_n 1, 1) := by decide +kernel
theorem d_M_isBetter_42 : decode c_M_isBetter 42 = .ok (.iaload, 1) := by decide +kernel
theorem d_M_isBetter_43 : decode c_M_isBetter 43 = .ok (.aload_n 0, 1) := by decide +kernel
theorem d_M_isBetter_44 : decode c_M_isBetter 44 = .ok (.getfield 30, 3) := by decide +kernel
theorem d_M_isBetter_47 : decode c_M_isBetter 47 = .ok (.iload_n 2, 1) := by decide +kernel
theorem d_M_isBetter_48 : decode c_M_isBetter 48 = .ok (.iaload, 1) := by decide +kernel
theorem d_M_isBetter_49 : decode c_M_isBetter 49 = .ok (.if_icmp .le 7, 3) := by decide +kernel
theorem d_M_isBetter_52 : decode c_M_isBetter 52 = .ok (.iconst 1, 1) := by decide +kernel
theorem d_M_isBetter_53 : decode c_M_isBetter 53 = .ok (.goto 4, 3) := by decide +kernel
theorem d_M_isBetter_56 : decode c_M_isBetter 56 = .ok (.iconst 0, 1) := by decide +kernel
theorem d_M_isBetter_57 : decode c_M_isBetter 57 = .ok (.ireturn, 1) := by decide +kernel
theorem d_M_isBetter_58 : decode c_M_isBetter 58 = .ok (.aload_n 0, 1) := by decide +kernel
theorem d_M_isBetter_59 : decode c_M_isBetter 59 = .ok (.getfield 98, 3) := by decide +kernel
theorem d_M_isBetter_62 : decode c_M_isBetter 62 = .ok (.iconst 4, 1) := by decide +kernel
theorem d_M_isBetter_63 : decode c_M_isBetter 63 = .ok (.if_icmp .ne 39, 3) := by decide +kernel
theorem d_M_isBetter_66 : decode c_M_isBetter 66 = .ok (.aload_n 0, 1) := by decide +kernel
theorem d_M_isBetter_67 : decode c_M_isBetter 67 = .ok (.getfield 36, 3) := by decide +kernel
theorem d_M_isBetter_70 : decode c_M_isBetter 70 = .ok (.iload_n 1, 1) := by decide +kernel
theorem d_M_isBetter_71 : decode c_M_isBetter 71 = .ok (.iaload, 1) := by decide +kernel
theorem d_M_isBetter_72 : decode c_M_isBetter 72 = .ok (.aload_n 0, 1) := by decide +kernel
theorem d_M_isBetter_73 : decode c_M_isBetter 73 = .ok (.getfield 36, 3) := by decide +kernel
theorem d_M_isBetter_76 : decode c_M_isBetter 76 = .ok (.iload_n 2, 1) := by decide +kernel
theorem d_M_isBetter_77 : decode c_M_isBetter 77 = .ok (.iaload, 1) := by decide +kernel
theorem d_M_isBetter_78 : decode c_M_isBetter 78 = .ok (.if_icmp .eq 24, 3) := by decide +kernel
theorem d_M_isBetter_81 : decode c_M_isBetter 81 = .ok (.aload_n 0, 1) := by decide +kernel
theorem d_M_isBetter_82 : decode c_M_isBetter 82 = .ok (.getfield 36, 3) := by decide +kernel
theorem d_M_isBetter_85 : decode c_M_isBetter 85 = .ok (.iload_n 1, 1) := by decide +kernel
theorem d_M_isBetter_86 : decode c_M_isBetter 86 = .ok (.iaload, 1) := by decide +kernel
theorem d_M_isBetter_87 : decode c_M_isBetter 87 = .ok (.aload_n 0, 1) := by decide +kernel
theorem d_M_isBetter_88 : decode c_M_isBetter 88 = .ok (.getfield 36, 3) := by decide +kernel
theorem d_M_isBetter_91 : decode c_M_isBetter 91 = .ok (.iload_n 2, 1) := by decide +kernel
theorem d_M_isBetter_92 : decode c_M_isBetter 92 = .ok (.iaload, 1) := by decide +kernel
theorem d_M_isBetter_93 : decode c_M_isBetter 93 = .ok (.if_icmp .ge 7, 3) := by decide +kernel
theorem d_M_isBetter_96 : decode c_M_isBetter 96 = .ok (.iconst 1, 1) := by decide +kernel
theorem d_M_isBetter_97 : decode c_M_isBetter 97 = .ok (.goto 4, 3) := by decide +kernel
theorem d_M_isBetter_100 : decode c_M_isBetter 100 = .ok (.iconst 0, 1) := by decide +kernel
theorem d_M_isBetter_101 : decode c_M_isBetter 101 = .ok (.ireturn, 1) := by decide +kernel
theorem d_M_isBetter_102 : decode c_M_isBetter 102 = .ok (.aload_n 0, 1) := by decide +kernel
theorem d_M_isBetter_103 : decode c_M_isBetter 103 = .ok (.getfield 30, 3) := by decide +kernel
theorem d_M_isBetter_106 : decode c_M_isBetter 106 = .ok (.iload_n 1, 1) := by decide +kernel
theorem d_M_isBetter_107 : decode c_M_isBetter 107 = .ok (.iaload, 1) := by decide +kernel
theorem d_M_isBetter_108 : decode c_M_isBetter 108 = .ok (.aload_n 0, 1) := by decide +kernel
theorem d_M_isBetter_109 : decode c_M_isBetter 109 = .ok (.getfield 30, 3) := by decide +kernel
theorem d_M_isBetter_112 : decode c_M_isBetter 112 = .ok (.iload_n 2, 1) := by decide +kernel
theorem d_M_isBetter_113 : decode c_M_isBetter 113 = .ok (.iaload, 1) := by decide +kernel
theorem d_M_isBetter_114 : decode c_M_isBetter 114 = .ok (.if_icmp .ge 7, 3) := by decide +kernel
theorem d_M_isBetter_117 : decode c_M_isBetter 117 = .ok (.iconst 1, 1) := by decide +kernel
theorem d_M_isBetter_118 : decode c_M_isBetter 118 = .ok (.goto 4, 3) := by decide +kernel
theorem d_M_isBetter_121 : decode c_M_isBetter 121 = .ok (.iconst 0, 1) := by decide +kernel
theorem d_M_isBetter_122 : decode c_M_isBetter 122 = .ok (.ireturn, 1) := by decide +kernel
theorem ey_M_best : eY y_M_best 1 = true := by decide +kernel
theorem d_M_best_0 : decode c_M_best 0 = .ok (.iconst (-1), 1) := by decide +kernel
theorem d_M_best_1 : decode c_M_best 1 = .ok (.istore_n 2, 1) := by decide +kernel
theorem d_M_best_2 : decode c_M_best 2 = .ok (.iload_n 1, 1) := by decide +kernel
theorem d_M_best_3 : decode c_M_best 3 = .ok (.istore_n 3, 1) := by decide +kernel
theorem d_M_best_4 : decode c_M_best 4 = .ok (.iload_n 3, 1) := by decide +kernel
theorem d_M_best_5 : decode c_M_best 5 = .ok (.iload_n 1, 1) := by decide +kernel
theorem d_M_best_6 : decode c_M_best 6 = .ok (.aload_n 0, 1) := by decide +kernel
theorem d_M_best_7 : decode c_M_best 7 = .ok (.getfield 95, 3) := by decide +kernel
theorem d_M_best_10 : decode c_M_best 10 = .ok (.iadd, 1) := by decide +kernel
theorem d_M_best_11 : decode c_M_best 11 = .ok (.if_icmp .ge 33, 3) := by decide +kernel
theorem d_M_best_14 : decode c_M_best 14 = .ok (.aload_n 0, 1) := by decide +kernel
theorem d_M_best_15 : decode c_M_best 15 = .ok (.getfield 27, 3) := by decide +kernel
theorem d_M_best_18 : decode c_M_best 18 = .ok (.iload_n 3, 1) := by decide +kernel
theorem d_M_best_19 : decode c_M_best 19 = .ok (.baload, 1) := by decide +kernel
theorem d_M_best_20 : decode c_M_best 20 = .ok (.ifCond .ne 18, 3) := by decide +kernel
theorem d_M_best_23 : decode c_M_best 23 = .ok (.iload_n 2, 1) := by decide +kernel
theorem d_M_best_24 : decode c_M_best 24 = .ok (.ifCond .lt 12, 3) := by decide +kernel
theorem d_M_best_27 : decode c_M_best 27 = .ok (.aload_n 0, 1) := by decide +kernel
theorem d_M_best_28 : decode c_M_best 28 = .ok (.iload_n 3, 1) := by decide +kernel
theorem d_M_best_29 : decode c_M_best 29 = .ok (.iload_n 2, 1) := by decide +kernel
theorem d_M_best_30 : decode c_M_best 30 = .ok (.invokevirtual 131, 3) := by decide +kernel
theorem d_M_best_33 : decode c_M_best 33 = .ok (.ifCond .eq 5, 3) := by decide +kernel
theorem d_M_best_36 : decode c_M_best 36 = .ok (.iload_n 3, 1) := by decide +kernel
theorem d_M_best_37 : decode c_M_best 37 = .ok (.istore_n 2, 1) := by decide +kernel
theorem d_M_best_38 : decode c_M_best 38 = .ok (.iinc 3 1, 3) := by decide +kernel
theorem d_M_best_41 : decode c_M_best 41 = .ok (.goto (-37), 3) := by decide +kernel
theorem d_M_best_44 : decode c_M_best 44 = .ok (.iload_n 2, 1) := by decide +kernel
theorem d_M_best_45 : decode c_M_best 45 = .ok (.ireturn, 1) := by decide +kernel
/-- sizes: sets, ways, rule, room -/
def MD (v : Nat → Int32) (S wd V kd : Nat) : Prop := v 1 = nI S ∧ v 2 = nI wd ∧ v 3 = nI kd ∧ v 4 = nI V ∧ (∃ k, k ≤ 4 ∧ S = 2 ^ k) ∧ (1 ≤ wd ∧ wd ≤ 8) ∧ V ≤ 4 ∧ kd < 10
theorem MD.S16 {v : Nat → Int32} {S wd V kd : Nat} (h : MD v S wd V kd) : 1 ≤ S ∧ S ≤ 16 := by
  obtain ⟨-, -, -, -, ⟨k, hk, rfl⟩, -⟩ := h
  rcases (by omega : k = 0 ∨ k = 1 ∨ k = 2 ∨ k = 3 ∨ k = 4) with rfl | rfl | rfl | rfl | rfl <;> decide
theorem MD.w8 {v : Nat → Int32} {S wd V kd : Nat} (h : MD v S wd V kd) : 1 ≤ wd ∧ wd ≤ 8 := h.2.2.2.2.2.1
theorem MD.lt {v : Nat → Int32} {S wd V kd : Nat} (h : MD v S wd V kd) (x : Int32) : sN S x < S := Nat.mod_lt _ h.S16.1
theorem MD.set {v : Nat → Int32} {S wd V kd : Nat} (h : MD v S wd V kd) (x : Int32) : x &&& (v 1 - 1) = nI (sN S x) := by
  obtain ⟨h1, -, -, -, ⟨k, hk, rfl⟩, -⟩ := h
  rw [h1]
  refine pk_and x k ?_
  rcases (by omega : k = 0 ∨ k = 1 ∨ k = 2 ∨ k = 3 ∨ k = 4) with rfl | rfl | rfl | rfl | rfl <;> decide +kernel
/-- the last one that has P; b is the last so far -/
def lstG (P : Nat → Bool) : Option Nat → Nat → Nat → Option Nat
  | b, _, 0 => b
  | b, k, m + 1 => lstG P (if P k then some k else b) (k + 1) m
def hasM (f : Nat → Nat → Int32) (x : Int32) (j : Nat) : Bool := !(f 7 j == 0) && (f 8 j == x)
/-- bits of the tree above a node -/
def taF (b0 : Nat) : Nat → Nat → (Nat → Int32) → (Nat → Int32)
  | 0, _, g => g
  | m + 1, node, g => if node ≤ 1 then g else taF b0 m (node / 2) (upd g (b0 + node / 2) (if node % 2 = 0 then 1 else 0))
/-- all of them -/
def alB (g : Nat → Int32) : Bool → Nat → Nat → Bool
  | b, _, 0 => b
  | b, k, m + 1 => alB g (b && !(g k == 0)) (k + 1) m
theorem alB_f (g : Nat → Int32) : ∀ k m, alB g false k m = false
  | _, 0 => rfl
  | k, m + 1 => by rw [alB, Bool.false_and]; exact alB_f g (k + 1) m
theorem alB_t (g : Nat → Int32) : ∀ k m, alB g true k m = (fst1 (fun j => g j == 0) k m).isNone
  | _, 0 => rfl
  | k, m + 1 => by
    rw [alB, fst1, Bool.true_and]
    by_cases h : (g k == 0) = true
    · rw [if_pos h, h]
      exact alB_f g _ _
    · have h : (g k == 0) = false := by simpa using h
      rw [if_neg (by rw [h]; decide), h]
      exact alB_t g (k + 1) m
/-- goes sooner, by last, came and uses -/
def gsG (num : Int32) (la ca us : Nat → Int32) (i j : Nat) : Bool :=
  if num = 1 then !decide (ca j ≤ ca i) else if num = 2 then !decide (la i ≤ la j) else if num = 4 ∧ ¬ us i = us j then !decide (us j ≤ us i) else !decide (la j ≤ la i)
/-- a use is told -/
def tuS (wd kd : Nat) (m : CS) (s w : Nat) : CS := (upd m.1 12 (m.1 12 + 1), up2 (up2 (up2 (up2 (up2 m.2 13 (upd (m.2 13) (8 * s + w) (m.1 12 + 1))) 15 (upd (m.2 15) (8 * s + w) (m.2 15 (8 * s + w) + 1))) 17 (upd (m.2 17) (8 * s + w) 0)) 19 (taF (8 * s) 4 (lvN wd + w) (m.2 19))) 16 (if kd = 7 then ltM (m.2 16) (8 * s) wd w else upd (m.2 16) (8 * s + w) 1))
/-- a coming is told -/
def tcS (wd kd : Nat) (m : CS) (s w : Nat) : CS := (upd m.1 12 (m.1 12 + 1), up2 (up2 (up2 (up2 (up2 (up2 m.2 13 (upd (m.2 13) (8 * s + w) (if kd = 9 then -(m.1 12 + 1) else m.1 12 + 1))) 14 (upd (m.2 14) (8 * s + w) (m.1 12 + 1))) 15 (upd (m.2 15) (8 * s + w) 0)) 17 (upd (m.2 17) (8 * s + w) 2)) 19 (taF (8 * s) 4 (lvN wd + w) (m.2 19))) 16 (if kd = 7 then ltM (m.2 16) (8 * s) wd w else upd (m.2 16) (8 * s + w) 0))
theorem oI_lt {o : Option Nat} (h : ∀ k, o = some k → k < 2 ^ 31) : oI o < 0 ↔ o = none := by
  cases o with
  | none => simp [oI]
  | some k =>
    simp only [oI, reduceCtorEq, iff_false]
    exact nI_pos (h k rfl)
section M1
variable {l : Launch} {G : EG} {a : Nat → Nat} {m : CS} {S wd V kd s w : Nat} {ws : va_W}
theorem k_M_thrown : Con l G y_M_thrown c_M_thrown 1 (some .int) (rz 0 0) [.ref (a 40)] (mF G a m.1 m.2) (DI (m.1 0) (mF G a m.1 m.2)) := by
  refine Con.of rfl rfl (fun X C E hR hl hnm => ?_)
  refine e_aload_n C d_M_thrown_0 rfl ?_
  refine e_get C 0 (k := 0) in_M g744 d_M_thrown_1 rfl rfl rfl rfl ?_
  exact e_iret C E d_M_thrown_4 (Nat.le_refl _) (Nat.le_refl _) rfl ⟨rfl, rfl⟩
theorem k_M_fail (q : Int32) : Con l G y_M_fail c_M_fail 2 (some .int) (rz 0 0) [.ref (a 40), .int q] (mF G a m.1 m.2) (DI 0 (mF G a (upd m.1 0 q) m.2)) := by
  refine Con.of rfl rfl (fun X C E hR hl hnm => ?_)
  refine e_aload_n C d_M_fail_0 rfl ?_
  refine e_iload_n C d_M_fail_1 rfl ?_
  refine e_put C 0 (k := 0) in_M tk_M nm_M g744 d_M_fail_2 rfl rfl rfl rfl rfl rfl rfl rfl ?_
  refine e_iconst C d_M_fail_5 (v := 0) (by decide) ?_
  exact e_iret C E d_M_fail_6 (Nat.le_refl _) (Nat.le_refl _) rfl ⟨rfl, rfl⟩
theorem k_M_within (x lo hi : Int32) : Con l G y_M_within c_M_within 3 (some .boolean) (rz 0 0) [.int x, .int lo, .int hi] ws (DI (bI (!decide (x < lo) && !decide (hi < x))) ws) := by
  refine Con.of rfl rfl (fun X C E hR hl hnm => ?_)
  refine e_iload_n C d_M_within_0 rfl ?_
  refine e_iload_n C d_M_within_1 rfl ?_
  refine e_icmp_lt C d_M_within_2 (tgt := 14) (by decide) (fun h2 => ?_) (fun h2 => ?_)
  · skip
    refine e_iconst C d_M_within_14 (v := 0) (by decide) ?_
    exact e_iret C E d_M_within_15 (Nat.le_refl _) (Nat.le_refl _) rfl ⟨by simp [h2, bI], rfl⟩
  · skip
    refine e_iload_n C d_M_within_5 rfl ?_
    refine e_iload_n C d_M_within_6 rfl ?_
    refine e_icmp_gt C d_M_within_7 (tgt := 14) (by decide) (fun h7 => ?_) (fun h7 => ?_)
    · skip
      refine e_iconst C d_M_within_14 (v := 0) (by decide) ?_
      exact e_iret C E d_M_within_15 (Nat.le_refl _) (Nat.le_refl _) rfl ⟨by simp [h7, bI], rfl⟩
    · skip
      refine e_iconst C d_M_within_10 (v := 1) (by decide) ?_
      refine e_goto C d_M_within_11 (tgt := 15) (by decide) ?_
      exact e_iret C E d_M_within_15 (Nat.le_refl _) (Nat.le_refl _) rfl ⟨by simp [h2, h7, bI], rfl⟩
set_option maxRecDepth 100000 in
theorem k_M_mode (t p : Bool) : Con l G y_M_mode c_M_mode 4 (some .int) (rz 0 0) [.ref (a 40), .int (bI t), .int (bI p)] (mF G a m.1 m.2) (DI ((if m.1 5 = 0 then 0 else 1) + (if m.1 6 = 0 then 0 else 2)) (mF G a (upd (upd (upd m.1 0 0) 5 (bI t)) 6 (bI p)) m.2)) := by
  refine Con.of rfl rfl (fun X C E hR hl hnm => ?_)
  have tail : ∀ y : Int32, y = ((if m.1 5 = 0 then 0 else 1) + (if m.1 6 = 0 then 0 else 2)) → EW X G 4 0 0 30 [(0, .ref (a 40)), (1, .int (bI t)), (2, .int (bI p))] [.int y] (mF G a (upd m.1 0 0) m.2) := by
    intro y hy
    rw [← hy] at E
    refine e_istore_n C d_M_mode_30 rfl ?_
    refine e_aload_n C d_M_mode_31 rfl ?_
    refine e_iload_n C d_M_mode_32 rfl ?_
    refine e_put C 0 (k := 5) in_M tk_M nm_M g749 d_M_mode_33 rfl rfl rfl rfl rfl rfl (narrow_bI t) (fits_bI t) ?_
    refine e_aload_n C d_M_mode_36 rfl ?_
    refine e_iload_n C d_M_mode_37 rfl ?_
    refine e_put C 0 (k := 6) in_M tk_M nm_M g750 d_M_mode_38 rfl rfl rfl rfl rfl rfl (narrow_bI p) (fits_bI p) ?_
    refine e_iload_n C d_M_mode_41 rfl ?_
    exact e_iret C E d_M_mode_42 (Nat.le_refl _) (Nat.le_refl _) rfl ⟨rfl, rfl⟩
  have mid : ∀ y : Int32, y = (if m.1 5 = 0 then 0 else 1) → EW X G 4 0 0 17 [(0, .ref (a 40)), (1, .int (bI t)), (2, .int (bI p))] [.int y] (mF G a (upd m.1 0 0) m.2) := by
    intro y hy
    refine e_aload_n C d_M_mode_17 rfl ?_
    refine e_get C 0 (k := 6) in_M g750 d_M_mode_18 rfl rfl rfl rfl ?_
    refine e_if_eq C d_M_mode_21 (tgt := 28) (by decide) (fun h21 => ?_) (fun h21 => ?_)
    · skip
      refine e_iconst C d_M_mode_28 (v := 0) (by decide) ?_
      refine e_iadd C d_M_mode_29 ?_
      exact tail _ (by rw [hy, if_pos (show m.1 6 = 0 from h21)])
    · skip
      refine e_iconst C d_M_mode_24 (v := 2) (by decide) ?_
      refine e_goto C d_M_mode_25 (tgt := 29) (by decide) ?_
      refine e_iadd C d_M_mode_29 ?_
      exact tail _ (by rw [hy, if_neg (show ¬ m.1 6 = 0 from h21)])
  refine e_aload_n C d_M_mode_0 rfl ?_
  refine e_iconst C d_M_mode_1 (v := 0) (by decide) ?_
  refine e_put C 0 (k := 0) in_M tk_M nm_M g744 d_M_mode_2 rfl rfl rfl rfl rfl rfl rfl rfl ?_
  refine e_aload_n C d_M_mode_5 rfl ?_
  refine e_get C 0 (k := 5) in_M g749 d_M_mode_6 rfl rfl rfl rfl ?_
  refine e_if_eq C d_M_mode_9 (tgt := 16) (by decide) (fun h9 => ?_) (fun h9 => ?_)
  · skip
    refine e_iconst C d_M_mode_16 (v := 0) (by decide) ?_
    exact e_lv2 (mid _ (by rw [if_pos (show m.1 5 = 0 from h9)])) rfl
  · skip
    refine e_iconst C d_M_mode_12 (v := 1) (by decide) ?_
    refine e_goto C d_M_mode_13 (tgt := 17) (by decide) ?_
    exact e_lv2 (mid _ (by rw [if_neg (show ¬ m.1 5 = 0 from h9)])) rfl
set_option maxRecDepth 100000 in
theorem k_M_ones {j : Nat} (hj : j < 16) : Con l G y_M_ones c_M_ones 1 (some .int) (rz 0 0) [.int (nI j)] ws (DI (nI (pop4 j)) ws) := by
  refine Con.of rfl rfl (fun X C E hR hl hn => ?_)
  refine e_iload_n C d_M_ones_0 rfl ?_
  refine e_iconst C d_M_ones_1 (v := 1) (by decide) ?_
  refine e_iand C d_M_ones_2 ?_
  refine e_iload_n C d_M_ones_3 rfl ?_
  refine e_iconst C d_M_ones_4 (v := 1) (by decide) ?_
  refine e_ishr C d_M_ones_5 ?_
  refine e_iconst C d_M_ones_6 (v := 1) (by decide) ?_
  refine e_iand C d_M_ones_7 ?_
  refine e_iadd C d_M_ones_8 ?_
  refine e_iload_n C d_M_ones_9 rfl ?_
  refine e_iconst C d_M_ones_10 (v := 2) (by decide) ?_
  refine e_ishr C d_M_ones_11 ?_
  refine e_iconst C d_M_ones_12 (v := 1) (by decide) ?_
  refine e_iand C d_M_ones_13 ?_
  refine e_iadd C d_M_ones_14 ?_
  refine e_iload_n C d_M_ones_15 rfl ?_
  refine e_iconst C d_M_ones_16 (v := 3) (by decide) ?_
  refine e_ishr C d_M_ones_17 ?_
  refine e_iconst C d_M_ones_18 (v := 1) (by decide) ?_
  refine e_iand C d_M_ones_19 ?_
  refine e_iadd C d_M_ones_20 ?_
  refine e_top (y := nI (pop4 j)) ?_ ?_
  · clear E C hR hl hn X
    revert j
    decide +kernel
  exact e_iret C E d_M_ones_21 (Nat.le_refl _) (Nat.le_refl _) rfl ⟨rfl, rfl⟩
theorem k_M_setOf (h : MD m.1 S wd V kd) (x : Int32) : Con l G y_M_setOf c_M_setOf 2 (some .int) (rz 0 0) [.ref (a 40), .int x] (mF G a m.1 m.2) (DI (nI (sN S x)) (mF G a m.1 m.2)) := by
  refine Con.of rfl rfl (fun X C E hR hl hnm => ?_)
  refine e_iload_n C d_M_setOf_0 rfl ?_
  refine e_aload_n C d_M_setOf_1 rfl ?_
  refine e_get C 0 (k := 1) in_M g745 d_M_setOf_2 rfl rfl rfl rfl ?_
  refine e_iconst C d_M_setOf_5 (v := 1) (by decide) ?_
  refine e_isub C d_M_setOf_6 ?_
  refine e_iand C d_M_setOf_7 ?_
  exact e_iret C E d_M_setOf_8 (Nat.le_refl _) (Nat.le_refl _) rfl ⟨congrArg (fun z => some (Value.int z)) (h.set x), rfl⟩
set_option maxRecDepth 100000 in
theorem k_M_find (h : MD m.1 S wd V kd) (x : Int32) : Con l G y_M_find c_M_find 5 (some .int) (rz 1 21) [.ref (a 40), .int x] (mF G a m.1 m.2) (DI (oI (lstG (hasM m.2 x) none (8 * sN S x) wd)) (mF G a m.1 m.2)) := by
  refine Con.of rfl rfl (fun X C E hR hl hnm => ?_)
  have hS := h.S16
  have hw8 := h.w8
  have hs := h.lt x
  refine e_iconst C d_M_find_0 (v := (-1)) (by decide) ?_
  refine e_istore_n C d_M_find_1 rfl ?_
  refine e_bipush C d_M_find_2 (v := nI 8) (by decide) ?_
  refine e_aload_n C d_M_find_4 rfl ?_
  refine e_iload_n C d_M_find_5 rfl ?_
  refine e_cVi C hR 0 (k_M_setOf h x) g883 g14 g880 g882 (gt_sel 14 (by decide +kernel) (by decide +kernel)) d_M_find_6 rfl ey_M_setOf rfl rfl rfl rfl ⟨Nat.zero_le _, Nat.zero_le _⟩ ?_
  refine e_imul C d_M_find_9 ?_
  refine e_top (pk_mul _ _) ?_
  refine e_istore_n C d_M_find_10 rfl ?_
  refine e_iload_n C d_M_find_11 rfl ?_
  refine e_istore C d_M_find_12 rfl ?_
  generalize hb : 8 * sN S x = b0 at E ⊢
  have hb0 : b0 + 8 ≤ 128 := by omega
  have L : ∀ (q k : Nat) (b : Option Nat), k + q = b0 + wd → lstG (hasM m.2 x) b k q = lstG (hasM m.2 x) none b0 wd → EW X G 5 0 0 14 [(0, .ref (a 40)), (1, .int x), (2, .int (oI b)), (3, .int (nI b0)), (4, .int (nI k))] [] (mF G a m.1 m.2) := by
    intro q
    induction q with
    | zero =>
      intro k b hk hf
      have hf : b = _ := hf
      refine e_iload C d_M_find_14 rfl ?_
      refine e_iload_n C d_M_find_16 rfl ?_
      refine e_aload_n C d_M_find_17 rfl ?_
      refine e_get C 0 (k := 2) in_M g746 d_M_find_18 rfl rfl rfl rfl ?_
      refine e_top h.2.1 ?_
      refine e_iadd C d_M_find_21 ?_
      refine e_top (nI_add _ _) ?_
      refine e_icmp_ge C d_M_find_22 (tgt := 59) (by decide) (fun h22 => ?_) (fun h22 => ?_)
      · skip
        refine e_iload_n C d_M_find_59 rfl ?_
        exact e_iret C E d_M_find_60 (Nat.le_refl _) (Nat.le_refl _) rfl ⟨by rw [← hf], rfl⟩
      · exact absurd (nI_le (by omega) (by omega)) h22
    | succ q ih =>
      intro k b hk hf
      refine e_iload C d_M_find_14 rfl ?_
      refine e_iload_n C d_M_find_16 rfl ?_
      refine e_aload_n C d_M_find_17 rfl ?_
      refine e_get C 0 (k := 2) in_M g746 d_M_find_18 rfl rfl rfl rfl ?_
      refine e_top h.2.1 ?_
      refine e_iadd C d_M_find_21 ?_
      refine e_top (nI_add _ _) ?_
      refine e_icmp_ge C d_M_find_22 (tgt := 59) (by decide) (fun h22 => ?_) (fun h22 => ?_)
      · exact absurd h22 (nI_ge (by omega) (by omega))
      · skip
        refine e_aload_n C d_M_find_25 rfl ?_
        refine e_get C 0 (k := 7) in_M g751 d_M_find_26 rfl rfl rfl rfl ?_
        refine e_iload C d_M_find_29 rfl ?_
        refine e_zald C 1 1 d_M_find_31 rfl rfl k rfl (by omega) (by omega) ?_
        refine e_if_eq C d_M_find_32 (tgt := 51) (by decide) (fun h32 => ?_) (fun h32 => ?_)
        · have hh : hasM m.2 x k = false := by simp [hasM]; intro z; exact absurd h32 z
          refine e_iload_n C d_M_find_51 rfl ?_
          refine e_istore_n C d_M_find_52 rfl ?_
          refine e_iinc C d_M_find_53 rfl (nI_1 k) rfl ?_
          refine e_goto C d_M_find_56 (tgt := 14) (by decide) ?_
          exact e_lv2 (ih (k + 1) b (by omega) (by rw [← hf]; simp [lstG, hh])) rfl
        · skip
          refine e_aload_n C d_M_find_35 rfl ?_
          refine e_get C 0 (k := 8) in_M g752 d_M_find_36 rfl rfl rfl rfl ?_
          refine e_iload C d_M_find_39 rfl ?_
          refine e_iald C 2 0 d_M_find_41 rfl rfl k rfl (by omega) (by omega) ?_
          refine e_iload_n C d_M_find_42 rfl ?_
          refine e_icmp_ne C d_M_find_43 (tgt := 51) (by decide) (fun h43 => ?_) (fun h43 => ?_)
          · have hh : hasM m.2 x k = false := by simp [hasM]; intro _; exact h43
            refine e_iload_n C d_M_find_51 rfl ?_
            refine e_istore_n C d_M_find_52 rfl ?_
            refine e_iinc C d_M_find_53 rfl (nI_1 k) rfl ?_
            refine e_goto C d_M_find_56 (tgt := 14) (by decide) ?_
            exact e_lv2 (ih (k + 1) b (by omega) (by rw [← hf]; simp [lstG, hh])) rfl
          · have hh : hasM m.2 x k = true := by simp [hasM]; exact ⟨h32, h43⟩
            refine e_iload C d_M_find_46 rfl ?_
            refine e_goto C d_M_find_48 (tgt := 52) (by decide) ?_
            refine e_istore_n C d_M_find_52 rfl ?_
            refine e_iinc C d_M_find_53 rfl (nI_1 k) rfl ?_
            refine e_goto C d_M_find_56 (tgt := 14) (by decide) ?_
            exact e_lv2 (ih (k + 1) (some k) (by omega) (by rw [← hf]; simp [lstG, hh])) rfl
  exact e_lv2 (L wd b0 none rfl rfl) rfl
set_option maxRecDepth 100000 in
theorem k_M_findRow {z : Nat} (hz : m.1 21 = nI z) (hz4 : z ≤ 5) (x : Int32) : Con l G y_M_findRow c_M_findRow 4 (some .int) (rz 0 0) [.ref (a 40), .int x] (mF G a m.1 m.2) (DI (oI (lstG (fun k => m.2 22 k == x) none 0 z)) (mF G a m.1 m.2)) := by
  refine Con.of rfl rfl (fun X C E hR hl hnm => ?_)
  refine e_iconst C d_M_findRow_0 (v := (-1)) (by decide) ?_
  refine e_istore_n C d_M_findRow_1 rfl ?_
  refine e_iconst C d_M_findRow_2 (v := 0) (by decide) ?_
  refine e_istore_n C d_M_findRow_3 rfl ?_
  have L : ∀ (q k : Nat) (b : Option Nat), k + q = z → lstG (fun k => m.2 22 k == x) b k q = lstG (fun k => m.2 22 k == x) none 0 z → EW X G 4 0 0 4 [(0, .ref (a 40)), (1, .int x), (2, .int (oI b)), (3, .int (nI k))] [] (mF G a m.1 m.2) := by
    intro q
    induction q with
    | zero =>
      intro k b hk hf
      have hf : b = _ := hf
      refine e_iload_n C d_M_findRow_4 rfl ?_
      refine e_aload_n C d_M_findRow_5 rfl ?_
      refine e_get C 0 (k := 21) in_M g765 d_M_findRow_6 rfl rfl rfl rfl ?_
      refine e_top hz ?_
      refine e_icmp_ge C d_M_findRow_9 (tgt := 34) (by decide) (fun h9 => ?_) (fun h9 => ?_)
      · skip
        refine e_iload_n C d_M_findRow_34 rfl ?_
        exact e_iret C E d_M_findRow_35 (Nat.le_refl _) (Nat.le_refl _) rfl ⟨by rw [← hf], rfl⟩
      · exact absurd (nI_le (by omega) (by omega)) h9
    | succ q ih =>
      intro k b hk hf
      refine e_iload_n C d_M_findRow_4 rfl ?_
      refine e_aload_n C d_M_findRow_5 rfl ?_
      refine e_get C 0 (k := 21) in_M g765 d_M_findRow_6 rfl rfl rfl rfl ?_
      refine e_top hz ?_
      refine e_icmp_ge C d_M_findRow_9 (tgt := 34) (by decide) (fun h9 => ?_) (fun h9 => ?_)
      · exact absurd h9 (nI_ge (by omega) (by omega))
      · skip
        refine e_aload_n C d_M_findRow_12 rfl ?_
        refine e_get C 0 (k := 22) in_M g766 d_M_findRow_13 rfl rfl rfl rfl ?_
        refine e_iload_n C d_M_findRow_16 rfl ?_
        refine e_iald C 13 0 d_M_findRow_17 rfl rfl k rfl (by omega) (by omega) ?_
        refine e_iload_n C d_M_findRow_18 rfl ?_
        refine e_icmp_ne C d_M_findRow_19 (tgt := 26) (by decide) (fun h19 => ?_) (fun h19 => ?_)
        · have h19 : ¬ m.2 22 k = x := h19
          refine e_iload_n C d_M_findRow_26 rfl ?_
          refine e_istore_n C d_M_findRow_27 rfl ?_
          refine e_iinc C d_M_findRow_28 rfl (nI_1 k) rfl ?_
          refine e_goto C d_M_findRow_31 (tgt := 4) (by decide) ?_
          exact e_lv2 (ih (k + 1) b (by omega) (by rw [← hf]; simp [lstG, h19])) rfl
        · have h19 : m.2 22 k = x := h19
          refine e_iload_n C d_M_findRow_22 rfl ?_
          refine e_goto C d_M_findRow_23 (tgt := 27) (by decide) ?_
          refine e_istore_n C d_M_findRow_27 rfl ?_
          refine e_iinc C d_M_findRow_28 rfl (nI_1 k) rfl ?_
          refine e_goto C d_M_findRow_31 (tgt := 4) (by decide) ?_
          exact e_lv2 (ih (k + 1) (some k) (by omega) (by rw [← hf]; simp [lstG, h19])) rfl
  exact e_lv2 (L z 0 none (by omega) rfl) rfl
theorem k_M_treeSize (h : MD m.1 S wd V kd) : Con l G y_M_treeSize c_M_treeSize 1 (some .int) (rz 0 0) [.ref (a 40)] (mF G a m.1 m.2) (DI (nI (lvN wd)) (mF G a m.1 m.2)) := by
  refine Con.of rfl rfl (fun X C E hR hl hnm => ?_)
  have hw8 := h.w8
  refine e_aload_n C d_M_treeSize_0 rfl ?_
  refine e_get C 0 (k := 2) in_M g746 d_M_treeSize_1 rfl rfl rfl rfl ?_
  refine e_top h.2.1 ?_
  refine e_iconst C d_M_treeSize_4 (v := nI 1) (by decide) ?_
  refine e_icmp_ne C d_M_treeSize_5 (tgt := 12) (by decide) (fun h5 => ?_) (fun h5 => ?_)
  · rw [nI_eq (by omega) (by omega)] at h5
    refine e_aload_n C d_M_treeSize_12 rfl ?_
    refine e_get C 0 (k := 2) in_M g746 d_M_treeSize_13 rfl rfl rfl rfl ?_
    refine e_top h.2.1 ?_
    refine e_iconst C d_M_treeSize_16 (v := nI 2) (by decide) ?_
    refine e_icmp_ne C d_M_treeSize_17 (tgt := 24) (by decide) (fun h17 => ?_) (fun h17 => ?_)
    · rw [nI_eq (by omega) (by omega)] at h17
      refine e_aload_n C d_M_treeSize_24 rfl ?_
      refine e_get C 0 (k := 2) in_M g746 d_M_treeSize_25 rfl rfl rfl rfl ?_
      refine e_top h.2.1 ?_
      refine e_iconst C d_M_treeSize_28 (v := nI 5) (by decide) ?_
      refine e_icmp_ge C d_M_treeSize_29 (tgt := 36) (by decide) (fun h29 => ?_) (fun h29 => ?_)
      · rw [nI_leI (by omega) (by omega)] at h29
        refine e_bipush C d_M_treeSize_36 (v := 8) (by decide) ?_
        exact e_iret C E d_M_treeSize_38 (Nat.le_refl _) (Nat.le_refl _) rfl ⟨by rw [show lvN wd = 8 by simp only [lvN, if_neg (show ¬ wd ≤ 1 by omega), if_neg (show ¬ wd ≤ 2 by omega), if_neg (show ¬ wd ≤ 4 by omega)]]; rfl, rfl⟩
      · rw [nI_leI (by omega) (by omega)] at h29
        refine e_iconst C d_M_treeSize_32 (v := 4) (by decide) ?_
        refine e_goto C d_M_treeSize_33 (tgt := 38) (by decide) ?_
        exact e_iret C E d_M_treeSize_38 (Nat.le_refl _) (Nat.le_refl _) rfl ⟨by rw [show lvN wd = 4 by simp only [lvN, if_neg (show ¬ wd ≤ 1 by omega), if_neg (show ¬ wd ≤ 2 by omega), if_pos (show wd ≤ 4 by omega)]]; rfl, rfl⟩
    · rw [nI_eq (by omega) (by omega)] at h17
      subst h17
      refine e_iconst C d_M_treeSize_20 (v := 2) (by decide) ?_
      refine e_goto C d_M_treeSize_21 (tgt := 38) (by decide) ?_
      exact e_iret C E d_M_treeSize_38 (Nat.le_refl _) (Nat.le_refl _) rfl ⟨rfl, rfl⟩
  · rw [nI_eq (by omega) (by omega)] at h5
    subst h5
    refine e_iconst C d_M_treeSize_8 (v := 1) (by decide) ?_
    refine e_goto C d_M_treeSize_9 (tgt := 38) (by decide) ?_
    exact e_iret C E d_M_treeSize_38 (Nat.le_refl _) (Nat.le_refl _) rfl ⟨rfl, rfl⟩
theorem lvN_8 (wd : Nat) : 1 ≤ lvN wd ∧ lvN wd ≤ 8 := by
  unfold lvN
  repeat' split
  all_goals omega
theorem lvN_ge {wd : Nat} (h : wd ≤ 8) : wd ≤ lvN wd := by
  unfold lvN
  repeat' split
  all_goals omega
set_option maxRecDepth 100000 in
theorem k_M_turnAway (h : MD m.1 S wd V kd) (hs : s < 16) (hw : w < wd) : Con l G y_M_turnAway c_M_turnAway 5 none (rz 1 20) [.ref (a 40), .int (nI (8 * s + w))] (mF G a m.1 m.2) (DV (mF G a m.1 (up2 m.2 19 (taF (8 * s) 4 (lvN wd + w) (m.2 19))))) := by
  refine Con.of rfl rfl (fun X C E hR hl hnm => ?_)
  have hw8 := h.w8
  have hP := lvN_8 wd
  have hPw := lvN_ge hw8.2
  refine e_aload_n C d_M_turnAway_0 rfl ?_
  refine e_cVi C hR 0 (k_M_treeSize h) g907 g14 g904 g906 (gt_sel 20 (by decide +kernel) (by decide +kernel)) d_M_turnAway_1 rfl ey_M_treeSize rfl rfl rfl rfl ⟨Nat.zero_le _, Nat.zero_le _⟩ ?_
  refine e_istore_n C d_M_turnAway_4 rfl ?_
  refine e_iload_n C d_M_turnAway_5 rfl ?_
  refine e_bipush C d_M_turnAway_6 (v := nI 8) (by decide) ?_
  refine e_idiv C d_M_turnAway_8 (nI_ne0 (by omega) (by omega)) ?_
  refine e_top (y := nI s) (by rw [pk_div (by omega) (by omega) (by omega)]; congr 1; omega) ?_
  refine e_bipush C d_M_turnAway_9 (v := nI 8) (by decide) ?_
  refine e_imul C d_M_turnAway_11 ?_
  refine e_top (y := nI (8 * s)) (by rw [pk_mul]; congr 1; omega) ?_
  refine e_istore_n C d_M_turnAway_12 rfl ?_
  refine e_iload_n C d_M_turnAway_13 rfl ?_
  refine e_iload_n C d_M_turnAway_14 rfl ?_
  refine e_bipush C d_M_turnAway_15 (v := nI 8) (by decide) ?_
  refine e_irem C d_M_turnAway_17 (nI_ne0 (by omega) (by omega)) ?_
  refine e_top (y := nI w) (by rw [pk_rem (by omega) (by omega) (by omega)]; congr 1; omega) ?_
  refine e_iadd C d_M_turnAway_18 ?_
  refine e_top (nI_add _ _) ?_
  refine e_istore C d_M_turnAway_19 rfl ?_
  have L : ∀ (q node : Nat) (g : Nat → Int32), node < 2 ^ q → q ≤ 4 → taF (8 * s) q node g = taF (8 * s) 4 (lvN wd + w) (m.2 19) → EW X G 5 0 0 21 [(0, .ref (a 40)), (3, .int (nI (8 * s))), (4, .int (nI node))] [] (mF G a m.1 (up2 m.2 19 g)) := by
    intro q
    induction q with
    | zero =>
      intro node g hnd hq hf
      have hf : g = _ := hf
      refine e_iload C d_M_turnAway_21 rfl ?_
      refine e_iconst C d_M_turnAway_23 (v := nI 1) (by decide) ?_
      refine e_icmp_le C d_M_turnAway_24 (tgt := 59) (by decide) (fun h24 => ?_) (fun h24 => ?_)
      · skip
        exact e_vret C E d_M_turnAway_59 (Nat.le_refl _) (Nat.le_refl _) ⟨rfl, by rw [← hf]⟩
      · rw [nI_leI (by omega) (by omega)] at h24
        omega
    | succ q ih =>
      intro node g hnd hq hf
      have h16 : 2 ^ (q + 1) ≤ 2 ^ 4 := Nat.pow_le_pow_right (by omega) hq
      have h2m : 2 ^ (q + 1) = 2 * 2 ^ q := by rw [Nat.pow_succ]; omega
      refine e_iload C d_M_turnAway_21 rfl ?_
      refine e_iconst C d_M_turnAway_23 (v := nI 1) (by decide) ?_
      refine e_icmp_le C d_M_turnAway_24 (tgt := 59) (by decide) (fun h24 => ?_) (fun h24 => ?_)
      · rw [nI_leI (by omega) (by omega)] at h24
        exact e_vret C E d_M_turnAway_59 (Nat.le_refl _) (Nat.le_refl _) ⟨rfl, by rw [← hf]; simp only [taF, if_pos h24]⟩
      · rw [nI_leI (by omega) (by omega)] at h24
        rw [taF, if_neg h24] at hf
        refine e_aload_n C d_M_turnAway_27 rfl ?_
        refine e_get C 0 (k := 19) in_M g763 d_M_turnAway_28 rfl rfl rfl rfl ?_
        refine e_iload_n C d_M_turnAway_31 rfl ?_
        refine e_iload C d_M_turnAway_32 rfl ?_
        refine e_iconst C d_M_turnAway_34 (v := nI 2) (by decide) ?_
        refine e_idiv C d_M_turnAway_35 (nI_ne0 (by omega) (by omega)) ?_
        refine e_top (pk_div (by omega) (by omega) (by omega)) ?_
        refine e_iadd C d_M_turnAway_36 ?_
        refine e_top (nI_add _ _) ?_
        refine e_iload C d_M_turnAway_37 rfl ?_
        refine e_iconst C d_M_turnAway_39 (v := nI 2) (by decide) ?_
        refine e_irem C d_M_turnAway_40 (nI_ne0 (by omega) (by omega)) ?_
        refine e_top (pk_rem (by omega) (by omega) (by omega)) ?_
        refine e_if_ne C d_M_turnAway_41 (tgt := 48) (by decide) (fun h41 => ?_) (fun h41 => ?_)
        · have hpar : ¬ node % 2 = 0 := fun z => h41 (by rw [z]; rfl)
          rw [if_neg hpar] at hf
          refine e_iconst C d_M_turnAway_48 (v := 0) (by decide) ?_
          refine e_zast C 12 1 d_M_turnAway_49 rfl rfl _ rfl (by omega) (by omega) rfl ?_
          refine e_iload C d_M_turnAway_50 rfl ?_
          refine e_iconst C d_M_turnAway_52 (v := nI 2) (by decide) ?_
          refine e_idiv C d_M_turnAway_53 (nI_ne0 (by omega) (by omega)) ?_
          refine e_top (pk_div (by omega) (by omega) (by omega)) ?_
          refine e_istore C d_M_turnAway_54 rfl ?_
          refine e_goto C d_M_turnAway_56 (tgt := 21) (by decide) ?_
          exact e_lv2 (ih (node / 2) _ (by omega) (by omega) hf) rfl
        · have hpar : node % 2 = 0 := by
            rcases Nat.eq_zero_or_pos (node % 2) with z | z
            · exact z
            · exact absurd h41 (nI_ne0 z (by omega))
          rw [if_pos hpar] at hf
          refine e_iconst C d_M_turnAway_44 (v := 1) (by decide) ?_
          refine e_goto C d_M_turnAway_45 (tgt := 49) (by decide) ?_
          refine e_zast C 12 1 d_M_turnAway_49 rfl rfl _ rfl (by omega) (by omega) rfl ?_
          refine e_iload C d_M_turnAway_50 rfl ?_
          refine e_iconst C d_M_turnAway_52 (v := nI 2) (by decide) ?_
          refine e_idiv C d_M_turnAway_53 (nI_ne0 (by omega) (by omega)) ?_
          refine e_top (pk_div (by omega) (by omega) (by omega)) ?_
          refine e_istore C d_M_turnAway_54 rfl ?_
          refine e_goto C d_M_turnAway_56 (tgt := 21) (by decide) ?_
          exact e_lv2 (ih (node / 2) _ (by omega) (by omega) hf) rfl
  refine e_eq (ws' := mF G a m.1 (up2 m.2 19 (m.2 19))) rfl ?_
  exact e_lv2 (L 4 (lvN wd + w) (m.2 19) (by omega) (Nat.le_refl _) rfl) rfl
set_option maxRecDepth 100000 in
theorem k_M_markLately (h : MD m.1 S wd V kd) (hs : s < 16) (hw : w < wd) : Con l G y_M_markLately c_M_markLately 5 none (rz 0 0) [.ref (a 40), .int (nI (8 * s + w))] (mF G a m.1 m.2) (DV (mF G a m.1 (up2 m.2 16 (ltM (m.2 16) (8 * s) wd w)))) := by
  refine Con.of rfl rfl (fun X C E hR hl hnm => ?_)
  have hw8 := h.w8
  unfold ltM at E
  refine e_iload_n C d_M_markLately_0 rfl ?_
  refine e_bipush C d_M_markLately_1 (v := nI 8) (by decide) ?_
  refine e_idiv C d_M_markLately_3 (nI_ne0 (by omega) (by omega)) ?_
  refine e_top (y := nI s) (by rw [pk_div (by omega) (by omega) (by omega)]; congr 1; omega) ?_
  refine e_bipush C d_M_markLately_4 (v := nI 8) (by decide) ?_
  refine e_imul C d_M_markLately_6 ?_
  refine e_top (y := nI (8 * s)) (by rw [pk_mul]; congr 1; omega) ?_
  refine e_istore_n C d_M_markLately_7 rfl ?_
  refine e_aload_n C d_M_markLately_8 rfl ?_
  refine e_get C 0 (k := 16) in_M g760 d_M_markLately_9 rfl rfl rfl rfl ?_
  refine e_iload_n C d_M_markLately_12 rfl ?_
  refine e_iconst C d_M_markLately_13 (v := 1) (by decide) ?_
  refine e_zast C 9 1 d_M_markLately_14 rfl rfl (8 * s + w) rfl (by omega) (by omega) rfl ?_
  refine e_iconst C d_M_markLately_15 (v := 1) (by decide) ?_
  refine e_istore_n C d_M_markLately_16 rfl ?_
  refine e_iload_n C d_M_markLately_17 rfl ?_
  refine e_istore C d_M_markLately_18 rfl ?_
  have hb0 : 8 * s + 8 ≤ 128 := by omega
  generalize hb : 8 * s = b0 at E hb0 ⊢
  generalize hg : upd (m.2 16) (b0 + w) 1 = g at E ⊢
  refine e_eq (ws' := mF G a m.1 (up2 m.2 16 g)) (by rw [← hg]; rfl) ?_
  have fin : ∀ (b : Bool), b = (fst1 (fun j => g j == 0) b0 wd).isNone → EW X G 5 0 0 57 [(0, .ref (a 40)), (1, .int (nI (b0 + w))), (2, .int (nI b0)), (3, .int (bI b))] [] (mF G a m.1 (up2 m.2 16 g)) := by
    intro b hbn
    refine e_iload_n C d_M_markLately_57 rfl ?_
    refine e_istore C d_M_markLately_58 rfl ?_
    cases b with
    | false =>
      rw [if_pos (show (fst1 (fun j => g j == 0) b0 wd).isSome = true by cases hq : fst1 (fun j => g j == 0) b0 wd with
        | none => rw [hq] at hbn; cases hbn
        | some _ => rfl)] at E
      refine e_iload C d_M_markLately_60 rfl ?_
      refine e_iload_n C d_M_markLately_62 rfl ?_
      refine e_aload_n C d_M_markLately_63 rfl ?_
      refine e_get C 0 (k := 2) in_M g746 d_M_markLately_64 rfl rfl rfl rfl ?_
      refine e_top h.2.1 ?_
      refine e_iadd C d_M_markLately_67 ?_
      refine e_top (nI_add _ _) ?_
      refine e_icmp_ge C d_M_markLately_68 (tgt := 99) (by decide) (fun h68 => ?_) (fun h68 => ?_)
      · skip
        exact e_vret C E d_M_markLately_99 (Nat.le_refl _) (Nat.le_refl _) ⟨rfl, rfl⟩
      · skip
        refine e_iload_n C d_M_markLately_71 rfl ?_
        refine e_if_eq C d_M_markLately_72 (tgt := 99) (by decide) (fun h72 => ?_) (fun h72 => ?_)
        · skip
          exact e_vret C E d_M_markLately_99 (Nat.le_refl _) (Nat.le_refl _) ⟨rfl, rfl⟩
        · exact absurd rfl h72
    | true =>
      rw [if_neg (show ¬ (fst1 (fun j => g j == 0) b0 wd).isSome = true by cases hq : fst1 (fun j => g j == 0) b0 wd with
        | none => decide
        | some _ => rw [hq] at hbn; cases hbn)] at E
      have L2 : ∀ q k : Nat, k + q = b0 + wd → b0 ≤ k → EW X G 5 0 0 60 [(0, .ref (a 40)), (1, .int (nI (b0 + w))), (2, .int (nI b0)), (3, .int 1), (4, .int (nI k))] [] (mF G a m.1 (up2 m.2 16 (onl g (b0 + w) b0 k))) := by
        intro q
        induction q with
        | zero =>
          intro k hk hk2
          obtain rfl : k = b0 + wd := by omega
          refine e_iload C d_M_markLately_60 rfl ?_
          refine e_iload_n C d_M_markLately_62 rfl ?_
          refine e_aload_n C d_M_markLately_63 rfl ?_
          refine e_get C 0 (k := 2) in_M g746 d_M_markLately_64 rfl rfl rfl rfl ?_
          refine e_top h.2.1 ?_
          refine e_iadd C d_M_markLately_67 ?_
          refine e_top (nI_add _ _) ?_
          refine e_icmp_ge C d_M_markLately_68 (tgt := 99) (by decide) (fun h68 => ?_) (fun h68 => ?_)
          · skip
            exact e_vret C E d_M_markLately_99 (Nat.le_refl _) (Nat.le_refl _) ⟨rfl, rfl⟩
          · exact absurd (nI_le (Nat.le_refl _) (by omega)) h68
        | succ q ih =>
          intro k hk hk2
          have ih := ih (k + 1) (by omega) (by omega)
          rw [onl_s hk2] at ih
          refine e_iload C d_M_markLately_60 rfl ?_
          refine e_iload_n C d_M_markLately_62 rfl ?_
          refine e_aload_n C d_M_markLately_63 rfl ?_
          refine e_get C 0 (k := 2) in_M g746 d_M_markLately_64 rfl rfl rfl rfl ?_
          refine e_top h.2.1 ?_
          refine e_iadd C d_M_markLately_67 ?_
          refine e_top (nI_add _ _) ?_
          refine e_icmp_ge C d_M_markLately_68 (tgt := 99) (by decide) (fun h68 => ?_) (fun h68 => ?_)
          · exact absurd h68 (nI_ge (by omega) (by omega))
          · skip
            refine e_iload_n C d_M_markLately_71 rfl ?_
            refine e_if_eq C d_M_markLately_72 (tgt := 99) (by decide) (fun h72 => ?_) (fun h72 => ?_)
            · exact absurd h72 (by decide)
            · skip
              refine e_aload_n C d_M_markLately_75 rfl ?_
              refine e_get C 0 (k := 16) in_M g760 d_M_markLately_76 rfl rfl rfl rfl ?_
              refine e_iload C d_M_markLately_79 rfl ?_
              refine e_iload C d_M_markLately_81 rfl ?_
              refine e_iload_n C d_M_markLately_83 rfl ?_
              refine e_icmp_ne C d_M_markLately_84 (tgt := 91) (by decide) (fun h84 => ?_) (fun h84 => ?_)
              · rw [nI_eq (by omega) (by omega)] at h84
                rw [if_neg h84] at ih
                refine e_iconst C d_M_markLately_91 (v := 0) (by decide) ?_
                refine e_zast C 9 1 d_M_markLately_92 rfl rfl k rfl (by omega) (by omega) rfl ?_
                refine e_iinc C d_M_markLately_93 rfl (nI_1 k) rfl ?_
                refine e_goto C d_M_markLately_96 (tgt := 60) (by decide) ?_
                exact e_lv2 ih rfl
              · rw [nI_eq (by omega) (by omega)] at h84
                rw [if_pos h84] at ih
                refine e_iconst C d_M_markLately_87 (v := 1) (by decide) ?_
                refine e_goto C d_M_markLately_88 (tgt := 92) (by decide) ?_
                refine e_zast C 9 1 d_M_markLately_92 rfl rfl k rfl (by omega) (by omega) rfl ?_
                refine e_iinc C d_M_markLately_93 rfl (nI_1 k) rfl ?_
                refine e_goto C d_M_markLately_96 (tgt := 60) (by decide) ?_
                exact e_lv2 ih rfl
      refine e_eq (ws' := mF G a m.1 (up2 m.2 16 (onl g (b0 + w) b0 b0))) (by rw [onl_0]) ?_
      exact e_lv2 (L2 wd b0 rfl (Nat.le_refl _)) rfl
  have L : ∀ (q k : Nat) (b : Bool), k + q = b0 + wd → b0 ≤ k → alB g b k q = alB g true b0 wd → EW X G 5 0 0 20 [(0, .ref (a 40)), (1, .int (nI (b0 + w))), (2, .int (nI b0)), (3, .int (bI b)), (4, .int (nI k))] [] (mF G a m.1 (up2 m.2 16 g)) := by
    intro q
    induction q with
    | zero =>
      intro k b hk hk2 hf
      have hf : b = _ := hf
      refine e_iload C d_M_markLately_20 rfl ?_
      refine e_iload_n C d_M_markLately_22 rfl ?_
      refine e_aload_n C d_M_markLately_23 rfl ?_
      refine e_get C 0 (k := 2) in_M g746 d_M_markLately_24 rfl rfl rfl rfl ?_
      refine e_top h.2.1 ?_
      refine e_iadd C d_M_markLately_27 ?_
      refine e_top (nI_add _ _) ?_
      refine e_icmp_ge C d_M_markLately_28 (tgt := 57) (by decide) (fun h28 => ?_) (fun h28 => ?_)
      · exact e_lv2 (fin b (by rw [hf, alB_t])) rfl
      · exact absurd (nI_le (by omega) (by omega)) h28
    | succ q ih =>
      intro k b hk hk2 hf
      refine e_iload C d_M_markLately_20 rfl ?_
      refine e_iload_n C d_M_markLately_22 rfl ?_
      refine e_aload_n C d_M_markLately_23 rfl ?_
      refine e_get C 0 (k := 2) in_M g746 d_M_markLately_24 rfl rfl rfl rfl ?_
      refine e_top h.2.1 ?_
      refine e_iadd C d_M_markLately_27 ?_
      refine e_top (nI_add _ _) ?_
      refine e_icmp_ge C d_M_markLately_28 (tgt := 57) (by decide) (fun h28 => ?_) (fun h28 => ?_)
      · exact absurd h28 (nI_ge (by omega) (by omega))
      · skip
        refine e_iload_n C d_M_markLately_31 rfl ?_
        refine e_if_eq C d_M_markLately_32 (tgt := 49) (by decide) (fun h32 => ?_) (fun h32 => ?_)
        · rw [bI_0] at h32
          subst h32
          refine e_iconst C d_M_markLately_49 (v := 0) (by decide) ?_
          refine e_istore_n C d_M_markLately_50 rfl ?_
          refine e_iinc C d_M_markLately_51 rfl (nI_1 k) rfl ?_
          refine e_goto C d_M_markLately_54 (tgt := 20) (by decide) ?_
          exact e_lv2 (ih (k + 1) false (by omega) (by omega) (by rw [← hf]; simp [alB])) rfl
        · rw [bI_n] at h32
          subst h32
          refine e_aload_n C d_M_markLately_35 rfl ?_
          refine e_get C 0 (k := 16) in_M g760 d_M_markLately_36 rfl rfl rfl rfl ?_
          refine e_iload C d_M_markLately_39 rfl ?_
          refine e_zald C 9 1 d_M_markLately_41 rfl rfl k rfl (by omega) (by omega) ?_
          refine e_if_eq C d_M_markLately_42 (tgt := 49) (by decide) (fun h42 => ?_) (fun h42 => ?_)
          · have hh : (g k == 0) = true := by simp; exact h42
            refine e_iconst C d_M_markLately_49 (v := 0) (by decide) ?_
            refine e_istore_n C d_M_markLately_50 rfl ?_
            refine e_iinc C d_M_markLately_51 rfl (nI_1 k) rfl ?_
            refine e_goto C d_M_markLately_54 (tgt := 20) (by decide) ?_
            exact e_lv2 (ih (k + 1) false (by omega) (by omega) (by rw [← hf, alB, hh]; rfl)) rfl
          · have hh : (g k == 0) = false := by simp; exact h42
            refine e_iconst C d_M_markLately_45 (v := 1) (by decide) ?_
            refine e_goto C d_M_markLately_46 (tgt := 50) (by decide) ?_
            refine e_istore_n C d_M_markLately_50 rfl ?_
            refine e_iinc C d_M_markLately_51 rfl (nI_1 k) rfl ?_
            refine e_goto C d_M_markLately_54 (tgt := 20) (by decide) ?_
            exact e_lv2 (ih (k + 1) true (by omega) (by omega) (by rw [← hf, alB, hh]; rfl)) rfl
  exact e_lv2 (L wd b0 true rfl (Nat.le_refl _) rfl) rfl
theorem MD.of {v v' : Nat → Int32} {S wd V kd : Nat} (h : MD v S wd V kd) (h1 : v' 1 = v 1) (h2 : v' 2 = v 2) (h3 : v' 3 = v 3) (h4 : v' 4 = v 4) : MD v' S wd V kd := ⟨h1.trans h.1, h2.trans h.2.1, h3.trans h.2.2.1, h4.trans h.2.2.2.1, h.2.2.2.2⟩
set_option maxRecDepth 100000 in
theorem k_M_tellUse (h : MD m.1 S wd V kd) (hs : s < 16) (hw : w < wd) : Con l G y_M_tellUse c_M_tellUse 2 none (rz 2 44) [.ref (a 40), .int (nI (8 * s + w))] (mF G a m.1 m.2) (DV (mF G a (tuS wd kd m s w).1 (tuS wd kd m s w).2)) := by
  refine Con.of rfl rfl (fun X C E hR hl hnm => ?_)
  have hw8 := h.w8
  have hkd := h.2.2.2.2.2.2.2
  have h2 : MD (upd m.1 12 (m.1 12 + 1)) S wd V kd := h
  unfold tuS at E
  refine e_aload_n C d_M_tellUse_0 rfl ?_
  refine e_dup C d_M_tellUse_1 rfl ?_
  refine e_get C 0 (k := 12) in_M g756 d_M_tellUse_2 rfl rfl rfl rfl ?_
  refine e_iconst C d_M_tellUse_5 (v := 1) (by decide) ?_
  refine e_iadd C d_M_tellUse_6 ?_
  refine e_put C 0 (k := 12) in_M tk_M nm_M g756 d_M_tellUse_7 rfl rfl rfl rfl rfl rfl rfl rfl ?_
  refine e_aload_n C d_M_tellUse_10 rfl ?_
  refine e_get C 0 (k := 13) in_M g757 d_M_tellUse_11 rfl rfl rfl rfl ?_
  refine e_iload_n C d_M_tellUse_14 rfl ?_
  refine e_aload_n C d_M_tellUse_15 rfl ?_
  refine e_get C 0 (k := 12) in_M g756 d_M_tellUse_16 rfl rfl rfl rfl ?_
  refine e_iast C 6 0 d_M_tellUse_19 rfl rfl (8 * s + w) rfl (by omega) (by omega) ?_
  refine e_aload_n C d_M_tellUse_20 rfl ?_
  refine e_get C 0 (k := 15) in_M g759 d_M_tellUse_21 rfl rfl rfl rfl ?_
  refine e_iload_n C d_M_tellUse_24 rfl ?_
  refine e_dup2 C d_M_tellUse_25 rfl rfl ?_
  refine e_iald C 8 0 d_M_tellUse_26 rfl rfl (8 * s + w) rfl (by omega) (by omega) ?_
  refine e_iconst C d_M_tellUse_27 (v := 1) (by decide) ?_
  refine e_iadd C d_M_tellUse_28 ?_
  refine e_iast C 8 0 d_M_tellUse_29 rfl rfl (8 * s + w) rfl (by omega) (by omega) ?_
  refine e_aload_n C d_M_tellUse_30 rfl ?_
  refine e_get C 0 (k := 17) in_M g761 d_M_tellUse_31 rfl rfl rfl rfl ?_
  refine e_iload_n C d_M_tellUse_34 rfl ?_
  refine e_iconst C d_M_tellUse_35 (v := 0) (by decide) ?_
  refine e_iast C 10 0 d_M_tellUse_36 rfl rfl (8 * s + w) rfl (by omega) (by omega) ?_
  refine e_eq (ws' := mF G a (upd m.1 12 (m.1 12 + 1)) (up2 (up2 (up2 m.2 13 (upd (m.2 13) (8 * s + w) (m.1 12 + 1))) 15 (upd (m.2 15) (8 * s + w) (m.2 15 (8 * s + w) + 1))) 17 (upd (m.2 17) (8 * s + w) 0))) rfl ?_
  refine e_aload_n C d_M_tellUse_37 rfl ?_
  refine e_iload_n C d_M_tellUse_38 rfl ?_
  refine e_cVv C hR 0 (k_M_turnAway (m := (upd m.1 12 (m.1 12 + 1), up2 (up2 (up2 m.2 13 (upd (m.2 13) (8 * s + w) (m.1 12 + 1))) 15 (upd (m.2 15) (8 * s + w) (m.2 15 (8 * s + w) + 1))) 17 (upd (m.2 17) (8 * s + w) 0))) h2 hs hw) g903 g14 g900 g902 (gt_sel 19 (by decide +kernel) (by decide +kernel)) d_M_tellUse_39 rfl ey_M_turnAway rfl rfl rfl rfl ⟨Nat.zero_le _, Nat.zero_le _⟩ ?_
  refine e_aload_n C d_M_tellUse_42 rfl ?_
  refine e_get C 0 (k := 3) in_M g747 d_M_tellUse_43 rfl rfl rfl rfl ?_
  refine e_top (show _ = nI kd from h.2.2.1) ?_
  refine e_bipush C d_M_tellUse_46 (v := nI 7) (by decide) ?_
  refine e_icmp_ne C d_M_tellUse_48 (tgt := 59) (by decide) (fun h48 => ?_) (fun h48 => ?_)
  · rw [nI_eq (by omega) (by omega)] at h48
    rw [if_neg h48] at E
    refine e_aload_n C d_M_tellUse_59 rfl ?_
    refine e_get C 0 (k := 16) in_M g760 d_M_tellUse_60 rfl rfl rfl rfl ?_
    refine e_iload_n C d_M_tellUse_63 rfl ?_
    refine e_iconst C d_M_tellUse_64 (v := 1) (by decide) ?_
    refine e_zast C 9 1 d_M_tellUse_65 rfl rfl (8 * s + w) rfl (by omega) (by omega) rfl ?_
    exact e_vret C E d_M_tellUse_66 (Nat.le_refl _) (Nat.le_refl _) ⟨rfl, rfl⟩
  · rw [nI_eq (by omega) (by omega)] at h48
    rw [if_pos h48] at E
    refine e_aload_n C d_M_tellUse_51 rfl ?_
    refine e_iload_n C d_M_tellUse_52 rfl ?_
    refine e_cVv C hR 0 (k_M_markLately (m := (upd m.1 12 (m.1 12 + 1), up2 (up2 (up2 (up2 m.2 13 (upd (m.2 13) (8 * s + w) (m.1 12 + 1))) 15 (upd (m.2 15) (8 * s + w) (m.2 15 (8 * s + w) + 1))) 17 (upd (m.2 17) (8 * s + w) 0)) 19 (taF (8 * s) 4 (lvN wd + w) (m.2 19)))) h2 hs hw) g911 g14 g908 g910 (gt_sel 21 (by decide +kernel) (by decide +kernel)) d_M_tellUse_53 rfl ey_M_markLately rfl rfl rfl rfl ⟨Nat.zero_le _, Nat.zero_le _⟩ ?_
    refine e_goto C d_M_tellUse_56 (tgt := 66) (by decide) ?_
    exact e_vret C E d_M_tellUse_66 (Nat.le_refl _) (Nat.le_refl _) ⟨rfl, rfl⟩
set_option maxRecDepth 100000 in
theorem k_M_tellComing (h : MD m.1 S wd V kd) (hs : s < 16) (hw : w < wd) : Con l G y_M_tellComing c_M_tellComing 2 none (rz 2 44) [.ref (a 40), .int (nI (8 * s + w))] (mF G a m.1 m.2) (DV (mF G a (tcS wd kd m s w).1 (tcS wd kd m s w).2)) := by
  refine Con.of rfl rfl (fun X C E hR hl hnm => ?_)
  have hw8 := h.w8
  have hkd := h.2.2.2.2.2.2.2
  have h2 : MD (upd m.1 12 (m.1 12 + 1)) S wd V kd := h
  unfold tcS at E
  generalize hy : (if kd = 9 then -(m.1 12 + 1) else m.1 12 + 1) = y at E
  have tail : EW X G 2 0 0 36 [(0, .ref (a 40)), (1, .int (nI (8 * s + w)))] [.int y, .int (nI (8 * s + w)), .ref (a 13)] (mF G a (upd m.1 12 (m.1 12 + 1)) m.2) := by
    refine e_iast C 6 0 d_M_tellComing_36 rfl rfl (8 * s + w) rfl (by omega) (by omega) ?_
    refine e_aload_n C d_M_tellComing_37 rfl ?_
    refine e_get C 0 (k := 14) in_M g758 d_M_tellComing_38 rfl rfl rfl rfl ?_
    refine e_iload_n C d_M_tellComing_41 rfl ?_
    refine e_aload_n C d_M_tellComing_42 rfl ?_
    refine e_get C 0 (k := 12) in_M g756 d_M_tellComing_43 rfl rfl rfl rfl ?_
    refine e_iast C 7 0 d_M_tellComing_46 rfl rfl (8 * s + w) rfl (by omega) (by omega) ?_
    refine e_aload_n C d_M_tellComing_47 rfl ?_
    refine e_get C 0 (k := 15) in_M g759 d_M_tellComing_48 rfl rfl rfl rfl ?_
    refine e_iload_n C d_M_tellComing_51 rfl ?_
    refine e_iconst C d_M_tellComing_52 (v := 0) (by decide) ?_
    refine e_iast C 8 0 d_M_tellComing_53 rfl rfl (8 * s + w) rfl (by omega) (by omega) ?_
    refine e_aload_n C d_M_tellComing_54 rfl ?_
    refine e_get C 0 (k := 17) in_M g761 d_M_tellComing_55 rfl rfl rfl rfl ?_
    refine e_iload_n C d_M_tellComing_58 rfl ?_
    refine e_iconst C d_M_tellComing_59 (v := 2) (by decide) ?_
    refine e_iast C 10 0 d_M_tellComing_60 rfl rfl (8 * s + w) rfl (by omega) (by omega) ?_
    refine e_eq (ws' := mF G a (upd m.1 12 (m.1 12 + 1)) (up2 (up2 (up2 (up2 m.2 13 (upd (m.2 13) (8 * s + w) y)) 14 (upd (m.2 14) (8 * s + w) (m.1 12 + 1))) 15 (upd (m.2 15) (8 * s + w) 0)) 17 (upd (m.2 17) (8 * s + w) 2))) rfl ?_
    refine e_aload_n C d_M_tellComing_61 rfl ?_
    refine e_iload_n C d_M_tellComing_62 rfl ?_
    refine e_cVv C hR 0 (k_M_turnAway (m := (upd m.1 12 (m.1 12 + 1), (up2 (up2 (up2 (up2 m.2 13 (upd (m.2 13) (8 * s + w) y)) 14 (upd (m.2 14) (8 * s + w) (m.1 12 + 1))) 15 (upd (m.2 15) (8 * s + w) 0)) 17 (upd (m.2 17) (8 * s + w) 2)))) h2 hs hw) g903 g14 g900 g902 (gt_sel 19 (by decide +kernel) (by decide +kernel)) d_M_tellComing_63 rfl ey_M_turnAway rfl rfl rfl rfl ⟨Nat.zero_le _, Nat.zero_le _⟩ ?_
    refine e_aload_n C d_M_tellComing_66 rfl ?_
    refine e_get C 0 (k := 3) in_M g747 d_M_tellComing_67 rfl rfl rfl rfl ?_
    refine e_top (show _ = nI kd from h.2.2.1) ?_
    refine e_bipush C d_M_tellComing_70 (v := nI 7) (by decide) ?_
    refine e_icmp_ne C d_M_tellComing_72 (tgt := 83) (by decide) (fun h72 => ?_) (fun h72 => ?_)
    · rw [nI_eq (by omega) (by omega)] at h72
      rw [if_neg h72] at E
      refine e_aload_n C d_M_tellComing_83 rfl ?_
      refine e_get C 0 (k := 16) in_M g760 d_M_tellComing_84 rfl rfl rfl rfl ?_
      refine e_iload_n C d_M_tellComing_87 rfl ?_
      refine e_iconst C d_M_tellComing_88 (v := 0) (by decide) ?_
      refine e_zast C 9 1 d_M_tellComing_89 rfl rfl (8 * s + w) rfl (by omega) (by omega) rfl ?_
      exact e_vret C E d_M_tellComing_90 (Nat.le_refl _) (Nat.le_refl _) ⟨rfl, rfl⟩
    · rw [nI_eq (by omega) (by omega)] at h72
      rw [if_pos h72] at E
      refine e_aload_n C d_M_tellComing_75 rfl ?_
      refine e_iload_n C d_M_tellComing_76 rfl ?_
      refine e_cVv C hR 0 (k_M_markLately (m := (upd m.1 12 (m.1 12 + 1), up2 (up2 (up2 (up2 (up2 m.2 13 (upd (m.2 13) (8 * s + w) y)) 14 (upd (m.2 14) (8 * s + w) (m.1 12 + 1))) 15 (upd (m.2 15) (8 * s + w) 0)) 17 (upd (m.2 17) (8 * s + w) 2)) 19 (taF (8 * s) 4 (lvN wd + w) (m.2 19)))) h2 hs hw) g911 g14 g908 g910 (gt_sel 21 (by decide +kernel) (by decide +kernel)) d_M_tellComing_77 rfl ey_M_markLately rfl rfl rfl rfl ⟨Nat.zero_le _, Nat.zero_le _⟩ ?_
      refine e_goto C d_M_tellComing_80 (tgt := 90) (by decide) ?_
      exact e_vret C E d_M_tellComing_90 (Nat.le_refl _) (Nat.le_refl _) ⟨rfl, rfl⟩
  refine e_aload_n C d_M_tellComing_0 rfl ?_
  refine e_dup C d_M_tellComing_1 rfl ?_
  refine e_get C 0 (k := 12) in_M g756 d_M_tellComing_2 rfl rfl rfl rfl ?_
  refine e_iconst C d_M_tellComing_5 (v := 1) (by decide) ?_
  refine e_iadd C d_M_tellComing_6 ?_
  refine e_put C 0 (k := 12) in_M tk_M nm_M g756 d_M_tellComing_7 rfl rfl rfl rfl rfl rfl rfl rfl ?_
  refine e_eq (ws' := mF G a (upd m.1 12 (m.1 12 + 1)) m.2) rfl ?_
  refine e_aload_n C d_M_tellComing_10 rfl ?_
  refine e_get C 0 (k := 13) in_M g757 d_M_tellComing_11 rfl rfl rfl rfl ?_
  refine e_iload_n C d_M_tellComing_14 rfl ?_
  refine e_aload_n C d_M_tellComing_15 rfl ?_
  refine e_get C 0 (k := 3) in_M g747 d_M_tellComing_16 rfl rfl rfl rfl ?_
  refine e_top (show _ = nI kd from h.2.2.1) ?_
  refine e_bipush C d_M_tellComing_19 (v := nI 9) (by decide) ?_
  refine e_icmp_ne C d_M_tellComing_21 (tgt := 32) (by decide) (fun h21 => ?_) (fun h21 => ?_)
  · rw [nI_eq (by omega) (by omega)] at h21
    rw [if_neg h21] at hy
    subst hy
    refine e_aload_n C d_M_tellComing_32 rfl ?_
    refine e_get C 0 (k := 12) in_M g756 d_M_tellComing_33 rfl rfl rfl rfl ?_
    exact e_lv2 tail rfl
  · rw [nI_eq (by omega) (by omega)] at h21
    rw [if_pos h21] at hy
    subst hy
    refine e_aload_n C d_M_tellComing_24 rfl ?_
    refine e_get C 0 (k := 12) in_M g756 d_M_tellComing_25 rfl rfl rfl rfl ?_
    refine e_ineg C d_M_tellComing_28 ?_
    refine e_goto C d_M_tellComing_29 (tgt := 36) (by decide) ?_
    exact e_lv2 tail rfl
set_option maxRecDepth 100000 in
theorem k_M_isBetter {i j : Nat} (hi : i < 128) (hj : j < 128) : Con l G y_M_isBetter c_M_isBetter 3 (some .boolean) (rz 0 0) [.ref (a 40), .int (nI i), .int (nI j)] (mF G a m.1 m.2) (DI (bI (gsG (m.1 3) (m.2 13) (m.2 14) (m.2 15) i j)) (mF G a m.1 m.2)) := by
  refine Con.of rfl rfl (fun X C E hR hl hn => ?_)
  refine e_aload_n C d_M_isBetter_0 rfl ?_
  refine e_get C 0 (k := 3) in_M g747 d_M_isBetter_1 rfl rfl rfl rfl ?_
  refine e_iconst C d_M_isBetter_4 (v := 1) (by decide) ?_
  refine e_icmp_ne C d_M_isBetter_5 (tgt := 29) (by decide) (fun h5 => ?_) (fun h5 => ?_)
  · have h5 : ¬ m.1 3 = 1 := h5
    refine e_aload_n C d_M_isBetter_29 rfl ?_
    refine e_get C 0 (k := 3) in_M g747 d_M_isBetter_30 rfl rfl rfl rfl ?_
    refine e_iconst C d_M_isBetter_33 (v := 2) (by decide) ?_
    refine e_icmp_ne C d_M_isBetter_34 (tgt := 58) (by decide) (fun h34 => ?_) (fun h34 => ?_)
    · have h34 : ¬ m.1 3 = 2 := h34
      refine e_aload_n C d_M_isBetter_58 rfl ?_
      refine e_get C 0 (k := 3) in_M g747 d_M_isBetter_59 rfl rfl rfl rfl ?_
      refine e_iconst C d_M_isBetter_62 (v := 4) (by decide) ?_
      refine e_icmp_ne C d_M_isBetter_63 (tgt := 102) (by decide) (fun h63 => ?_) (fun h63 => ?_)
      · have h63 : ¬ m.1 3 = 4 := h63
        refine e_aload_n C d_M_isBetter_102 rfl ?_
        refine e_get C 0 (k := 13) in_M g757 d_M_isBetter_103 rfl rfl rfl rfl ?_
        refine e_iload_n C d_M_isBetter_106 rfl ?_
        refine e_iald C 6 0 d_M_isBetter_107 rfl rfl i rfl hi (by omega) ?_
        refine e_aload_n C d_M_isBetter_108 rfl ?_
        refine e_get C 0 (k := 13) in_M g757 d_M_isBetter_109 rfl rfl rfl rfl ?_
        refine e_iload_n C d_M_isBetter_112 rfl ?_
        refine e_iald C 6 0 d_M_isBetter_113 rfl rfl j rfl hj (by omega) ?_
        refine e_icmp_ge C d_M_isBetter_114 (tgt := 121) (by decide) (fun h114 => ?_) (fun h114 => ?_)
        · have h114 : m.2 13 j ≤ m.2 13 i := h114
          refine e_iconst C d_M_isBetter_121 (v := 0) (by decide) ?_
          exact e_iret C E d_M_isBetter_122 (Nat.le_refl _) (Nat.le_refl _) rfl ⟨by simp [gsG, h5, h34, h63, h114, bI], rfl⟩
        · have h114 : ¬ m.2 13 j ≤ m.2 13 i := h114
          refine e_iconst C d_M_isBetter_117 (v := 1) (by decide) ?_
          refine e_goto C d_M_isBetter_118 (tgt := 122) (by decide) ?_
          exact e_iret C E d_M_isBetter_122 (Nat.le_refl _) (Nat.le_refl _) rfl ⟨by simp [gsG, h5, h34, h63, h114, bI], rfl⟩
      · have h63 : m.1 3 = 4 := h63
        refine e_aload_n C d_M_isBetter_66 rfl ?_
        refine e_get C 0 (k := 15) in_M g759 d_M_isBetter_67 rfl rfl rfl rfl ?_
        refine e_iload_n C d_M_isBetter_70 rfl ?_
        refine e_iald C 8 0 d_M_isBetter_71 rfl rfl i rfl hi (by omega) ?_
        refine e_aload_n C d_M_isBetter_72 rfl ?_
        refine e_get C 0 (k := 15) in_M g759 d_M_isBetter_73 rfl rfl rfl rfl ?_
        refine e_iload_n C d_M_isBetter_76 rfl ?_
        refine e_iald C 8 0 d_M_isBetter_77 rfl rfl j rfl hj (by omega) ?_
        refine e_icmp_eq C d_M_isBetter_78 (tgt := 102) (by decide) (fun h78 => ?_) (fun h78 => ?_)
        · have h78 : m.2 15 i = m.2 15 j := h78
          refine e_aload_n C d_M_isBetter_102 rfl ?_
          refine e_get C 0 (k := 13) in_M g757 d_M_isBetter_103 rfl rfl rfl rfl ?_
          refine e_iload_n C d_M_isBetter_106 rfl ?_
          refine e_iald C 6 0 d_M_isBetter_107 rfl rfl i rfl hi (by omega) ?_
          refine e_aload_n C d_M_isBetter_108 rfl ?_
          refine e_get C 0 (k := 13) in_M g757 d_M_isBetter_109 rfl rfl rfl rfl ?_
          refine e_iload_n C d_M_isBetter_112 rfl ?_
          refine e_iald C 6 0 d_M_isBetter_113 rfl rfl j rfl hj (by omega) ?_
          refine e_icmp_ge C d_M_isBetter_114 (tgt := 121) (by decide) (fun h114 => ?_) (fun h114 => ?_)
          · have h114 : m.2 13 j ≤ m.2 13 i := h114
            refine e_iconst C d_M_isBetter_121 (v := 0) (by decide) ?_
            exact e_iret C E d_M_isBetter_122 (Nat.le_refl _) (Nat.le_refl _) rfl ⟨by simp [gsG, h5, h34, h78, h114, bI], rfl⟩
          · have h114 : ¬ m.2 13 j ≤ m.2 13 i := h114
            refine e_iconst C d_M_isBetter_117 (v := 1) (by decide) ?_
            refine e_goto C d_M_isBetter_118 (tgt := 122) (by decide) ?_
            exact e_iret C E d_M_isBetter_122 (Nat.le_refl _) (Nat.le_refl _) rfl ⟨by simp [gsG, h5, h34, h78, h114, bI], rfl⟩
        · have h78 : ¬ m.2 15 i = m.2 15 j := h78
          refine e_aload_n C d_M_isBetter_81 rfl ?_
          refine e_get C 0 (k := 15) in_M g759 d_M_isBetter_82 rfl rfl rfl rfl ?_
          refine e_iload_n C d_M_isBetter_85 rfl ?_
          refine e_iald C 8 0 d_M_isBetter_86 rfl rfl i rfl hi (by omega) ?_
          refine e_aload_n C d_M_isBetter_87 rfl ?_
          refine e_get C 0 (k := 15) in_M g759 d_M_isBetter_88 rfl rfl rfl rfl ?_
          refine e_iload_n C d_M_isBetter_91 rfl ?_
          refine e_iald C 8 0 d_M_isBetter_92 rfl rfl j rfl hj (by omega) ?_
          refine e_icmp_ge C d_M_isBetter_93 (tgt := 100) (by decide) (fun h93 => ?_) (fun h93 => ?_)
          · have h93 : m.2 15 j ≤ m.2 15 i := h93
            refine e_iconst C d_M_isBetter_100 (v := 0) (by decide) ?_
            exact e_iret C E d_M_isBetter_101 (Nat.le_refl _) (Nat.le_refl _) rfl ⟨by simp [gsG, h5, h34, h63, h78, h93, bI], rfl⟩
          · have h93 : ¬ m.2 15 j ≤ m.2 15 i := h93
            refine e_iconst C d_M_isBetter_96 (v := 1) (by decide) ?_
            refine e_goto C d_M_isBetter_97 (tgt := 101) (by decide) ?_
            exact e_iret C E d_M_isBetter_101 (Nat.le_refl _) (Nat.le_refl _) rfl ⟨by simp [gsG, h5, h34, h63, h78, h93, bI], rfl⟩
    · have h34 : m.1 3 = 2 := h34
      refine e_aload_n C d_M_isBetter_37 rfl ?_
      refine e_get C 0 (k := 13) in_M g757 d_M_isBetter_38 rfl rfl rfl rfl ?_
      refine e_iload_n C d_M_isBetter_41 rfl ?_
      refine e_iald C 6 0 d_M_isBetter_42 rfl rfl i rfl hi (by omega) ?_
      refine e_aload_n C d_M_isBetter_43 rfl ?_
      refine e_get C 0 (k := 13) in_M g757 d_M_isBetter_44 rfl rfl rfl rfl ?_
      refine e_iload_n C d_M_isBetter_47 rfl ?_
      refine e_iald C 6 0 d_M_isBetter_48 rfl rfl j rfl hj (by omega) ?_
      refine e_icmp_le C d_M_isBetter_49 (tgt := 56) (by decide) (fun h49 => ?_) (fun h49 => ?_)
      · have h49 : m.2 13 i ≤ m.2 13 j := h49
        refine e_iconst C d_M_isBetter_56 (v := 0) (by decide) ?_
        exact e_iret C E d_M_isBetter_57 (Nat.le_refl _) (Nat.le_refl _) rfl ⟨by simp [gsG, h34, h49, bI], rfl⟩
      · have h49 : ¬ m.2 13 i ≤ m.2 13 j := h49
        refine e_iconst C d_M_isBetter_52 (v := 1) (by decide) ?_
        refine e_goto C d_M_isBetter_53 (tgt := 57) (by decide) ?_
        exact e_iret C E d_M_isBetter_57 (Nat.le_refl _) (Nat.le_refl _) rfl ⟨by simp [gsG, h34, h49, bI], rfl⟩
  · have h5 : m.1 3 = 1 := h5
    refine e_aload_n C d_M_isBetter_8 rfl ?_
    refine e_get C 0 (k := 14) in_M g758 d_M_isBetter_9 rfl rfl rfl rfl ?_
    refine e_iload_n C d_M_isBetter_12 rfl ?_
    refine e_iald C 7 0 d_M_isBetter_13 rfl rfl i rfl hi (by omega) ?_
    refine e_aload_n C d_M_isBetter_14 rfl ?_
    refine e_get C 0 (k := 14) in_M g758 d_M_isBetter_15 rfl rfl rfl rfl ?_
    refine e_iload_n C d_M_isBetter_18 rfl ?_
    refine e_iald C 7 0 d_M_isBetter_19 rfl rfl j rfl hj (by omega) ?_
    refine e_icmp_ge C d_M_isBetter_20 (tgt := 27) (by decide) (fun h20 => ?_) (fun h20 => ?_)
    · have h20 : m.2 14 j ≤ m.2 14 i := h20
      refine e_iconst C d_M_isBetter_27 (v := 0) (by decide) ?_
      exact e_iret C E d_M_isBetter_28 (Nat.le_refl _) (Nat.le_refl _) rfl ⟨by simp [gsG, h5, h20, bI], rfl⟩
    · have h20 : ¬ m.2 14 j ≤ m.2 14 i := h20
      refine e_iconst C d_M_isBetter_23 (v := 1) (by decide) ?_
      refine e_goto C d_M_isBetter_24 (tgt := 28) (by decide) ?_
      exact e_iret C E d_M_isBetter_28 (Nat.le_refl _) (Nat.le_refl _) rfl ⟨by simp [gsG, h5, h20, bI], rfl⟩
/-- locked, by the slot -/
def lkM (f : Nat → Nat → Int32) (j : Nat) : Bool := !(f 11 j == 0)
set_option maxRecDepth 100000 in
theorem k_M_best (h : MD m.1 S wd V kd) (hs : s < 16) : Con l G y_M_best c_M_best 4 (some .int) (rz 1 22) [.ref (a 40), .int (nI (8 * s))] (mF G a m.1 m.2) (DI (oI (pickB (lkM m.2) (gsG (m.1 3) (m.2 13) (m.2 14) (m.2 15)) none (8 * s) wd)) (mF G a m.1 m.2)) := by
  refine Con.of rfl rfl (fun X C E hR hl hn => ?_)
  have hw8 := h.w8
  refine e_iconst C d_M_best_0 (v := (-1)) (by decide) ?_
  refine e_istore_n C d_M_best_1 rfl ?_
  refine e_iload_n C d_M_best_2 rfl ?_
  refine e_istore_n C d_M_best_3 rfl ?_
  generalize hbt : gsG (m.1 3) (m.2 13) (m.2 14) (m.2 15) = bt at E
  have hb0 : 8 * s + 8 ≤ 128 := by omega
  generalize 8 * s = b0 at E hb0 ⊢
  have L : ∀ (q k : Nat) (b : Option Nat), k + q = b0 + wd → (∀ j, b = some j → j < 128) → pickB (lkM m.2) bt b k q = pickB (lkM m.2) bt none b0 wd → EW X G 4 0 0 4 [(0, .ref (a 40)), (1, .int (nI b0)), (2, .int (oI b)), (3, .int (nI k))] [] (mF G a m.1 m.2) := by
    intro q
    induction q with
    | zero =>
      intro k b hk hbk hf
      have hf : b = _ := hf
      refine e_iload_n C d_M_best_4 rfl ?_
      refine e_iload_n C d_M_best_5 rfl ?_
      refine e_aload_n C d_M_best_6 rfl ?_
      refine e_get C 0 (k := 2) in_M g746 d_M_best_7 rfl rfl rfl rfl ?_
      refine e_top h.2.1 ?_
      refine e_iadd C d_M_best_10 ?_
      refine e_top (nI_add _ _) ?_
      refine e_icmp_ge C d_M_best_11 (tgt := 44) (by decide) (fun h11 => ?_) (fun h11 => ?_)
      · skip
        refine e_iload_n C d_M_best_44 rfl ?_
        exact e_iret C E d_M_best_45 (Nat.le_refl _) (Nat.le_refl _) rfl ⟨by rw [← hf], rfl⟩
      · exact absurd (nI_le (by omega) (by omega)) h11
    | succ q ih =>
      intro k b hk hbk hf
      refine e_iload_n C d_M_best_4 rfl ?_
      refine e_iload_n C d_M_best_5 rfl ?_
      refine e_aload_n C d_M_best_6 rfl ?_
      refine e_get C 0 (k := 2) in_M g746 d_M_best_7 rfl rfl rfl rfl ?_
      refine e_top h.2.1 ?_
      refine e_iadd C d_M_best_10 ?_
      refine e_top (nI_add _ _) ?_
      refine e_icmp_ge C d_M_best_11 (tgt := 44) (by decide) (fun h11 => ?_) (fun h11 => ?_)
      · exact absurd h11 (nI_ge (by omega) (by omega))
      · skip
        refine e_aload_n C d_M_best_14 rfl ?_
        refine e_get C 0 (k := 11) in_M g755 d_M_best_15 rfl rfl rfl rfl ?_
        refine e_iload_n C d_M_best_18 rfl ?_
        refine e_zald C 5 1 d_M_best_19 rfl rfl k rfl (by omega) (by omega) ?_
        refine e_if_ne C d_M_best_20 (tgt := 38) (by decide) (fun h20 => ?_) (fun h20 => ?_)
        · have hh : lkM m.2 k = true := by simp [lkM]; exact h20
          refine e_iinc C d_M_best_38 rfl (nI_1 k) rfl ?_
          refine e_goto C d_M_best_41 (tgt := 4) (by decide) ?_
          exact e_lv2 (ih (k + 1) b (by omega) hbk (by rw [← hf]; simp [pickB, hh])) rfl
        · have hh : lkM m.2 k = false := by simp [lkM]; exact h20
          refine e_iload_n C d_M_best_23 rfl ?_
          refine e_if_lt C d_M_best_24 (tgt := 36) (by decide) (fun h24 => ?_) (fun h24 => ?_)
          · rw [oI_lt (fun k hk => by have := hbk k hk; omega)] at h24
            subst h24
            refine e_iload_n C d_M_best_36 rfl ?_
            refine e_istore_n C d_M_best_37 rfl ?_
            refine e_iinc C d_M_best_38 rfl (nI_1 k) rfl ?_
            refine e_goto C d_M_best_41 (tgt := 4) (by decide) ?_
            exact e_lv2 (ih (k + 1) (some k) (by omega) (fun j hj => by cases hj; omega) (by rw [← hf]; simp [pickB, hh])) rfl
          · rw [oI_lt (fun k hk => by have := hbk k hk; omega)] at h24
            obtain ⟨j, rfl⟩ := Option.ne_none_iff_exists'.mp h24
            have hjb := hbk j rfl
            refine e_aload_n C d_M_best_27 rfl ?_
            refine e_iload_n C d_M_best_28 rfl ?_
            refine e_iload_n C d_M_best_29 rfl ?_
            refine e_cVi C hR 0 (k_M_isBetter (show k < 128 by omega) hjb) g966 g14 g963 g965 (gt_sel 34 (by decide +kernel) (by decide +kernel)) d_M_best_30 rfl ey_M_isBetter rfl rfl rfl rfl ⟨Nat.zero_le _, Nat.zero_le _⟩ ?_
            refine e_if_eq C d_M_best_33 (tgt := 38) (by decide) (fun h33 => ?_) (fun h33 => ?_)
            · rw [bI_0] at h33
              have hb2 : bt k j = false := by rw [← hbt]; exact h33
              refine e_iinc C d_M_best_38 rfl (nI_1 k) rfl ?_
              refine e_goto C d_M_best_41 (tgt := 4) (by decide) ?_
              exact e_lv2 (ih (k + 1) (some j) (by omega) hbk (by rw [← hf]; simp [pickB, hh, hb2])) rfl
            · rw [bI_n] at h33
              have hb2 : bt k j = true := by rw [← hbt]; exact h33
              refine e_iload_n C d_M_best_36 rfl ?_
              refine e_istore_n C d_M_best_37 rfl ?_
              refine e_iinc C d_M_best_38 rfl (nI_1 k) rfl ?_
              refine e_goto C d_M_best_41 (tgt := 4) (by decide) ?_
              exact e_lv2 (ih (k + 1) (some k) (by omega) (fun j hj => by cases hj; omega) (by rw [← hf]; simp [pickB, hh, hb2])) rfl
  exact e_lv2 (L wd b0 none rfl (fun j hj => by cases hj) rfl) rfl
end M1
