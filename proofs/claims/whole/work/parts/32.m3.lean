/-! THE REFERENCE: rows, placing, near lines -/
theorem ey_M_writeAll : eY y_M_writeAll 1 = true := by decide +kernel
theorem d_M_writeAll_0 : decode c_M_writeAll 0 = .ok (.aload_n 0, 1) := by decide +kernel
theorem d_M_writeAll_1 : decode c_M_writeAll 1 = .ok (.getfield 82, 3) := by decide +kernel
theorem d_M_writeAll_4 : decode c_M_writeAll 4 = .ok (.bipush 7, 2) := by decide +kernel
theorem d_M_writeAll_6 : decode c_M_writeAll 6 = .ok (.dup2, 1) := by decide +kernel
theorem d_M_writeAll_7 : decode c_M_writeAll 7 = .ok (.iaload, 1) := by decide +kernel
theorem d_M_writeAll_8 : decode c_M_writeAll 8 = .ok (.iload_n 1, 1) := by decide +kernel
theorem d_M_writeAll_9 : decode c_M_writeAll 9 = .ok (.invokestatic 157, 3) := by decide +kernel
theorem d_M_writeAll_12 : decode c_M_writeAll 12 = .ok (.iadd, 1) := by decide +kernel
theorem d_M_writeAll_13 : decode c_M_writeAll 13 = .ok (.iastore, 1) := by decide +kernel
theorem d_M_writeAll_14 : decode c_M_writeAll 14 = .ok (.return_, 1) := by decide +kernel
theorem ey_M_takeRow : eY y_M_takeRow 1 = true := by decide +kernel
theorem d_M_takeRow_0 : decode c_M_takeRow 0 = .ok (.aload_n 0, 1) := by decide +kernel
theorem d_M_takeRow_1 : decode c_M_takeRow 1 = .ok (.dup, 1) := by decide +kernel
theorem d_M_takeRow_2 : decode c_M_takeRow 2 = .ok (.getfield 114, 3) := by decide +kernel
theorem d_M_takeRow_5 : decode c_M_takeRow 5 = .ok (.iconst 1, 1) := by decide +kernel
theorem d_M_takeRow_6 : decode c_M_takeRow 6 = .ok (.isub, 1) := by decide +kernel
theorem d_M_takeRow_7 : decode c_M_takeRow 7 = .ok (.putfield 114, 3) := by decide +kernel
theorem d_M_takeRow_10 : decode c_M_takeRow 10 = .ok (.iload_n 1, 1) := by decide +kernel
theorem d_M_takeRow_11 : decode c_M_takeRow 11 = .ok (.istore_n 2, 1) := by decide +kernel
theorem d_M_takeRow_12 : decode c_M_takeRow 12 = .ok (.iload_n 2, 1) := by decide +kernel
theorem d_M_takeRow_13 : decode c_M_takeRow 13 = .ok (.aload_n 0, 1) := by decide +kernel
theorem d_M_takeRow_14 : decode c_M_takeRow 14 = .ok (.getfield 114, 3) := by decide +kernel
theorem d_M_takeRow_17 : decode c_M_takeRow 17 = .ok (.if_icmp .ge 51, 3) := by decide +kernel
theorem d_M_takeRow_20 : decode c_M_takeRow 20 = .ok (.aload_n 0, 1) := by decide +kernel
theorem d_M_takeRow_21 : decode c_M_takeRow 21 = .ok (.getfield 55, 3) := by decide +kernel
theorem d_M_takeRow_24 : decode c_M_takeRow 24 = .ok (.iload_n 2, 1) := by decide +kernel
theorem d_M_takeRow_25 : decode c_M_takeRow 25 = .ok (.aload_n 0, 1) := by decide +kernel
theorem d_M_takeRow_26 : decode c_M_takeRow 26 = .ok (.getfield 55, 3) := by decide +kernel
theorem d_M_takeRow_29 : decode c_M_takeRow 29 = .ok (.iload_n 2, 1) := by decide +kernel
theorem d_M_takeRow_30 : decode c_M_takeRow 30 = .ok (.iconst 1, 1) := by decide +kernel
theorem d_M_takeRow_31 : decode c_M_takeRow 31 = .ok (.iadd, 1) := by decide +kernel
theorem d_M_takeRow_32 : decode c_M_takeRow 32 = .ok (.iaload, 1) := by decide +kernel
theorem d_M_takeRow_33 : decode c_M_takeRow 33 = .ok (.iastore, 1) := by decide +kernel
theorem d_M_takeRow_34 : decode c_M_takeRow 34 = .ok (.aload_n 0, 1) := by decide +kernel
theorem d_M_takeRow_35 : decode c_M_takeRow 35 = .ok (.getfield 58, 3) := by decide +kernel
theorem d_M_takeRow_38 : decode c_M_takeRow 38 = .ok (.iload_n 2, 1) := by decide +kernel
theorem d_M_takeRow_39 : decode c_M_takeRow 39 = .ok (.aload_n 0, 1) := by decide +kernel
theorem d_M_takeRow_40 : decode c_M_takeRow 40 = .ok (.getfield 58, 3) := by decide +kernel
theorem d_M_takeRow_43 : decode c_M_takeRow 43 = .ok (.iload_n 2, 1) := by decide +kernel
theorem d_M_takeRow_44 : decode c_M_takeRow 44 = .ok (.iconst 1, 1) := by decide +kernel
theorem d_M_takeRow_45 : decode c_M_takeRow 45 = .ok (.iadd, 1) := by decide +kernel
theorem d_M_takeRow_46 : decode c_M_takeRow 46 = .ok (.iaload, 1) := by decide +kernel
theorem d_M_takeRow_47 : decode c_M_takeRow 47 = .ok (.iastore, 1) := by decide +kernel
theorem d_M_takeRow_48 : decode c_M_takeRow 48 = .ok (.aload_n 0, 1) := by decide +kernel
theorem d_M_takeRow_49 : decode c_M_takeRow 49 = .ok (.getfield 61, 3) := by decide +kernel
theorem d_M_takeRow_52 : decode c_M_takeRow 52 = .ok (.iload_n 2, 1) := by decide +kernel
theorem d_M_takeRow_53 : decode c_M_takeRow 53 = .ok (.aload_n 0, 1) := by decide +kernel
theorem d_M_takeRow_54 : decode c_M_takeRow 54 = .ok (.getfield 61, 3) := by decide +kernel
theorem d_M_takeRow_57 : decode c_M_takeRow 57 = .ok (.iload_n 2, 1) := by decide +kernel
theorem d_M_takeRow_58 : decode c_M_takeRow 58 = .ok (.iconst 1, 1) := by decide +kernel
theorem d_M_takeRow_59 : decode c_M_takeRow 59 = .ok (.iadd, 1) := by decide +kernel
theorem d_M_takeRow_60 : decode c_M_takeRow 60 = .ok (.iaload, 1) := by decide +kernel
theorem d_M_takeRow_61 : decode c_M_takeRow 61 = .ok (.iastore, 1) := by decide +kernel
theorem d_M_takeRow_62 : decode c_M_takeRow 62 = .ok (.iinc 2 1, 3) := by decide +kernel
theorem d_M_takeRow_65 : decode c_M_takeRow 65 = .ok (.goto (-53), 3) := by decide +kernel
theorem d_M_takeRow_68 : decode c_M_takeRow 68 = .ok (.return_, 1) := by decide +kernel
theorem ey_M_catchRow : eY y_M_catchRow 3 = true := by decide +kernel
theorem d_M_catchRow_0 : decode c_M_catchRow 0 = .ok (.aload_n 0, 1) := by decide +kernel
theorem d_M_catchRow_1 : decode c_M_catchRow 1 = .ok (.getfield 55, 3) := by decide +kernel
theorem d_M_catchRow_4 : decode c_M_catchRow 4 = .ok (.aload_n 0, 1) := by decide +kernel
theorem d_M_catchRow_5 : decode c_M_catchRow 5 = .ok (.getfield 114, 3) := by decide +kernel
theorem d_M_catchRow_8 : decode c_M_catchRow 8 = .ok (.iload_n 1, 1) := by decide +kernel
theorem d_M_catchRow_9 : decode c_M_catchRow 9 = .ok (.iastore, 1) := by decide +kernel
theorem d_M_catchRow_10 : decode c_M_catchRow 10 = .ok (.aload_n 0, 1) := by decide +kernel
theorem d_M_catchRow_11 : decode c_M_catchRow 11 = .ok (.getfield 58, 3) := by decide +kernel
theorem d_M_catchRow_14 : decode c_M_catchRow 14 = .ok (.aload_n 0, 1) := by decide +kernel
theorem d_M_catchRow_15 : decode c_M_catchRow 15 = .ok (.getfield 114, 3) := by decide +kernel
theorem d_M_catchRow_18 : decode c_M_catchRow 18 = .ok (.iload_n 2, 1) := by decide +kernel
theorem d_M_catchRow_19 : decode c_M_catchRow 19 = .ok (.iastore, 1) := by decide +kernel
theorem d_M_catchRow_20 : decode c_M_catchRow 20 = .ok (.aload_n 0, 1) := by decide +kernel
theorem d_M_catchRow_21 : decode c_M_catchRow 21 = .ok (.getfield 61, 3) := by decide +kernel
theorem d_M_catchRow_24 : decode c_M_catchRow 24 = .ok (.aload_n 0, 1) := by decide +kernel
theorem d_M_catchRow_25 : decode c_M_catchRow 25 = .ok (.getfield 114, 3) := by decide +kernel
theorem d_M_catchRow_28 : decode c_M_catchRow 28 = .ok (.iload_n 3, 1) := by decide +kernel
theorem d_M_catchRow_29 : decode c_M_catchRow 29 = .ok (.iastore, 1) := by decide +kernel
theorem d_M_catchRow_30 : decode c_M_catchRow 30 = .ok (.aload_n 0, 1) := by decide +kernel
theorem d_M_catchRow_31 : decode c_M_catchRow 31 = .ok (.dup, 1) := by decide +kernel
theorem d_M_catchRow_32 : decode c_M_catchRow 32 = .ok (.getfield 114, 3) := by decide +kernel
theorem d_M_catchRow_35 : decode c_M_catchRow 35 = .ok (.iconst 1, 1) := by decide +kernel
theorem d_M_catchRow_36 : decode c_M_catchRow 36 = .ok (.iadd, 1) := by decide +kernel
theorem d_M_catchRow_37 : decode c_M_catchRow 37 = .ok (.putfield 114, 3) := by decide +kernel
theorem d_M_catchRow_40 : decode c_M_catchRow 40 = .ok (.aload_n 0, 1) := by decide +kernel
theorem d_M_catchRow_41 : decode c_M_catchRow 41 = .ok (.getfield 114, 3) := by decide +kernel
theorem d_M_catchRow_44 : decode c_M_catchRow 44 = .ok (.aload_n 0, 1) := by decide +kernel
theorem d_M_catchRow_45 : decode c_M_catchRow 45 = .ok (.getfield 101, 3) := by decide +kernel
theorem d_M_catchRow_48 : decode c_M_catchRow 48 = .ok (.if_icmp .le 18, 3) := by decide +kernel
theorem d_M_catchRow_51 : decode c_M_catchRow 51 = .ok (.aload_n 0, 1) := by decide +kernel
theorem d_M_catchRow_52 : decode c_M_catchRow 52 = .ok (.aload_n 0, 1) := by decide +kernel
theorem d_M_catchRow_53 : decode c_M_catchRow 53 = .ok (.getfield 61, 3) := by decide +kernel
theorem d_M_catchRow_56 : decode c_M_catchRow 56 = .ok (.iconst 0, 1) := by decide +kernel
theorem d_M_catchRow_57 : decode c_M_catchRow 57 = .ok (.iaload, 1) := by decide +kernel
theorem d_M_catchRow_58 : decode c_M_catchRow 58 = .ok (.invokevirtual 160, 3) := by decide +kernel
theorem d_M_catchRow_61 : decode c_M_catchRow 61 = .ok (.aload_n 0, 1) := by decide +kernel
theorem d_M_catchRow_62 : decode c_M_catchRow 62 = .ok (.iconst 0, 1) := by decide +kernel
theorem d_M_catchRow_63 : decode c_M_catchRow 63 = .ok (.invokevirtual 163, 3) := by decide +kernel
theorem d_M_catchRow_66 : decode c_M_catchRow 66 = .ok (.return_, 1) := by decide +kernel
theorem ey_M_canPlace : eY y_M_canPlace 1 = true := by decide +kernel
theorem d_M_canPlace_0 : decode c_M_canPlace 0 = .ok (.iconst 0, 1) := by decide +kernel
theorem d_M_canPlace_1 : decode c_M_canPlace 1 = .ok (.istore_n 2, 1) := by decide +kernel
theorem d_M_canPlace_2 : decode c_M_canPlace 2 = .ok (.bipush 8, 2) := by decide +kernel
theorem d_M_canPlace_4 : decode c_M_canPlace 4 = .ok (.aload_n 0, 1) := by decide +kernel
theorem d_M_canPlace_5 : decode c_M_canPlace 5 = .ok (.iload_n 1, 1) := by decide +kernel
theorem d_M_canPlace_6 : decode c_M_canPlace 6 = .ok (.invokevirtual 110, 3) := by decide +kernel
theorem d_M_canPlace_9 : decode c_M_canPlace 9 = .ok (.imul, 1) := by decide +kernel
theorem d_M_canPlace_10 : decode c_M_canPlace 10 = .ok (.istore_n 3, 1) := by decide +kernel
theorem d_M_canPlace_11 : decode c_M_canPlace 11 = .ok (.iload_n 3, 1) := by decide +kernel
theorem d_M_canPlace_12 : decode c_M_canPlace 12 = .ok (.istore 4, 2) := by decide +kernel
theorem d_M_canPlace_14 : decode c_M_canPlace 14 = .ok (.iload 4, 2) := by decide +kernel
theorem d_M_canPlace_16 : decode c_M_canPlace 16 = .ok (.iload_n 3, 1) := by decide +kernel
theorem d_M_canPlace_17 : decode c_M_canPlace 17 = .ok (.aload_n 0, 1) := by decide +kernel
theorem d_M_canPlace_18 : decode c_M_canPlace 18 = .ok (.getfield 95, 3) := by decide +kernel
theorem d_M_canPlace_21 : decode c_M_canPlace 21 = .ok (.iadd, 1) := by decide +kernel
theorem d_M_canPlace_22 : decode c_M_canPlace 22 = .ok (.if_icmp .ge 39, 3) := by decide +kernel
theorem d_M_canPlace_25 : decode c_M_canPlace 25 = .ok (.iload_n 2, 1) := by decide +kernel
theorem d_M_canPlace_26 : decode c_M_canPlace 26 = .ok (.ifCond .ne 23, 3) := by decide +kernel
theorem d_M_canPlace_29 : decode c_M_canPlace 29 = .ok (.aload_n 0, 1) := by decide +kernel
theorem d_M_canPlace_30 : decode c_M_canPlace 30 = .ok (.getfield 13, 3) := by decide +kernel
theorem d_M_canPlace_33 : decode c_M_canPlace 33 = .ok (.iload 4, 2) := by decide +kernel
theorem d_M_canPlace_35 : decode c_M_canPlace 35 = .ok (.baload, 1) := by decide +kernel
theorem d_M_canPlace_36 : decode c_M_canPlace 36 = .ok (.ifCond .eq 13, 3) := by decide +kernel
theorem d_M_canPlace_39 : decode c_M_canPlace 39 = .ok (.aload_n 0, 1) := by decide +kernel
theorem d_M_canPlace_40 : decode c_M_canPlace 40 = .ok (.getfield 27, 3) := by decide +kernel
theorem d_M_canPlace_43 : decode c_M_canPlace 43 = .ok (.iload 4, 2) := by decide +kernel
theorem d_M_canPlace_45 : decode c_M_canPlace 45 = .ok (.baload, 1) := by decide +kernel
theorem d_M_canPlace_46 : decode c_M_canPlace 46 = .ok (.ifCond .ne 7, 3) := by decide +kernel
theorem d_M_canPlace_49 : decode c_M_canPlace 49 = .ok (.iconst 1, 1) := by decide +kernel
theorem d_M_canPlace_50 : decode c_M_canPlace 50 = .ok (.goto 4, 3) := by decide +kernel
theorem d_M_canPlace_53 : decode c_M_canPlace 53 = .ok (.iconst 0, 1) := by decide +kernel
theorem d_M_canPlace_54 : decode c_M_canPlace 54 = .ok (.istore_n 2, 1) := by decide +kernel
theorem d_M_canPlace_55 : decode c_M_canPlace 55 = .ok (.iinc 4 1, 3) := by decide +kernel
theorem d_M_canPlace_58 : decode c_M_canPlace 58 = .ok (.goto (-44), 3) := by decide +kernel
theorem d_M_canPlace_61 : decode c_M_canPlace 61 = .ok (.iload_n 2, 1) := by decide +kernel
theorem d_M_canPlace_62 : decode c_M_canPlace 62 = .ok (.ireturn, 1) := by decide +kernel
theorem ey_M_place : eY y_M_place 3 = true := by decide +kernel
theorem d_M_place_0 : decode c_M_place 0 = .ok (.bipush 8, 2) := by decide +kernel
theorem d_M_place_2 : decode c_M_place 2 = .ok (.aload_n 0, 1) := by decide +kernel
theorem d_M_place_3 : decode c_M_place 3 = .ok (.iload_n 1, 1) := by decide +kernel
theorem d_M_place_4 : decode c_M_place 4 = .ok (.invokevirtual 110, 3) := by decide +kernel
theorem d_M_place_7 : decode c_M_place 7 = .ok (.imul, 1) := by decide +kernel
theorem d_M_place_8 : decode c_M_place 8 = .ok (.istore 4, 2) := by decide +kernel
theorem d_M_place_10 : decode c_M_place 10 = .ok (.iload 4, 2) := by decide +kernel
theorem d_M_place_12 : decode c_M_place 12 = .ok (.istore 5, 2) := by decide +kernel
theorem d_M_place_14 : decode c_M_place 14 = .ok (.iload 5, 2) := by decide +kernel
theorem d_M_place_16 : decode c_M_place 16 = .ok (.iload 4, 2) := by decide +kernel
theorem d_M_place_18 : decode c_M_place 18 = .ok (.aload_n 0, 1) := by decide +kernel
theorem d_M_place_19 : decode c_M_place 19 = .ok (.getfield 95, 3) := by decide +kernel
theorem d_M_place_22 : decode c_M_place 22 = .ok (.iadd, 1) := by decide +kernel
theorem d_M_place_23 : decode c_M_place 23 = .ok (.if_icmp .ge 19, 3) := by decide +kernel
theorem d_M_place_26 : decode c_M_place 26 = .ok (.aload_n 0, 1) := by decide +kernel
theorem d_M_place_27 : decode c_M_place 27 = .ok (.getfield 13, 3) := by decide +kernel
theorem d_M_place_30 : decode c_M_place 30 = .ok (.iload 5, 2) := by decide +kernel
theorem d_M_place_32 : decode c_M_place 32 = .ok (.baload, 1) := by decide +kernel
theorem d_M_place_33 : decode c_M_place 33 = .ok (.ifCond .eq 9, 3) := by decide +kernel
theorem d_M_place_36 : decode c_M_place 36 = .ok (.iinc 5 1, 3) := by decide +kernel
theorem d_M_place_39 : decode c_M_place 39 = .ok (.goto (-25), 3) := by decide +kernel
theorem d_M_place_42 : decode c_M_place 42 = .ok (.iload 5, 2) := by decide +kernel
theorem d_M_place_44 : decode c_M_place 44 = .ok (.iload 4, 2) := by decide +kernel
theorem d_M_place_46 : decode c_M_place 46 = .ok (.aload_n 0, 1) := by decide +kernel
theorem d_M_place_47 : decode c_M_place 47 = .ok (.getfield 95, 3) := by decide +kernel
theorem d_M_place_50 : decode c_M_place 50 = .ok (.iadd, 1) := by decide +kernel
theorem d_M_place_51 : decode c_M_place 51 = .ok (.if_icmp .ne 48, 3) := by decide +kernel
theorem d_M_place_54 : decode c_M_place 54 = .ok (.aload_n 0, 1) := by decide +kernel
theorem d_M_place_55 : decode c_M_place 55 = .ok (.iload 4, 2) := by decide +kernel
theorem d_M_place_57 : decode c_M_place 57 = .ok (.iconst 1, 1) := by decide +kernel
theorem d_M_place_58 : decode c_M_place 58 = .ok (.invokevirtual 166, 3) := by decide +kernel
theorem d_M_place_61 : decode c_M_place 61 = .ok (.istore 5, 2) := by decide +kernel
theorem d_M_place_63 : decode c_M_place 63 = .ok (.aload_n 0, 1) := by decide +kernel
theorem d_M_place_64 : decode c_M_place 64 = .ok (.getfield 82, 3) := by decide +kernel
theorem d_M_place_67 : decode c_M_place 67 = .ok (.bipush 8, 2) := by decide +kernel
theorem d_M_place_69 : decode c_M_place 69 = .ok (.dup2, 1) := by decide +kernel
theorem d_M_place_70 : decode c_M_place 70 = .ok (.iaload, 1) := by decide +kernel
theorem d_M_place_71 : decode c_M_place 71 = .ok (.iconst 1, 1) := by decide +kernel
theorem d_M_place_72 : decode c_M_place 72 = .ok (.iadd, 1) := by decide +kernel
theorem d_M_place_73 : decode c_M_place 73 = .ok (.iastore, 1) := by decide +kernel
theorem d_M_place_74 : decode c_M_place 74 = .ok (.aload_n 0, 1) := by decide +kernel
theorem d_M_place_75 : decode c_M_place 75 = .ok (.aload_n 0, 1) := by decide +kernel
theorem d_M_place_76 : decode c_M_place 76 = .ok (.getfield 17, 3) := by decide +kernel
theorem d_M_place_79 : decode c_M_place 79 = .ok (.iload 5, 2) := by decide +kernel
theorem d_M_place_81 : decode c_M_place 81 = .ok (.iaload, 1) := by decide +kernel
theorem d_M_place_82 : decode c_M_place 82 = .ok (.aload_n 0, 1) := by decide +kernel
theorem d_M_place_83 : decode c_M_place 83 = .ok (.getfield 21, 3) := by decide +kernel
theorem d_M_place_86 : decode c_M_place 86 = .ok (.iload 5, 2) := by decide +kernel
theorem d_M_place_88 : decode c_M_place 88 = .ok (.iaload, 1) := by decide +kernel
theorem d_M_place_89 : decode c_M_place 89 = .ok (.aload_n 0, 1) := by decide +kernel
theorem d_M_place_90 : decode c_M_place 90 = .ok (.getfield 24, 3) := by decide +kernel
theorem d_M_place_93 : decode c_M_place 93 = .ok (.iload 5, 2) := by decide +kernel
theorem d_M_place_95 : decode c_M_place 95 = .ok (.iaload, 1) := by decide +kernel
theorem d_M_place_96 : decode c_M_place 96 = .ok (.invokevirtual 169, 3) := by decide +kernel
theorem d_M_place_99 : decode c_M_place 99 = .ok (.aload_n 0, 1) := by decide +kernel
theorem d_M_place_100 : decode c_M_place 100 = .ok (.getfield 13, 3) := by decide +kernel
theorem d_M_place_103 : decode c_M_place 103 = .ok (.iload 5, 2) := by decide +kernel
theorem d_M_place_105 : decode c_M_place 105 = .ok (.iconst 1, 1) := by decide +kernel
theorem d_M_place_106 : decode c_M_place 106 = .ok (.bastore, 1) := by decide +kernel
theorem d_M_place_107 : decode c_M_place 107 = .ok (.aload_n 0, 1) := by decide +kernel
theorem d_M_place_108 : decode c_M_place 108 = .ok (.getfield 17, 3) := by decide +kernel
theorem d_M_place_111 : decode c_M_place 111 = .ok (.iload 5, 2) := by decide +kernel
theorem d_M_place_113 : decode c_M_place 113 = .ok (.iload_n 1, 1) := by decide +kernel
theorem d_M_place_114 : decode c_M_place 114 = .ok (.iastore, 1) := by decide +kernel
theorem d_M_place_115 : decode c_M_place 115 = .ok (.aload_n 0, 1) := by decide +kernel
theorem d_M_place_116 : decode c_M_place 116 = .ok (.getfield 21, 3) := by decide +kernel
theorem d_M_place_119 : decode c_M_place 119 = .ok (.iload 5, 2) := by decide +kernel
theorem d_M_place_121 : decode c_M_place 121 = .ok (.iload_n 2, 1) := by decide +kernel
theorem d_M_place_122 : decode c_M_place 122 = .ok (.iastore, 1) := by decide +kernel
theorem d_M_place_123 : decode c_M_place 123 = .ok (.aload_n 0, 1) := by decide +kernel
theorem d_M_place_124 : decode c_M_place 124 = .ok (.getfield 24, 3) := by decide +kernel
theorem d_M_place_127 : decode c_M_place 127 = .ok (.iload 5, 2) := by decide +kernel
theorem d_M_place_129 : decode c_M_place 129 = .ok (.iload_n 3, 1) := by decide +kernel
theorem d_M_place_130 : decode c_M_place 130 = .ok (.iastore, 1) := by decide +kernel
theorem d_M_place_131 : decode c_M_place 131 = .ok (.aload_n 0, 1) := by decide +kernel
theorem d_M_place_132 : decode c_M_place 132 = .ok (.iload 5, 2) := by decide +kernel
theorem d_M_place_134 : decode c_M_place 134 = .ok (.invokevirtual 173, 3) := by decide +kernel
theorem d_M_place_137 : decode c_M_place 137 = .ok (.iload 5, 2) := by decide +kernel
theorem d_M_place_139 : decode c_M_place 139 = .ok (.ireturn, 1) := by decide +kernel
theorem ey_M_distanceOf : eY y_M_distanceOf 1 = true := by decide +kernel
theorem d_M_distanceOf_0 : decode c_M_distanceOf 0 = .ok (.iconst (-1), 1) := by decide +kernel
theorem d_M_distanceOf_1 : decode c_M_distanceOf 1 = .ok (.istore_n 2, 1) := by decide +kernel
theorem d_M_distanceOf_2 : decode c_M_distanceOf 2 = .ok (.iconst 0, 1) := by decide +kernel
theorem d_M_distanceOf_3 : decode c_M_distanceOf 3 = .ok (.istore_n 3, 1) := by decide +kernel
theorem d_M_distanceOf_4 : decode c_M_distanceOf 4 = .ok (.iload_n 3, 1) := by decide +kernel
theorem d_M_distanceOf_5 : decode c_M_distanceOf 5 = .ok (.aload_n 0, 1) := by decide +kernel
theorem d_M_distanceOf_6 : decode c_M_distanceOf 6 = .ok (.getfield 176, 3) := by decide +kernel
theorem d_M_distanceOf_9 : decode c_M_distanceOf 9 = .ok (.if_icmp .ge 25, 3) := by decide +kernel
theorem d_M_distanceOf_12 : decode c_M_distanceOf 12 = .ok (.aload_n 0, 1) := by decide +kernel
theorem d_M_distanceOf_13 : decode c_M_distanceOf 13 = .ok (.getfield 76, 3) := by decide +kernel
theorem d_M_distanceOf_16 : decode c_M_distanceOf 16 = .ok (.iload_n 3, 1) := by decide +kernel
theorem d_M_distanceOf_17 : decode c_M_distanceOf 17 = .ok (.iaload, 1) := by decide +kernel
theorem d_M_distanceOf_18 : decode c_M_distanceOf 18 = .ok (.iload_n 1, 1) := by decide +kernel
theorem d_M_distanceOf_19 : decode c_M_distanceOf 19 = .ok (.if_icmp .ne 7, 3) := by decide +kernel
theorem d_M_distanceOf_22 : decode c_M_distanceOf 22 = .ok (.iload_n 3, 1) := by decide +kernel
theorem d_M_distanceOf_23 : decode c_M_distanceOf 23 = .ok (.goto 4, 3) := by decide +kernel
theorem d_M_distanceOf_26 : decode c_M_distanceOf 26 = .ok (.iload_n 2, 1) := by decide +kernel
theorem d_M_distanceOf_27 : decode c_M_distanceOf 27 = .ok (.istore_n 2, 1) := by decide +kernel
theorem d_M_distanceOf_28 : decode c_M_distanceOf 28 = .ok (.iinc 3 1, 3) := by decide +kernel
theorem d_M_distanceOf_31 : decode c_M_distanceOf 31 = .ok (.goto (-27), 3) := by decide +kernel
theorem d_M_distanceOf_34 : decode c_M_distanceOf 34 = .ok (.iload_n 2, 1) := by decide +kernel
theorem d_M_distanceOf_35 : decode c_M_distanceOf 35 = .ok (.ireturn, 1) := by decide +kernel
theorem ey_M_putNear : eY y_M_putNear 1 = true := by decide +kernel
theorem d_M_putNear_0 : decode c_M_putNear 0 = .ok (.aload_n 0, 1) := by decide +kernel
theorem d_M_putNear_1 : decode c_M_putNear 1 = .ok (.iload_n 1, 1) := by decide +kernel
theorem d_M_putNear_2 : decode c_M_putNear 2 = .ok (.invokevirtual 179, 3) := by decide +kernel
theorem d_M_putNear_5 : decode c_M_putNear 5 = .ok (.istore_n 2, 1) := by decide +kernel
theorem d_M_putNear_6 : decode c_M_putNear 6 = .ok (.aload_n 0, 1) := by decide +kernel
theorem d_M_putNear_7 : decode c_M_putNear 7 = .ok (.getfield 79, 3) := by decide +kernel
theorem d_M_putNear_10 : decode c_M_putNear 10 = .ok (.iload_n 2, 1) := by decide +kernel
theorem d_M_putNear_11 : decode c_M_putNear 11 = .ok (.ifCond .ge 8, 3) := by decide +kernel
theorem d_M_putNear_14 : decode c_M_putNear 14 = .ok (.bipush 64, 2) := by decide +kernel
theorem d_M_putNear_16 : decode c_M_putNear 16 = .ok (.goto 4, 3) := by decide +kernel
theorem d_M_putNear_19 : decode c_M_putNear 19 = .ok (.iload_n 2, 1) := by decide +kernel
theorem d_M_putNear_20 : decode c_M_putNear 20 = .ok (.dup2, 1) := by decide +kernel
theorem d_M_putNear_21 : decode c_M_putNear 21 = .ok (.iaload, 1) := by decide +kernel
theorem d_M_putNear_22 : decode c_M_putNear 22 = .ok (.iconst 1, 1) := by decide +kernel
theorem d_M_putNear_23 : decode c_M_putNear 23 = .ok (.iadd, 1) := by decide +kernel
theorem d_M_putNear_24 : decode c_M_putNear 24 = .ok (.iastore, 1) := by decide +kernel
theorem d_M_putNear_25 : decode c_M_putNear 25 = .ok (.iload_n 2, 1) := by decide +kernel
theorem d_M_putNear_26 : decode c_M_putNear 26 = .ok (.ifCond .ge 27, 3) := by decide +kernel
theorem d_M_putNear_29 : decode c_M_putNear 29 = .ok (.aload_n 0, 1) := by decide +kernel
theorem d_M_putNear_30 : decode c_M_putNear 30 = .ok (.getfield 176, 3) := by decide +kernel
theorem d_M_putNear_33 : decode c_M_putNear 33 = .ok (.istore_n 2, 1) := by decide +kernel
theorem d_M_putNear_34 : decode c_M_putNear 34 = .ok (.aload_n 0, 1) := by decide +kernel
theorem d_M_putNear_35 : decode c_M_putNear 35 = .ok (.getfield 176, 3) := by decide +kernel
theorem d_M_putNear_38 : decode c_M_putNear 38 = .ok (.bipush 64, 2) := by decide +kernel
theorem d_M_putNear_40 : decode c_M_putNear 40 = .ok (.if_icmp .ge 13, 3) := by decide +kernel
theorem d_M_putNear_43 : decode c_M_putNear 43 = .ok (.aload_n 0, 1) := by decide +kernel
theorem d_M_putNear_44 : decode c_M_putNear 44 = .ok (.dup, 1) := by decide +kernel
theorem d_M_putNear_45 : decode c_M_putNear 45 = .ok (.getfield 176, 3) := by decide +kernel
theorem d_M_putNear_48 : decode c_M_putNear 48 = .ok (.iconst 1, 1) := by decide +kernel
theorem d_M_putNear_49 : decode c_M_putNear 49 = .ok (.iadd, 1) := by decide +kernel
theorem d_M_putNear_50 : decode c_M_putNear 50 = .ok (.putfield 176, 3) := by decide +kernel
theorem d_M_putNear_53 : decode c_M_putNear 53 = .ok (.iload_n 2, 1) := by decide +kernel
theorem d_M_putNear_54 : decode c_M_putNear 54 = .ok (.istore_n 3, 1) := by decide +kernel
theorem d_M_putNear_55 : decode c_M_putNear 55 = .ok (.iload_n 3, 1) := by decide +kernel
theorem d_M_putNear_56 : decode c_M_putNear 56 = .ok (.ifCond .le 23, 3) := by decide +kernel
theorem d_M_putNear_59 : decode c_M_putNear 59 = .ok (.aload_n 0, 1) := by decide +kernel
theorem d_M_putNear_60 : decode c_M_putNear 60 = .ok (.getfield 76, 3) := by decide +kernel
theorem d_M_putNear_63 : decode c_M_putNear 63 = .ok (.iload_n 3, 1) := by decide +kernel
theorem d_M_putNear_64 : decode c_M_putNear 64 = .ok (.aload_n 0, 1) := by decide +kernel
theorem d_M_putNear_65 : decode c_M_putNear 65 = .ok (.getfield 76, 3) := by decide +kernel
theorem d_M_putNear_68 : decode c_M_putNear 68 = .ok (.iload_n 3, 1) := by decide +kernel
theorem d_M_putNear_69 : decode c_M_putNear 69 = .ok (.iconst 1, 1) := by decide +kernel
theorem d_M_putNear_70 : decode c_M_putNear 70 = .ok (.isub, 1) := by decide +kernel
theorem d_M_putNear_71 : decode c_M_putNear 71 = .ok (.iaload, 1) := by decide +kernel
theorem d_M_putNear_72 : decode c_M_putNear 72 = .ok (.iastore, 1) := by decide +kernel
theorem d_M_putNear_73 : decode c_M_putNear 73 = .ok (.iinc 3 (-1), 3) := by decide +kernel
theorem d_M_putNear_76 : decode c_M_putNear 76 = .ok (.goto (-21), 3) := by decide +kernel
theorem d_M_putNear_79 : decode c_M_putNear 79 = .ok (.aload_n 0, 1) := by decide +kernel
theorem d_M_putNear_80 : decode c_M_putNear 80 = .ok (.getfield 76, 3) := by decide +kernel
theorem d_M_putNear_83 : decode c_M_putNear 83 = .ok (.iconst 0, 1) := by decide +kernel
theorem d_M_putNear_84 : decode c_M_putNear 84 = .ok (.iload_n 1, 1) := by decide +kernel
theorem d_M_putNear_85 : decode c_M_putNear 85 = .ok (.iastore, 1) := by decide +kernel
theorem d_M_putNear_86 : decode c_M_putNear 86 = .ok (.return_, 1) := by decide +kernel
theorem ey_M_takeWay : eY y_M_takeWay 3 = true := by decide +kernel
theorem d_M_takeWay_0 : decode c_M_takeWay 0 = .ok (.aload_n 0, 1) := by decide +kernel
theorem d_M_takeWay_1 : decode c_M_takeWay 1 = .ok (.getfield 21, 3) := by decide +kernel
theorem d_M_takeWay_4 : decode c_M_takeWay 4 = .ok (.iload_n 1, 1) := by decide +kernel
theorem d_M_takeWay_5 : decode c_M_takeWay 5 = .ok (.iaload, 1) := by decide +kernel
theorem d_M_takeWay_6 : decode c_M_takeWay 6 = .ok (.iload_n 2, 1) := by decide +kernel
theorem d_M_takeWay_7 : decode c_M_takeWay 7 = .ok (.iand, 1) := by decide +kernel
theorem d_M_takeWay_8 : decode c_M_takeWay 8 = .ok (.ifCond .ne 24, 3) := by decide +kernel
theorem d_M_takeWay_11 : decode c_M_takeWay 11 = .ok (.aload_n 0, 1) := by decide +kernel
theorem d_M_takeWay_12 : decode c_M_takeWay 12 = .ok (.getfield 21, 3) := by decide +kernel
theorem d_M_takeWay_15 : decode c_M_takeWay 15 = .ok (.iload_n 1, 1) := by decide +kernel
theorem d_M_takeWay_16 : decode c_M_takeWay 16 = .ok (.dup2, 1) := by decide +kernel
theorem d_M_takeWay_17 : decode c_M_takeWay 17 = .ok (.iaload, 1) := by decide +kernel
theorem d_M_takeWay_18 : decode c_M_takeWay 18 = .ok (.iload_n 2, 1) := by decide +kernel
theorem d_M_takeWay_19 : decode c_M_takeWay 19 = .ok (.ior, 1) := by decide +kernel
theorem d_M_takeWay_20 : decode c_M_takeWay 20 = .ok (.iastore, 1) := by decide +kernel
theorem d_M_takeWay_21 : decode c_M_takeWay 21 = .ok (.aload_n 0, 1) := by decide +kernel
theorem d_M_takeWay_22 : decode c_M_takeWay 22 = .ok (.getfield 82, 3) := by decide +kernel
theorem d_M_takeWay_25 : decode c_M_takeWay 25 = .ok (.bipush 6, 2) := by decide +kernel
theorem d_M_takeWay_27 : decode c_M_takeWay 27 = .ok (.dup2, 1) := by decide +kernel
theorem d_M_takeWay_28 : decode c_M_takeWay 28 = .ok (.iaload, 1) := by decide +kernel
theorem d_M_takeWay_29 : decode c_M_takeWay 29 = .ok (.iconst 1, 1) := by decide +kernel
theorem d_M_takeWay_30 : decode c_M_takeWay 30 = .ok (.iadd, 1) := by decide +kernel
theorem d_M_takeWay_31 : decode c_M_takeWay 31 = .ok (.iastore, 1) := by decide +kernel
theorem d_M_takeWay_32 : decode c_M_takeWay 32 = .ok (.iload_n 3, 1) := by decide +kernel
theorem d_M_takeWay_33 : decode c_M_takeWay 33 = .ok (.ifCond .eq 20, 3) := by decide +kernel
theorem d_M_takeWay_36 : decode c_M_takeWay 36 = .ok (.aload_n 0, 1) := by decide +kernel
theorem d_M_takeWay_37 : decode c_M_takeWay 37 = .ok (.getfield 107, 3) := by decide +kernel
theorem d_M_takeWay_40 : decode c_M_takeWay 40 = .ok (.ifCond .ne 13, 3) := by decide +kernel
theorem d_M_takeWay_43 : decode c_M_takeWay 43 = .ok (.aload_n 0, 1) := by decide +kernel
theorem d_M_takeWay_44 : decode c_M_takeWay 44 = .ok (.getfield 24, 3) := by decide +kernel
theorem d_M_takeWay_47 : decode c_M_takeWay 47 = .ok (.iload_n 1, 1) := by decide +kernel
theorem d_M_takeWay_48 : decode c_M_takeWay 48 = .ok (.dup2, 1) := by decide +kernel
theorem d_M_takeWay_49 : decode c_M_takeWay 49 = .ok (.iaload, 1) := by decide +kernel
theorem d_M_takeWay_50 : decode c_M_takeWay 50 = .ok (.iload_n 2, 1) := by decide +kernel
theorem d_M_takeWay_51 : decode c_M_takeWay 51 = .ok (.ior, 1) := by decide +kernel
theorem d_M_takeWay_52 : decode c_M_takeWay 52 = .ok (.iastore, 1) := by decide +kernel
theorem d_M_takeWay_53 : decode c_M_takeWay 53 = .ok (.iload_n 3, 1) := by decide +kernel
theorem d_M_takeWay_54 : decode c_M_takeWay 54 = .ok (.ifCond .eq 21, 3) := by decide +kernel
theorem d_M_takeWay_57 : decode c_M_takeWay 57 = .ok (.aload_n 0, 1) := by decide +kernel
theorem d_M_takeWay_58 : decode c_M_takeWay 58 = .ok (.getfield 107, 3) := by decide +kernel
theorem d_M_takeWay_61 : decode c_M_takeWay 61 = .ok (.ifCond .eq 14, 3) := by decide +kernel
theorem d_M_takeWay_64 : decode c_M_takeWay 64 = .ok (.aload_n 0, 1) := by decide +kernel
theorem d_M_takeWay_65 : decode c_M_takeWay 65 = .ok (.getfield 82, 3) := by decide +kernel
theorem d_M_takeWay_68 : decode c_M_takeWay 68 = .ok (.bipush 7, 2) := by decide +kernel
theorem d_M_takeWay_70 : decode c_M_takeWay 70 = .ok (.dup2, 1) := by decide +kernel
theorem d_M_takeWay_71 : decode c_M_takeWay 71 = .ok (.iaload, 1) := by decide +kernel
theorem d_M_takeWay_72 : decode c_M_takeWay 72 = .ok (.iconst 1, 1) := by decide +kernel
theorem d_M_takeWay_73 : decode c_M_takeWay 73 = .ok (.iadd, 1) := by decide +kernel
theorem d_M_takeWay_74 : decode c_M_takeWay 74 = .ok (.iastore, 1) := by decide +kernel
theorem d_M_takeWay_75 : decode c_M_takeWay 75 = .ok (.return_, 1) := by decide +kernel
theorem pickB_rng {lk : Nat → Bool} {bt : Nat → Nat → Bool} {lo hi : Nat} : ∀ {q k : Nat} {b : Option Nat} {w : Nat}, lo ≤ k → k + q ≤ hi → (∀ j, b = some j → lo ≤ j ∧ j < hi) → pickB lk bt b k q = some w → lo ≤ w ∧ w < hi
  | 0, _, b, w, _, _, hb, h => hb w h
  | q + 1, k, b, w, h1, h2, hb, h => by
    unfold pickB at h
    refine pickB_rng (by omega) (by omega) ?_ h
    intro j hj
    by_cases hl : lk k = true
    · rw [if_pos hl] at hj
      exact hb j hj
    · rw [if_neg hl] at hj
      cases b with
      | none => cases hj; omega
      | some i =>
        dsimp only at hj
        split at hj
        · cases hj; omega
        · exact hb j hj
theorem nthU_rng {lk : Nat → Bool} {lo hi : Nat} : ∀ {q t k w : Nat}, lo ≤ k → k + q ≤ hi → nthU lk t k q = some w → lo ≤ w ∧ w < hi
  | 0, _, _, _, _, _, h => by cases h
  | q + 1, t, k, w, h1, h2, h => by
    unfold nthU at h
    split at h
    · exact nthU_rng (by omega) (by omega) h
    · split at h
      · cases h; omega
      · exact nthU_rng (by omega) (by omega) h
theorem twO_lt {lk : Nat → Bool} {wd P : Nat} : ∀ {t w0 w : Nat}, twO lk wd P t w0 = some w → w < wd
  | 0, _, _, h => by cases h
  | t + 1, w0, w, h => by
    rw [twO] at h
    split at h
    · rename_i hc
      cases h
      exact hc.1
    · exact twO_lt h
theorem pkS_rng {wd kd : Nat} {m m' : CS} {s r : Nat} {mv : Bool} (hw : 1 ≤ wd) (hk : kd < 10) (hM : MR wd kd m) (hs : s < 16) (h : pkS wd kd m s mv = some (m', r)) : 8 * s ≤ r ∧ r < 8 * s + wd := by
  rcases kd_cases hk with rfl | rfl | rfl | rfl | rfl | rfl | rfl | rfl | rfl | rfl
  · simp only [pkS] at h
    split at h
    · cases h
    · obtain ⟨w, hw, e⟩ := Option.map_eq_some_iff.mp h
      cases e
      exact nthU_rng (Nat.le_refl _) (Nat.le_refl _) hw
  · obtain ⟨hh, hB, hB2⟩ := hM
    obtain ⟨h0, hh0, e0⟩ := hh s hs
    simp only [pkS, e0] at h
    obtain ⟨q, hq, e⟩ := Option.map_eq_some_iff.mp h
    cases e
    by_cases hb : h0 < 2 ^ 31
    · rw [nI_clamp hb] at hq
      have := hndO_BL hw (cpM_BL hB hB2 _ _) hh0 hq
      omega
    · have hz : (nI h0).toNatClampNeg < wd ∨ wd ≤ (nI h0).toNatClampNeg := by omega
      rcases hz with hz | hz
      · have := hndO_BL hw (cpM_BL hB hB2 _ _) hz hq
        omega
      · have := Int32.toNatClampNeg_lt (nI h0)
        omega
  · obtain ⟨w, hw, e⟩ := Option.map_eq_some_iff.mp h
    cases e
    have := twO_lt hw
    omega
  · obtain ⟨w, hw, e⟩ := Option.map_eq_some_iff.mp h
    cases e
    unfold umO at hw
    split at hw
    · rename_i k hk2
      cases hw
      have := fst1_some hk2
      omega
    · have := fst1_some hw
      omega
  · obtain ⟨w, hw, e⟩ := Option.map_eq_some_iff.mp h
    cases e
    have := fst1_some hw
    omega
  all_goals
    obtain ⟨w, hw, e⟩ := Option.map_eq_some_iff.mp h
    cases e
    exact pickB_rng (Nat.le_refl _) (Nat.le_refl _) (fun j hj => by cases hj) hw
def nzM (m : CS) : Nat := (m.1 21).toNatClampNeg
def waS (m : CS) (x : Int32) : CS := (m.1, up2 m.2 34 (upd (m.2 34) 7 (m.2 34 7 + popI x)))
def trF (f : Nat → Nat → Int32) (k z : Nat) : Nat → Nat → Int32 := up2 (up2 (up2 f 22 (shf (f 22) k z)) 23 (shf (f 23) k z)) 24 (shf (f 24) k z)
def cr1 (m : CS) (z : Nat) (x t ch : Int32) : CS := (upd m.1 21 (nI (z + 1)), up2 (up2 (up2 m.2 22 (upd (m.2 22) z x)) 23 (upd (m.2 23) z t)) 24 (upd (m.2 24) z ch))
def crS (V : Nat) (m : CS) (x t ch : Int32) : CS := if nzM m + 1 ≤ V then cr1 m (nzM m) x t ch
  else (upd (cr1 m (nzM m) x t ch).1 21 (nI (nzM m)), trF (waS (cr1 m (nzM m) x t ch) ((cr1 m (nzM m) x t ch).2 24 0)).2 0 (nzM m))
section M3
variable {l : Launch} {G : EG} {a : Nat → Nat} {m : CS} {S wd V kd s w z : Nat} {ws : va_W}
theorem k_M_writeAll {x : Int32} (hx : NB x) : Con l G y_M_writeAll c_M_writeAll 2 none (rz 1 20) [.ref (a 40), .int x] (mF G a m.1 m.2) (DV (mF G a (waS m x).1 (waS m x).2)) := by
  refine Con.of rfl rfl (fun X C E hR hl hnm => ?_)
  obtain ⟨b, hb, rfl⟩ := hx
  rw [show waS m (nI b) = (m.1, up2 m.2 34 (upd (m.2 34) 7 (m.2 34 7 + nI (pop4 b)))) by simp only [waS, popI_eq hb]] at E
  refine e_aload_n C d_M_writeAll_0 rfl ?_
  refine e_get C 0 (k := 34) in_M g778 d_M_writeAll_1 rfl rfl rfl rfl ?_
  refine e_bipush C d_M_writeAll_4 (v := 7) (by decide) ?_
  refine e_dup2 C d_M_writeAll_6 rfl rfl ?_
  refine e_iald C 22 0 d_M_writeAll_7 rfl rfl 7 rfl (by omega) (by omega) ?_
  refine e_iload_n C d_M_writeAll_8 rfl ?_
  refine e_cSi C hR (k_M_ones hb) g977 g14 g975 g976 d_M_writeAll_9 rfl ey_M_ones rfl rfl ⟨Nat.zero_le _, Nat.zero_le _⟩ ?_
  refine e_iadd C d_M_writeAll_12 ?_
  refine e_iast C 22 0 d_M_writeAll_13 rfl rfl 7 rfl (by omega) (by omega) ?_
  exact e_vret C E d_M_writeAll_14 (Nat.le_refl _) (Nat.le_refl _) ⟨rfl, rfl⟩
set_option maxRecDepth 100000 in
theorem k_M_takeRow (hz : m.1 21 = nI (z + 1)) (hz5 : z + 1 ≤ 5) {k : Nat} (hk : k ≤ z) : Con l G y_M_takeRow c_M_takeRow 3 none (rz 0 0) [.ref (a 40), .int (nI k)] (mF G a m.1 m.2) (DV (mF G a (upd m.1 21 (nI z)) (trF m.2 k z))) := by
  refine Con.of rfl rfl (fun X C E hR hl hnm => ?_)
  refine e_aload_n C d_M_takeRow_0 rfl ?_
  refine e_dup C d_M_takeRow_1 rfl ?_
  refine e_get C 0 (k := 21) in_M g765 d_M_takeRow_2 rfl rfl rfl rfl ?_
  refine e_iconst C d_M_takeRow_5 (v := 1) (by decide) ?_
  refine e_isub C d_M_takeRow_6 ?_
  refine e_top (y := nI z) (by rw [hz]; exact nI_pred z) ?_
  refine e_put C 0 (k := 21) in_M tk_M nm_M g765 d_M_takeRow_7 rfl rfl rfl rfl rfl rfl rfl rfl ?_
  refine e_iload_n C d_M_takeRow_10 rfl ?_
  refine e_istore_n C d_M_takeRow_11 rfl ?_
  refine e_eq (ws' := mF G a (upd m.1 21 (nI z)) m.2) rfl ?_
  have L : ∀ q j : Nat, j + q = z → k ≤ j → EW X G 3 0 0 12 [(0, .ref (a 40)), (1, .int (nI k)), (2, .int (nI j))] [] (mF G a (upd m.1 21 (nI z)) (trF m.2 k j)) := by
    intro q
    induction q with
    | zero =>
      intro j hj hkj
      obtain rfl : j = z := by omega
      refine e_iload_n C d_M_takeRow_12 rfl ?_
      refine e_aload_n C d_M_takeRow_13 rfl ?_
      refine e_get C 0 (k := 21) in_M g765 d_M_takeRow_14 rfl rfl rfl rfl ?_
      refine e_icmp_ge C d_M_takeRow_17 (tgt := 68) (by decide) (fun h17 => ?_) (fun h17 => ?_)
      · skip
        exact e_vret C E d_M_takeRow_68 (Nat.le_refl _) (Nat.le_refl _) ⟨rfl, rfl⟩
      · exact absurd (nI_le (Nat.le_refl _) (by omega)) h17
    | succ q ih =>
      intro j hj hkj
      refine e_iload_n C d_M_takeRow_12 rfl ?_
      refine e_aload_n C d_M_takeRow_13 rfl ?_
      refine e_get C 0 (k := 21) in_M g765 d_M_takeRow_14 rfl rfl rfl rfl ?_
      refine e_icmp_ge C d_M_takeRow_17 (tgt := 68) (by decide) (fun h17 => ?_) (fun h17 => ?_)
      · exact absurd h17 (nI_ge (by omega) (by omega))
      · skip
        refine e_aload_n C d_M_takeRow_20 rfl ?_
        refine e_get C 0 (k := 22) in_M g766 d_M_takeRow_21 rfl rfl rfl rfl ?_
        refine e_iload_n C d_M_takeRow_24 rfl ?_
        refine e_aload_n C d_M_takeRow_25 rfl ?_
        refine e_get C 0 (k := 22) in_M g766 d_M_takeRow_26 rfl rfl rfl rfl ?_
        refine e_iload_n C d_M_takeRow_29 rfl ?_
        refine e_iconst C d_M_takeRow_30 (v := 1) (by decide) ?_
        refine e_iadd C d_M_takeRow_31 ?_
        refine e_iald C 13 0 d_M_takeRow_32 rfl rfl (j + 1) (nI_1 j) (by omega) (by omega) ?_
        refine e_iast C 13 0 d_M_takeRow_33 rfl rfl j rfl (by omega) (by omega) ?_
        refine e_aload_n C d_M_takeRow_34 rfl ?_
        refine e_get C 0 (k := 23) in_M g767 d_M_takeRow_35 rfl rfl rfl rfl ?_
        refine e_iload_n C d_M_takeRow_38 rfl ?_
        refine e_aload_n C d_M_takeRow_39 rfl ?_
        refine e_get C 0 (k := 23) in_M g767 d_M_takeRow_40 rfl rfl rfl rfl ?_
        refine e_iload_n C d_M_takeRow_43 rfl ?_
        refine e_iconst C d_M_takeRow_44 (v := 1) (by decide) ?_
        refine e_iadd C d_M_takeRow_45 ?_
        refine e_iald C 14 0 d_M_takeRow_46 rfl rfl (j + 1) (nI_1 j) (by omega) (by omega) ?_
        refine e_iast C 14 0 d_M_takeRow_47 rfl rfl j rfl (by omega) (by omega) ?_
        refine e_aload_n C d_M_takeRow_48 rfl ?_
        refine e_get C 0 (k := 24) in_M g768 d_M_takeRow_49 rfl rfl rfl rfl ?_
        refine e_iload_n C d_M_takeRow_52 rfl ?_
        refine e_aload_n C d_M_takeRow_53 rfl ?_
        refine e_get C 0 (k := 24) in_M g768 d_M_takeRow_54 rfl rfl rfl rfl ?_
        refine e_iload_n C d_M_takeRow_57 rfl ?_
        refine e_iconst C d_M_takeRow_58 (v := 1) (by decide) ?_
        refine e_iadd C d_M_takeRow_59 ?_
        refine e_iald C 15 0 d_M_takeRow_60 rfl rfl (j + 1) (nI_1 j) (by omega) (by omega) ?_
        refine e_iast C 15 0 d_M_takeRow_61 rfl rfl j rfl (by omega) (by omega) ?_
        refine e_eq (ws' := mF G a (upd m.1 21 (nI z)) (trF m.2 k (j + 1))) (by simp only [trF, shf_s hkj]; rfl) ?_
        refine e_iinc C d_M_takeRow_62 rfl (nI_1 j) rfl ?_
        refine e_goto C d_M_takeRow_65 (tgt := 12) (by decide) ?_
        exact e_lv2 (ih (j + 1) (by omega) (by omega)) rfl
  refine e_eq (ws' := mF G a (upd m.1 21 (nI z)) (trF m.2 k k)) (by simp only [trF, shf_0]; rfl) ?_
  exact e_lv2 (L (z - k) k (by omega) (Nat.le_refl _)) rfl
set_option maxRecDepth 100000 in
theorem k_M_catchRow (h : MD m.1 S wd V kd) (hz : m.1 21 = nI z) (hzV : z ≤ V) (h24 : NB (m.2 24 0)) (x t : Int32) {ch : Int32} (hch : NB ch) : Con l G y_M_catchRow c_M_catchRow 4 none (rz 2 41) [.ref (a 40), .int x, .int t, .int ch] (mF G a m.1 m.2) (DV (mF G a (crS V m x t ch).1 (crS V m x t ch).2)) := by
  refine Con.of rfl rfl (fun X C E hR hl hnm => ?_)
  have hV := h.2.2.2.2.2.2.1
  have hze : nzM m = z := by unfold nzM; rw [hz]; exact nI_clamp (by omega)
  unfold crS at E
  rw [hze] at E
  refine e_aload_n C d_M_catchRow_0 rfl ?_
  refine e_get C 0 (k := 22) in_M g766 d_M_catchRow_1 rfl rfl rfl rfl ?_
  refine e_aload_n C d_M_catchRow_4 rfl ?_
  refine e_get C 0 (k := 21) in_M g765 d_M_catchRow_5 rfl rfl rfl rfl ?_
  refine e_iload_n C d_M_catchRow_8 rfl ?_
  refine e_iast C 13 0 d_M_catchRow_9 rfl rfl z hz (by omega) (by omega) ?_
  refine e_aload_n C d_M_catchRow_10 rfl ?_
  refine e_get C 0 (k := 23) in_M g767 d_M_catchRow_11 rfl rfl rfl rfl ?_
  refine e_aload_n C d_M_catchRow_14 rfl ?_
  refine e_get C 0 (k := 21) in_M g765 d_M_catchRow_15 rfl rfl rfl rfl ?_
  refine e_iload_n C d_M_catchRow_18 rfl ?_
  refine e_iast C 14 0 d_M_catchRow_19 rfl rfl z hz (by omega) (by omega) ?_
  refine e_aload_n C d_M_catchRow_20 rfl ?_
  refine e_get C 0 (k := 24) in_M g768 d_M_catchRow_21 rfl rfl rfl rfl ?_
  refine e_aload_n C d_M_catchRow_24 rfl ?_
  refine e_get C 0 (k := 21) in_M g765 d_M_catchRow_25 rfl rfl rfl rfl ?_
  refine e_iload_n C d_M_catchRow_28 rfl ?_
  refine e_iast C 15 0 d_M_catchRow_29 rfl rfl z hz (by omega) (by omega) ?_
  refine e_aload_n C d_M_catchRow_30 rfl ?_
  refine e_dup C d_M_catchRow_31 rfl ?_
  refine e_get C 0 (k := 21) in_M g765 d_M_catchRow_32 rfl rfl rfl rfl ?_
  refine e_iconst C d_M_catchRow_35 (v := 1) (by decide) ?_
  refine e_iadd C d_M_catchRow_36 ?_
  refine e_top (y := nI (z + 1)) (by rw [show _ = nI z from hz]; exact nI_1 z) ?_
  refine e_put C 0 (k := 21) in_M tk_M nm_M g765 d_M_catchRow_37 rfl rfl rfl rfl rfl rfl rfl rfl ?_
  refine e_eq (ws' := mF G a (cr1 m z x t ch).1 (cr1 m z x t ch).2) rfl ?_
  refine e_aload_n C d_M_catchRow_40 rfl ?_
  refine e_get C 0 (k := 21) in_M g765 d_M_catchRow_41 rfl rfl rfl rfl ?_
  refine e_top (show _ = nI (z + 1) from rfl) ?_
  refine e_aload_n C d_M_catchRow_44 rfl ?_
  refine e_get C 0 (k := 4) in_M g748 d_M_catchRow_45 rfl rfl rfl rfl ?_
  refine e_top (show _ = nI V from h.2.2.2.1) ?_
  refine e_icmp_le C d_M_catchRow_48 (tgt := 66) (by decide) (fun h48 => ?_) (fun h48 => ?_)
  · rw [nI_leI (by omega) (by omega)] at h48
    rw [if_pos h48] at E
    exact e_vret C E d_M_catchRow_66 (Nat.le_refl _) (Nat.le_refl _) ⟨rfl, rfl⟩
  · rw [nI_leI (by omega) (by omega)] at h48
    rw [if_neg h48] at E
    have hnb : NB ((cr1 m z x t ch).2 24 0) := by
      show NB (upd (m.2 24) z ch 0)
      by_cases q : 0 = z
      · subst q
        rw [pk_us]
        exact hch
      · rw [pk_un q]
        exact h24
    have hz1 : (cr1 m z x t ch).1 21 = nI (z + 1) := rfl
    generalize cr1 m z x t ch = m1 at E hnb hz1 ⊢
    refine e_aload_n C d_M_catchRow_51 rfl ?_
    refine e_aload_n C d_M_catchRow_52 rfl ?_
    refine e_get C 0 (k := 24) in_M g768 d_M_catchRow_53 rfl rfl rfl rfl ?_
    refine e_iconst C d_M_catchRow_56 (v := 0) (by decide) ?_
    refine e_iald C 15 0 d_M_catchRow_57 rfl rfl 0 rfl (by omega) (by omega) ?_
    refine e_cVv C hR 0 (k_M_writeAll hnb) g974 g14 g971 g973 (gt_sel 36 (by decide +kernel) (by decide +kernel)) d_M_catchRow_58 rfl ey_M_writeAll rfl rfl rfl rfl ⟨Nat.zero_le _, Nat.zero_le _⟩ ?_
    refine e_aload_n C d_M_catchRow_61 rfl ?_
    refine e_iconst C d_M_catchRow_62 (v := nI 0) (by decide) ?_
    refine e_cVv C hR 0 (k_M_takeRow (m := waS m1 (m1.2 24 0)) (z := z) hz1 (by omega) (Nat.zero_le _)) g927 g14 g924 g926 (gt_sel 25 (by decide +kernel) (by decide +kernel)) d_M_catchRow_63 rfl ey_M_takeRow rfl rfl rfl rfl ⟨Nat.zero_le _, Nat.zero_le _⟩ ?_
    exact e_vret C E d_M_catchRow_66 (Nat.le_refl _) (Nat.le_refl _) ⟨rfl, rfl⟩
/-- can be placed -/
def cpB (S wd : Nat) (m : CS) (x : Int32) : Bool := (fst1 (fun k => m.2 7 k == 0 || m.2 11 k == 0) (8 * sN S x) wd).isSome
def anB (P : Nat → Bool) : Bool → Nat → Nat → Bool
  | b, _, 0 => b
  | b, k, q + 1 => anB P (b || P k) (k + 1) q
theorem anB_t (P : Nat → Bool) : ∀ k q, anB P true k q = true
  | _, 0 => rfl
  | k, q + 1 => by rw [anB, Bool.true_or]; exact anB_t P (k + 1) q
theorem anB_f (P : Nat → Bool) : ∀ k q, anB P false k q = (fst1 P k q).isSome
  | _, 0 => rfl
  | k, q + 1 => by
    rw [anB, fst1, Bool.false_or]
    by_cases h : P k = true
    · rw [if_pos h, h]
      exact anB_t P _ _
    · have h : P k = false := by simpa using h
      rw [if_neg (by rw [h]; decide), h]
      exact anB_f P (k + 1) q
set_option maxRecDepth 100000 in
theorem k_M_canPlace (h : MD m.1 S wd V kd) (x : Int32) : Con l G y_M_canPlace c_M_canPlace 5 (some .boolean) (rz 1 21) [.ref (a 40), .int x] (mF G a m.1 m.2) (DI (bI (cpB S wd m x)) (mF G a m.1 m.2)) := by
  refine Con.of rfl rfl (fun X C E hR hl hnm => ?_)
  have hS := h.S16
  have hw8 := h.w8
  have hs := h.lt x
  unfold cpB at E
  refine e_iconst C d_M_canPlace_0 (v := 0) (by decide) ?_
  refine e_istore_n C d_M_canPlace_1 rfl ?_
  refine e_bipush C d_M_canPlace_2 (v := nI 8) (by decide) ?_
  refine e_aload_n C d_M_canPlace_4 rfl ?_
  refine e_iload_n C d_M_canPlace_5 rfl ?_
  refine e_cVi C hR 0 (k_M_setOf h x) g883 g14 g880 g882 (gt_sel 14 (by decide +kernel) (by decide +kernel)) d_M_canPlace_6 rfl ey_M_setOf rfl rfl rfl rfl ⟨Nat.zero_le _, Nat.zero_le _⟩ ?_
  refine e_imul C d_M_canPlace_9 ?_
  refine e_top (pk_mul _ _) ?_
  refine e_istore_n C d_M_canPlace_10 rfl ?_
  refine e_iload_n C d_M_canPlace_11 rfl ?_
  refine e_istore C d_M_canPlace_12 rfl ?_
  have hb0 : 8 * sN S x + 8 ≤ 128 := by omega
  generalize 8 * sN S x = b0 at E hb0 ⊢
  rw [← anB_f] at E
  have L : ∀ (q k : Nat) (b : Bool), k + q = b0 + wd → anB (fun k => m.2 7 k == 0 || m.2 11 k == 0) b k q = anB (fun k => m.2 7 k == 0 || m.2 11 k == 0) false b0 wd → EW X G 5 0 0 14 [(0, .ref (a 40)), (1, .int x), (2, .int (bI b)), (3, .int (nI b0)), (4, .int (nI k))] [] (mF G a m.1 m.2) := by
    intro q
    induction q with
    | zero =>
      intro k b hk hf
      have hf : b = _ := hf
      rw [← hf] at E
      refine e_iload C d_M_canPlace_14 rfl ?_
      refine e_iload_n C d_M_canPlace_16 rfl ?_
      refine e_aload_n C d_M_canPlace_17 rfl ?_
      refine e_get C 0 (k := 2) in_M g746 d_M_canPlace_18 rfl rfl rfl rfl ?_
      refine e_top h.2.1 ?_
      refine e_iadd C d_M_canPlace_21 ?_
      refine e_top (nI_add _ _) ?_
      refine e_icmp_ge C d_M_canPlace_22 (tgt := 61) (by decide) (fun h22 => ?_) (fun h22 => ?_)
      · refine e_lv2 (lv' := [(0, .ref (a 40)), (2, .int (bI b))]) ?_ rfl
        cases b with
        | true =>
          refine e_iload_n C d_M_canPlace_61 rfl ?_
          exact e_iret C E d_M_canPlace_62 (Nat.le_refl _) (Nat.le_refl _) rfl ⟨rfl, rfl⟩
        | false =>
          refine e_iload_n C d_M_canPlace_61 rfl ?_
          exact e_iret C E d_M_canPlace_62 (Nat.le_refl _) (Nat.le_refl _) rfl ⟨rfl, rfl⟩
      · exact absurd (nI_le (by omega) (by omega)) h22
    | succ q ih =>
      intro k b hk hf
      rw [anB] at hf
      refine e_iload C d_M_canPlace_14 rfl ?_
      refine e_iload_n C d_M_canPlace_16 rfl ?_
      refine e_aload_n C d_M_canPlace_17 rfl ?_
      refine e_get C 0 (k := 2) in_M g746 d_M_canPlace_18 rfl rfl rfl rfl ?_
      refine e_top h.2.1 ?_
      refine e_iadd C d_M_canPlace_21 ?_
      refine e_top (nI_add _ _) ?_
      refine e_icmp_ge C d_M_canPlace_22 (tgt := 61) (by decide) (fun h22 => ?_) (fun h22 => ?_)
      · exact absurd h22 (nI_ge (by omega) (by omega))
      · skip
        refine e_iload_n C d_M_canPlace_25 rfl ?_
        refine e_if_ne C d_M_canPlace_26 (tgt := 49) (by decide) (fun h26 => ?_) (fun h26 => ?_)
        · rw [bI_n] at h26
          subst h26
          rw [Bool.true_or] at hf
          refine e_iconst C d_M_canPlace_49 (v := 1) (by decide) ?_
          refine e_goto C d_M_canPlace_50 (tgt := 54) (by decide) ?_
          refine e_istore_n C d_M_canPlace_54 rfl ?_
          refine e_iinc C d_M_canPlace_55 rfl (nI_1 k) rfl ?_
          refine e_goto C d_M_canPlace_58 (tgt := 14) (by decide) ?_
          exact e_lv2 (ih (k + 1) true (by omega) hf) rfl
        · rw [bI_0] at h26
          subst h26
          rw [Bool.false_or] at hf
          refine e_aload_n C d_M_canPlace_29 rfl ?_
          refine e_get C 0 (k := 7) in_M g751 d_M_canPlace_30 rfl rfl rfl rfl ?_
          refine e_iload C d_M_canPlace_33 rfl ?_
          refine e_zald C 1 1 d_M_canPlace_35 rfl rfl k rfl (by omega) (by omega) ?_
          refine e_if_eq C d_M_canPlace_36 (tgt := 49) (by decide) (fun h36 => ?_) (fun h36 => ?_)
          · rw [show (m.2 7 k == 0) = true by simp; exact h36, Bool.true_or] at hf
            refine e_iconst C d_M_canPlace_49 (v := 1) (by decide) ?_
            refine e_goto C d_M_canPlace_50 (tgt := 54) (by decide) ?_
            refine e_istore_n C d_M_canPlace_54 rfl ?_
            refine e_iinc C d_M_canPlace_55 rfl (nI_1 k) rfl ?_
            refine e_goto C d_M_canPlace_58 (tgt := 14) (by decide) ?_
            exact e_lv2 (ih (k + 1) true (by omega) hf) rfl
          · rw [show (m.2 7 k == 0) = false by simp; exact h36, Bool.false_or] at hf
            refine e_aload_n C d_M_canPlace_39 rfl ?_
            refine e_get C 0 (k := 11) in_M g755 d_M_canPlace_40 rfl rfl rfl rfl ?_
            refine e_iload C d_M_canPlace_43 rfl ?_
            refine e_zald C 5 1 d_M_canPlace_45 rfl rfl k rfl (by omega) (by omega) ?_
            refine e_if_ne C d_M_canPlace_46 (tgt := 53) (by decide) (fun h46 => ?_) (fun h46 => ?_)
            · rw [show (m.2 11 k == 0) = false by simp; exact h46] at hf
              refine e_iconst C d_M_canPlace_53 (v := 0) (by decide) ?_
              refine e_istore_n C d_M_canPlace_54 rfl ?_
              refine e_iinc C d_M_canPlace_55 rfl (nI_1 k) rfl ?_
              refine e_goto C d_M_canPlace_58 (tgt := 14) (by decide) ?_
              exact e_lv2 (ih (k + 1) false (by omega) hf) rfl
            · rw [show (m.2 11 k == 0) = true by simp; exact h46] at hf
              refine e_iconst C d_M_canPlace_49 (v := 1) (by decide) ?_
              refine e_goto C d_M_canPlace_50 (tgt := 54) (by decide) ?_
              refine e_istore_n C d_M_canPlace_54 rfl ?_
              refine e_iinc C d_M_canPlace_55 rfl (nI_1 k) rfl ?_
              refine e_goto C d_M_canPlace_58 (tgt := 14) (by decide) ?_
              exact e_lv2 (ih (k + 1) true (by omega) hf) rfl
  exact e_lv2 (L wd b0 false rfl rfl) rfl
def puM (f : Nat → Nat → Int32) (j : Nat) (x t ch : Int32) : Nat → Nat → Int32 := up2 (up2 (up2 (up2 f 7 (upd (f 7) j 1)) 8 (upd (f 8) j x)) 9 (upd (f 9) j t)) 10 (upd (f 10) j ch)
/-- the reference's placing: into slot r -/
def pl2 (wd kd : Nat) (m : CS) (s r : Nat) (x t ch : Int32) : CS := tcS wd kd (m.1, puM m.2 r x t ch) s (r - 8 * s)
def c8S (m : CS) : CS := (m.1, up2 m.2 34 (upd (m.2 34) 8 (m.2 34 8 + 1)))
def pl1 (V : Nat) (m : CS) (r : Nat) : CS := crS V (c8S m) (m.2 8 r) (m.2 9 r) (m.2 10 r)
set_option maxRecDepth 100000 in
theorem pl_tail {X : EX} (C : EC X G "CacheRulesModel" c_M_place 6) (hR : X.R = rz 3 67) (h : MD m.1 S wd V kd) (hs : s < 16) (hw : w < wd) (x t ch : Int32) (E : ER X G 0 0 (DI (nI (8 * s + w)) (mF G a (pl2 wd kd m s (8 * s + w) x t ch).1 (pl2 wd kd m s (8 * s + w) x t ch).2)) (some .int)) :
    EW X G 6 0 0 99 [(0, .ref (a 40)), (1, .int x), (2, .int t), (3, .int ch), (5, .int (nI (8 * s + w)))] [] (mF G a m.1 m.2) := by
  have hw8 := h.w8
  unfold pl2 at E
  rw [show 8 * s + w - 8 * s = w by omega] at E
  refine e_aload_n C d_M_place_99 rfl ?_
  refine e_get C 0 (k := 7) in_M g751 d_M_place_100 rfl rfl rfl rfl ?_
  refine e_iload C d_M_place_103 rfl ?_
  refine e_iconst C d_M_place_105 (v := 1) (by decide) ?_
  refine e_zast C 1 1 d_M_place_106 rfl rfl (8 * s + w) rfl (by omega) (by omega) rfl ?_
  refine e_aload_n C d_M_place_107 rfl ?_
  refine e_get C 0 (k := 8) in_M g752 d_M_place_108 rfl rfl rfl rfl ?_
  refine e_iload C d_M_place_111 rfl ?_
  refine e_iload_n C d_M_place_113 rfl ?_
  refine e_iast C 2 0 d_M_place_114 rfl rfl (8 * s + w) rfl (by omega) (by omega) ?_
  refine e_aload_n C d_M_place_115 rfl ?_
  refine e_get C 0 (k := 9) in_M g753 d_M_place_116 rfl rfl rfl rfl ?_
  refine e_iload C d_M_place_119 rfl ?_
  refine e_iload_n C d_M_place_121 rfl ?_
  refine e_iast C 3 0 d_M_place_122 rfl rfl (8 * s + w) rfl (by omega) (by omega) ?_
  refine e_aload_n C d_M_place_123 rfl ?_
  refine e_get C 0 (k := 10) in_M g754 d_M_place_124 rfl rfl rfl rfl ?_
  refine e_iload C d_M_place_127 rfl ?_
  refine e_iload_n C d_M_place_129 rfl ?_
  refine e_iast C 4 0 d_M_place_130 rfl rfl (8 * s + w) rfl (by omega) (by omega) ?_
  refine e_eq (ws' := mF G a m.1 (puM m.2 (8 * s + w) x t ch)) rfl ?_
  refine e_aload_n C d_M_place_131 rfl ?_
  refine e_iload C d_M_place_132 rfl ?_
  refine e_cVv C hR 0 (k_M_tellComing (m := (m.1, puM m.2 (8 * s + w) x t ch)) h hs hw) g981 g14 g978 g980 (gt_sel 37 (by decide +kernel) (by decide +kernel)) d_M_place_134 rfl ey_M_tellComing rfl rfl rfl rfl ⟨Nat.zero_le _, Nat.zero_le _⟩ ?_
  refine e_iload C d_M_place_137 rfl ?_
  exact e_iret C E d_M_place_139 (Nat.le_refl _) (Nat.le_refl _) rfl ⟨rfl, rfl⟩
/-- the reference's placing -/
def plM (S wd V kd : Nat) (m : CS) (x t ch : Int32) : Option (CS × Nat) := match fst1 (fun k => m.2 7 k == 0) (8 * sN S x) wd with
  | some r => some (pl2 wd kd m (sN S x) r x t ch, r)
  | none => (pkS wd kd m (sN S x) true).map (fun q => (pl2 wd kd (pl1 V q.1 q.2) (sN S x) q.2 x t ch, q.2))
set_option maxRecDepth 100000 in
theorem k_M_place (h : MD m.1 S wd V kd) (hM : MR wd kd m) (hz : m.1 21 = nI z) (hzV : z ≤ V) (h10 : ∀ j, NB (m.2 10 j)) (h24 : ∀ j, NB (m.2 24 j)) (x t ch : Int32) {m' : CS} {r : Nat} (hp : plM S wd V kd m x t ch = some (m', r))
    (hkp : ∀ (m1 : CS) (q : Nat), pkS wd kd m (sN S x) true = some (m1, q) → (∀ k, k ≠ 20 → m1.1 k = m.1 k) ∧ m1.2 10 = m.2 10 ∧ m1.2 24 = m.2 24) : Con l G y_M_place c_M_place 6 (some .int) (rz 3 67) [.ref (a 40), .int x, .int t, .int ch] (mF G a m.1 m.2) (DI (nI r) (mF G a m'.1 m'.2)) := by
  refine Con.of rfl rfl (fun X C E hR hl hnm => ?_)
  have hS := h.S16
  have hw8 := h.w8
  have hs := h.lt x
  have hk10 := h.2.2.2.2.2.2.2
  unfold plM at hp
  refine e_bipush C d_M_place_0 (v := nI 8) (by decide) ?_
  refine e_aload_n C d_M_place_2 rfl ?_
  refine e_iload_n C d_M_place_3 rfl ?_
  refine e_cVi C hR 0 (k_M_setOf h x) g883 g14 g880 g882 (gt_sel 14 (by decide +kernel) (by decide +kernel)) d_M_place_4 rfl ey_M_setOf rfl rfl rfl rfl ⟨Nat.zero_le _, Nat.zero_le _⟩ ?_
  refine e_imul C d_M_place_7 ?_
  refine e_top (pk_mul _ _) ?_
  refine e_istore C d_M_place_8 rfl ?_
  refine e_iload C d_M_place_10 rfl ?_
  refine e_istore C d_M_place_12 rfl ?_
  generalize hsx : sN S x = s at hs hp hkp ⊢
  have fullc : fst1 (fun k => m.2 7 k == 0) (8 * s) wd = none → EW X G 6 0 0 42 [(0, .ref (a 40)), (1, .int x), (2, .int t), (3, .int ch), (4, .int (nI (8 * s))), (5, .int (nI (8 * s + wd)))] [] (mF G a m.1 m.2) := by
    intro hn
    rw [hn] at hp
    obtain ⟨⟨m1, q⟩, hq, e⟩ := Option.map_eq_some_iff.mp hp
    cases e
    obtain ⟨kv, k10, k24⟩ := hkp m1 q hq
    have hrg := pkS_rng hw8.1 hk10 hM (show s < 16 by omega) hq
    obtain ⟨w, rfl⟩ : ∃ w, q = 8 * s + w := ⟨q - 8 * s, by omega⟩
    have h1 : MD m1.1 S wd V kd := h.of (kv 1 (by omega)) (kv 2 (by omega)) (kv 3 (by omega)) (kv 4 (by omega))
    have hz1 : (c8S m1).1 21 = nI z := (kv 21 (by omega)).trans hz
    have h2 : MD (pl1 V m1 (8 * s + w)).1 S wd V kd := by
      unfold pl1 crS
      split
      · exact h1.of rfl rfl rfl rfl
      · exact h1.of rfl rfl rfl rfl
    refine e_iload C d_M_place_42 rfl ?_
    refine e_iload C d_M_place_44 rfl ?_
    refine e_aload_n C d_M_place_46 rfl ?_
    refine e_get C 0 (k := 2) in_M g746 d_M_place_47 rfl rfl rfl rfl ?_
    refine e_top h.2.1 ?_
    refine e_iadd C d_M_place_50 ?_
    refine e_top (nI_add _ _) ?_
    refine e_icmp_ne C d_M_place_51 (tgt := 99) (by decide) (fun h51 => ?_) (fun h51 => ?_)
    · exact absurd rfl h51
    · skip
      refine e_aload_n C d_M_place_54 rfl ?_
      refine e_iload C d_M_place_55 rfl ?_
      refine e_iconst C d_M_place_57 (v := bI true) (by decide) ?_
      refine e_cVi C hR 0 (k_M_pick h hM (show s < 16 by omega) true hq) g935 g14 g932 g934 (gt_sel 27 (by decide +kernel) (by decide +kernel)) d_M_place_58 rfl ey_M_pick rfl rfl rfl rfl ⟨Nat.zero_le _, Nat.zero_le _⟩ ?_
      refine e_istore C d_M_place_61 rfl ?_
      refine e_aload_n C d_M_place_63 rfl ?_
      refine e_get C 0 (k := 34) in_M g778 d_M_place_64 rfl rfl rfl rfl ?_
      refine e_bipush C d_M_place_67 (v := 8) (by decide) ?_
      refine e_dup2 C d_M_place_69 rfl rfl ?_
      refine e_iald C 22 0 d_M_place_70 rfl rfl 8 rfl (by omega) (by omega) ?_
      refine e_iconst C d_M_place_71 (v := 1) (by decide) ?_
      refine e_iadd C d_M_place_72 ?_
      refine e_iast C 22 0 d_M_place_73 rfl rfl 8 rfl (by omega) (by omega) ?_
      refine e_eq (ws' := mF G a (c8S m1).1 (c8S m1).2) rfl ?_
      refine e_aload_n C d_M_place_74 rfl ?_
      refine e_aload_n C d_M_place_75 rfl ?_
      refine e_get C 0 (k := 8) in_M g752 d_M_place_76 rfl rfl rfl rfl ?_
      refine e_iload C d_M_place_79 rfl ?_
      refine e_iald C 2 0 d_M_place_81 rfl rfl (8 * s + w) rfl (by omega) (by omega) ?_
      refine e_aload_n C d_M_place_82 rfl ?_
      refine e_get C 0 (k := 9) in_M g753 d_M_place_83 rfl rfl rfl rfl ?_
      refine e_iload C d_M_place_86 rfl ?_
      refine e_iald C 3 0 d_M_place_88 rfl rfl (8 * s + w) rfl (by omega) (by omega) ?_
      refine e_aload_n C d_M_place_89 rfl ?_
      refine e_get C 0 (k := 10) in_M g754 d_M_place_90 rfl rfl rfl rfl ?_
      refine e_iload C d_M_place_93 rfl ?_
      refine e_iald C 4 0 d_M_place_95 rfl rfl (8 * s + w) rfl (by omega) (by omega) ?_
      refine e_cVv C hR 0 (k_M_catchRow (m := c8S m1) (S := S) (wd := wd) (kd := kd) h1 hz1 hzV (by show NB (m1.2 24 0); rw [k24]; exact h24 0) _ _ (by show NB (m1.2 10 _); rw [k10]; exact h10 _)) g970 g14 g967 g969 (gt_sel 35 (by decide +kernel) (by decide +kernel)) d_M_place_96 rfl ey_M_catchRow rfl rfl rfl rfl ⟨Nat.zero_le _, Nat.zero_le _⟩ ?_
      refine e_eq (ws' := mF G a (pl1 V m1 (8 * s + w)).1 (pl1 V m1 (8 * s + w)).2) rfl ?_
      exact e_lv2 (pl_tail C hR h2 (show s < 16 by omega) (show w < wd by omega) x t ch E) rfl
  have L : ∀ (q k : Nat), k + q = 8 * s + wd → 8 * s ≤ k → fst1 (fun k => m.2 7 k == 0) k q = fst1 (fun k => m.2 7 k == 0) (8 * s) wd → EW X G 6 0 0 14 [(0, .ref (a 40)), (1, .int x), (2, .int t), (3, .int ch), (4, .int (nI (8 * s))), (5, .int (nI k))] [] (mF G a m.1 m.2) := by
    intro q
    induction q with
    | zero =>
      intro k hk hk2 hf
      obtain rfl : k = 8 * s + wd := by omega
      refine e_iload C d_M_place_14 rfl ?_
      refine e_iload C d_M_place_16 rfl ?_
      refine e_aload_n C d_M_place_18 rfl ?_
      refine e_get C 0 (k := 2) in_M g746 d_M_place_19 rfl rfl rfl rfl ?_
      refine e_top h.2.1 ?_
      refine e_iadd C d_M_place_22 ?_
      refine e_top (nI_add _ _) ?_
      refine e_icmp_ge C d_M_place_23 (tgt := 42) (by decide) (fun h23 => ?_) (fun h23 => ?_)
      · exact e_lv2 (fullc hf.symm) rfl
      · exact absurd (nI_le (Nat.le_refl _) (by omega)) h23
    | succ q ih =>
      intro k hk hk2 hf
      rw [fst1] at hf
      refine e_iload C d_M_place_14 rfl ?_
      refine e_iload C d_M_place_16 rfl ?_
      refine e_aload_n C d_M_place_18 rfl ?_
      refine e_get C 0 (k := 2) in_M g746 d_M_place_19 rfl rfl rfl rfl ?_
      refine e_top h.2.1 ?_
      refine e_iadd C d_M_place_22 ?_
      refine e_top (nI_add _ _) ?_
      refine e_icmp_ge C d_M_place_23 (tgt := 42) (by decide) (fun h23 => ?_) (fun h23 => ?_)
      · exact absurd h23 (nI_ge (by omega) (by omega))
      · skip
        refine e_aload_n C d_M_place_26 rfl ?_
        refine e_get C 0 (k := 7) in_M g751 d_M_place_27 rfl rfl rfl rfl ?_
        refine e_iload C d_M_place_30 rfl ?_
        refine e_zald C 1 1 d_M_place_32 rfl rfl k rfl (by omega) (by omega) ?_
        refine e_if_eq C d_M_place_33 (tgt := 42) (by decide) (fun h33 => ?_) (fun h33 => ?_)
        · rw [if_pos (by simp; exact h33)] at hf
          rw [← hf] at hp
          obtain ⟨w, rfl⟩ : ∃ w, k = 8 * s + w := ⟨k - 8 * s, by omega⟩
          cases hp
          refine e_iload C d_M_place_42 rfl ?_
          refine e_iload C d_M_place_44 rfl ?_
          refine e_aload_n C d_M_place_46 rfl ?_
          refine e_get C 0 (k := 2) in_M g746 d_M_place_47 rfl rfl rfl rfl ?_
          refine e_top h.2.1 ?_
          refine e_iadd C d_M_place_50 ?_
          refine e_top (nI_add _ _) ?_
          refine e_icmp_ne C d_M_place_51 (tgt := 99) (by decide) (fun h51 => ?_) (fun h51 => ?_)
          · exact e_lv2 (pl_tail C hR h (show s < 16 by omega) (show w < wd by omega) x t ch E) rfl
          · rw [nI_eq (by omega) (by omega)] at h51
            omega
        · rw [if_neg (by simp; exact h33)] at hf
          refine e_iinc C d_M_place_36 rfl (nI_1 k) rfl ?_
          refine e_goto C d_M_place_39 (tgt := 14) (by decide) ?_
          exact e_lv2 (ih (k + 1) (by omega) (by omega) hf) rfl
  exact e_lv2 (L wd (8 * s) rfl (Nat.le_refl _) rfl) rfl
/-- where the line lies -/
def dsM (f : Nat → Nat → Int32) (hs : Nat) (x : Int32) : Option Nat := lstG (fun k => f 32 k == x) none 0 hs
theorem lstG_lt {P : Nat → Bool} {N : Nat} : ∀ {q k : Nat} {b : Option Nat} {w : Nat}, k + q ≤ N → (∀ j, b = some j → j < N) → lstG P b k q = some w → w < N
  | 0, _, b, w, _, hb, h => hb w h
  | q + 1, k, b, w, hk, hb, h => by
    unfold lstG at h
    refine lstG_lt (by omega) ?_ h
    intro j hj
    split at hj
    · cases hj; omega
    · exact hb j hj
set_option maxRecDepth 100000 in
theorem k_M_distanceOf {hs : Nat} (hh : m.1 31 = nI hs) (hs64 : hs ≤ 64) (x : Int32) : Con l G y_M_distanceOf c_M_distanceOf 4 (some .int) (rz 0 0) [.ref (a 40), .int x] (mF G a m.1 m.2) (DI (oI (dsM m.2 hs x)) (mF G a m.1 m.2)) := by
  refine Con.of rfl rfl (fun X C E hR hl hnm => ?_)
  unfold dsM at E
  refine e_iconst C d_M_distanceOf_0 (v := (-1)) (by decide) ?_
  refine e_istore_n C d_M_distanceOf_1 rfl ?_
  refine e_iconst C d_M_distanceOf_2 (v := 0) (by decide) ?_
  refine e_istore_n C d_M_distanceOf_3 rfl ?_
  have L : ∀ (q k : Nat) (b : Option Nat), k + q = hs → lstG (fun k => m.2 32 k == x) b k q = lstG (fun k => m.2 32 k == x) none 0 hs → EW X G 4 0 0 4 [(0, .ref (a 40)), (1, .int x), (2, .int (oI b)), (3, .int (nI k))] [] (mF G a m.1 m.2) := by
    intro q
    induction q with
    | zero =>
      intro k b hk hf
      have hf : b = _ := hf
      refine e_iload_n C d_M_distanceOf_4 rfl ?_
      refine e_aload_n C d_M_distanceOf_5 rfl ?_
      refine e_get C 0 (k := 31) in_M g775 d_M_distanceOf_6 rfl rfl rfl rfl ?_
      refine e_top hh ?_
      refine e_icmp_ge C d_M_distanceOf_9 (tgt := 34) (by decide) (fun h9 => ?_) (fun h9 => ?_)
      · skip
        refine e_iload_n C d_M_distanceOf_34 rfl ?_
        exact e_iret C E d_M_distanceOf_35 (Nat.le_refl _) (Nat.le_refl _) rfl ⟨by rw [← hf], rfl⟩
      · exact absurd (nI_le (by omega) (by omega)) h9
    | succ q ih =>
      intro k b hk hf
      refine e_iload_n C d_M_distanceOf_4 rfl ?_
      refine e_aload_n C d_M_distanceOf_5 rfl ?_
      refine e_get C 0 (k := 31) in_M g775 d_M_distanceOf_6 rfl rfl rfl rfl ?_
      refine e_top hh ?_
      refine e_icmp_ge C d_M_distanceOf_9 (tgt := 34) (by decide) (fun h9 => ?_) (fun h9 => ?_)
      · exact absurd h9 (nI_ge (by omega) (by omega))
      · skip
        refine e_aload_n C d_M_distanceOf_12 rfl ?_
        refine e_get C 0 (k := 32) in_M g776 d_M_distanceOf_13 rfl rfl rfl rfl ?_
        refine e_iload_n C d_M_distanceOf_16 rfl ?_
        refine e_iald C 20 0 d_M_distanceOf_17 rfl rfl k rfl (by omega) (by omega) ?_
        refine e_iload_n C d_M_distanceOf_18 rfl ?_
        refine e_icmp_ne C d_M_distanceOf_19 (tgt := 26) (by decide) (fun h19 => ?_) (fun h19 => ?_)
        · have h19 : ¬ m.2 32 k = x := h19
          refine e_iload_n C d_M_distanceOf_26 rfl ?_
          refine e_istore_n C d_M_distanceOf_27 rfl ?_
          refine e_iinc C d_M_distanceOf_28 rfl (nI_1 k) rfl ?_
          refine e_goto C d_M_distanceOf_31 (tgt := 4) (by decide) ?_
          exact e_lv2 (ih (k + 1) b (by omega) (by rw [← hf]; simp [lstG, h19])) rfl
        · have h19 : m.2 32 k = x := h19
          refine e_iload_n C d_M_distanceOf_22 rfl ?_
          refine e_goto C d_M_distanceOf_23 (tgt := 27) (by decide) ?_
          refine e_istore_n C d_M_distanceOf_27 rfl ?_
          refine e_iinc C d_M_distanceOf_28 rfl (nI_1 k) rfl ?_
          refine e_goto C d_M_distanceOf_31 (tgt := 4) (by decide) ?_
          exact e_lv2 (ih (k + 1) (some k) (by omega) (by rw [← hf]; simp [lstG, h19])) rfl
  exact e_lv2 (L hs 0 none (by omega) rfl) rfl
def nhM (m : CS) : Nat := (m.1 31).toNatClampNeg
/-- a line is put near -/
def pnS (m : CS) (x : Int32) : CS := match dsM m.2 (nhM m) x with
  | some k => (m.1, up2 (up2 m.2 33 (upd (m.2 33) k (m.2 33 k + 1))) 32 (upd (shu (m.2 32) 0 k) 0 x))
  | none => (if nhM m < 64 then upd m.1 31 (nI (nhM m + 1)) else m.1, up2 (up2 m.2 33 (upd (m.2 33) 64 (m.2 33 64 + 1))) 32 (upd (shu (m.2 32) 0 (nhM m)) 0 x))
set_option maxRecDepth 100000 in
theorem near_loop {X : EX} {B : Option Value → va_W → Prop} (C : EC X G "CacheRulesModel" c_M_putNear 4) (E : ER X G 0 0 B none) (x : Int32) (k0 : Nat) (hk0 : k0 ≤ 64) (hB : B none (mF G a m.1 (up2 m.2 32 (upd (shu (m.2 32) 0 k0) 0 x)))) :
    ∀ k : Nat, k ≤ k0 → EW X G 4 0 0 55 [(0, .ref (a 40)), (1, .int x), (3, .int (nI k))] [] (mF G a m.1 (up2 m.2 32 (shu (m.2 32) k k0))) := by
  intro k
  induction k with
  | zero =>
    intro hk
    refine e_iload_n C d_M_putNear_55 rfl ?_
    refine e_if_le C d_M_putNear_56 (tgt := 79) (by decide) (fun h56 => ?_) (fun h56 => ?_)
    · skip
      refine e_aload_n C d_M_putNear_79 rfl ?_
      refine e_get C 0 (k := 32) in_M g776 d_M_putNear_80 rfl rfl rfl rfl ?_
      refine e_iconst C d_M_putNear_83 (v := 0) (by decide) ?_
      refine e_iload_n C d_M_putNear_84 rfl ?_
      refine e_iast C 20 0 d_M_putNear_85 rfl rfl 0 rfl (by omega) (by omega) ?_
      exact e_vret C E d_M_putNear_86 (Nat.le_refl _) (Nat.le_refl _) hB
    · exact absurd (by decide) h56
  | succ k ih =>
    intro hk
    refine e_iload_n C d_M_putNear_55 rfl ?_
    refine e_if_le C d_M_putNear_56 (tgt := 79) (by decide) (fun h56 => ?_) (fun h56 => ?_)
    · exact absurd h56 (nI_nle (by omega) (by omega))
    · skip
      refine e_aload_n C d_M_putNear_59 rfl ?_
      refine e_get C 0 (k := 32) in_M g776 d_M_putNear_60 rfl rfl rfl rfl ?_
      refine e_iload_n C d_M_putNear_63 rfl ?_
      refine e_aload_n C d_M_putNear_64 rfl ?_
      refine e_get C 0 (k := 32) in_M g776 d_M_putNear_65 rfl rfl rfl rfl ?_
      refine e_iload_n C d_M_putNear_68 rfl ?_
      refine e_iconst C d_M_putNear_69 (v := 1) (by decide) ?_
      refine e_isub C d_M_putNear_70 ?_
      refine e_iald C 20 0 d_M_putNear_71 rfl rfl k (nI_pred k) (by omega) (by omega) ?_
      refine e_iast C 20 0 d_M_putNear_72 rfl rfl (k + 1) rfl (by omega) (by omega) ?_
      refine e_eq (ws' := mF G a m.1 (up2 m.2 32 (shu (m.2 32) k k0))) (by simp only [shu_s hk]; rfl) ?_
      refine e_iinc C d_M_putNear_73 rfl (pk_m1 k) rfl ?_
      refine e_goto C d_M_putNear_76 (tgt := 55) (by decide) ?_
      exact e_lv2 (ih (by omega)) rfl
set_option maxRecDepth 100000 in
theorem k_M_putNear {hs : Nat} (hh : m.1 31 = nI hs) (hs64 : hs ≤ 64) (x : Int32) : Con l G y_M_putNear c_M_putNear 4 none (rz 1 23) [.ref (a 40), .int x] (mF G a m.1 m.2) (DV (mF G a (pnS m x).1 (pnS m x).2)) := by
  refine Con.of rfl rfl (fun X C E hR hl hnm => ?_)
  have hhe : nhM m = hs := by unfold nhM; rw [hh]; exact nI_clamp (by omega)
  have hb : ∀ k, dsM m.2 hs x = some k → k < 2 ^ 31 := fun k hk => by have := lstG_lt (N := hs) (by omega) (fun j hj => by cases hj) hk; omega
  unfold pnS at E
  rw [hhe] at E
  refine e_aload_n C d_M_putNear_0 rfl ?_
  refine e_iload_n C d_M_putNear_1 rfl ?_
  refine e_cVi C hR 0 (k_M_distanceOf hh hs64 x) g891 g14 g888 g890 (gt_sel 16 (by decide +kernel) (by decide +kernel)) d_M_putNear_2 rfl ey_M_distanceOf rfl rfl rfl rfl ⟨Nat.zero_le _, Nat.zero_le _⟩ ?_
  refine e_istore_n C d_M_putNear_5 rfl ?_
  refine e_aload_n C d_M_putNear_6 rfl ?_
  refine e_get C 0 (k := 33) in_M g777 d_M_putNear_7 rfl rfl rfl rfl ?_
  refine e_iload_n C d_M_putNear_10 rfl ?_
  refine e_if_ge C d_M_putNear_11 (tgt := 19) (by decide) (fun h11 => ?_) (fun h11 => ?_)
  · have hsome : ¬ dsM m.2 hs x = none := by
      rw [← oI_lt hb]
      exact fun q => absurd h11 (Int32.not_le.mpr q)
    obtain ⟨k, hk⟩ := Option.ne_none_iff_exists'.mp hsome
    have hk2 := lstG_lt (N := hs) (by omega) (fun j hj => by cases hj) hk
    rw [hk] at E ⊢
    dsimp only at E
    refine e_iload_n C d_M_putNear_19 rfl ?_
    refine e_dup2 C d_M_putNear_20 rfl rfl ?_
    refine e_iald C 21 0 d_M_putNear_21 rfl rfl k rfl (by omega) (by omega) ?_
    refine e_iconst C d_M_putNear_22 (v := 1) (by decide) ?_
    refine e_iadd C d_M_putNear_23 ?_
    refine e_iast C 21 0 d_M_putNear_24 rfl rfl k rfl (by omega) (by omega) ?_
    refine e_iload_n C d_M_putNear_25 rfl ?_
    refine e_if_ge C d_M_putNear_26 (tgt := 53) (by decide) (fun h26 => ?_) (fun h26 => ?_)
    · skip
      refine e_iload_n C d_M_putNear_53 rfl ?_
      refine e_istore_n C d_M_putNear_54 rfl ?_
      refine e_eq (ws' := mF G a m.1 (up2 (up2 m.2 33 (upd (m.2 33) k (m.2 33 k + 1))) 32 (shu (m.2 32) k k))) (by rw [shu_0]; rfl) ?_
      exact e_lv2 (near_loop (m := (m.1, up2 m.2 33 (upd (m.2 33) k (m.2 33 k + 1)))) C E x k (by omega) ⟨rfl, rfl⟩ k (Nat.le_refl _)) rfl
    · exact absurd (nI_pos' (show k < 2 ^ 31 by omega)) h26
  · have hnone : dsM m.2 hs x = none := by
      rw [← oI_lt hb]
      exact Int32.not_le.mp h11
    rw [hnone] at E ⊢
    dsimp only at E
    refine e_bipush C d_M_putNear_14 (v := nI 64) (by decide) ?_
    refine e_goto C d_M_putNear_16 (tgt := 20) (by decide) ?_
    refine e_dup2 C d_M_putNear_20 rfl rfl ?_
    refine e_iald C 21 0 d_M_putNear_21 rfl rfl 64 rfl (by omega) (by omega) ?_
    refine e_iconst C d_M_putNear_22 (v := 1) (by decide) ?_
    refine e_iadd C d_M_putNear_23 ?_
    refine e_iast C 21 0 d_M_putNear_24 rfl rfl 64 rfl (by omega) (by omega) ?_
    refine e_iload_n C d_M_putNear_25 rfl ?_
    refine e_if_ge C d_M_putNear_26 (tgt := 53) (by decide) (fun h26 => ?_) (fun h26 => ?_)
    · exact absurd h26 (by decide)
    · skip
      refine e_aload_n C d_M_putNear_29 rfl ?_
      refine e_get C 0 (k := 31) in_M g775 d_M_putNear_30 rfl rfl rfl rfl ?_
      refine e_top (show _ = nI hs from hh) ?_
      refine e_istore_n C d_M_putNear_33 rfl ?_
      refine e_aload_n C d_M_putNear_34 rfl ?_
      refine e_get C 0 (k := 31) in_M g775 d_M_putNear_35 rfl rfl rfl rfl ?_
      refine e_top (show _ = nI hs from hh) ?_
      refine e_bipush C d_M_putNear_38 (v := nI 64) (by decide) ?_
      refine e_icmp_ge C d_M_putNear_40 (tgt := 53) (by decide) (fun h40 => ?_) (fun h40 => ?_)
      · rw [nI_leI (by omega) (by omega)] at h40
        rw [if_neg (show ¬ hs < 64 by omega)] at E
        refine e_iload_n C d_M_putNear_53 rfl ?_
        refine e_istore_n C d_M_putNear_54 rfl ?_
        refine e_eq (ws' := mF G a m.1 (up2 (up2 m.2 33 (upd (m.2 33) 64 (m.2 33 64 + 1))) 32 (shu (m.2 32) hs hs))) (by rw [shu_0]; rfl) ?_
        exact e_lv2 (near_loop (m := (m.1, up2 m.2 33 (upd (m.2 33) 64 (m.2 33 64 + 1)))) C E x hs (by omega) ⟨rfl, rfl⟩ hs (Nat.le_refl _)) rfl
      · rw [nI_leI (by omega) (by omega)] at h40
        rw [if_pos (show hs < 64 by omega)] at E
        refine e_aload_n C d_M_putNear_43 rfl ?_
        refine e_dup C d_M_putNear_44 rfl ?_
        refine e_get C 0 (k := 31) in_M g775 d_M_putNear_45 rfl rfl rfl rfl ?_
        refine e_iconst C d_M_putNear_48 (v := 1) (by decide) ?_
        refine e_iadd C d_M_putNear_49 ?_
        refine e_top (y := nI (hs + 1)) (by rw [show _ = nI hs from hh]; exact nI_1 hs) ?_
        refine e_put C 0 (k := 31) in_M tk_M nm_M g775 d_M_putNear_50 rfl rfl rfl rfl rfl rfl rfl rfl ?_
        refine e_iload_n C d_M_putNear_53 rfl ?_
        refine e_istore_n C d_M_putNear_54 rfl ?_
        refine e_eq (ws' := mF G a (upd m.1 31 (nI (hs + 1))) (up2 (up2 m.2 33 (upd (m.2 33) 64 (m.2 33 64 + 1))) 32 (shu (m.2 32) hs hs))) (by rw [shu_0]; rfl) ?_
        exact e_lv2 (near_loop (m := (upd m.1 31 (nI (hs + 1)), up2 m.2 33 (upd (m.2 33) 64 (m.2 33 64 + 1)))) C E x hs (by omega) ⟨rfl, rfl⟩ hs (Nat.le_refl _)) rfl
/-- a part of a slot is fetched -/
def tw1 (m : CS) (r : Nat) (bit : Int32) : CS := if m.2 9 r &&& bit = 0 then (m.1, up2 (up2 m.2 9 (upd (m.2 9) r (m.2 9 r ||| bit))) 34 (upd (m.2 34) 6 (m.2 34 6 + 1))) else m
/-- a part of a slot is taken -/
def twS (m : CS) (r : Nat) (bit wt : Int32) : CS := if wt = 0 then tw1 m r bit else if m.1 5 = 0 then ((tw1 m r bit).1, up2 (tw1 m r bit).2 10 (upd ((tw1 m r bit).2 10) r ((tw1 m r bit).2 10 r ||| bit))) else ((tw1 m r bit).1, up2 (tw1 m r bit).2 34 (upd ((tw1 m r bit).2 34) 7 ((tw1 m r bit).2 34 7 + 1)))
set_option maxRecDepth 100000 in
theorem k_M_takeWay {r : Nat} (hr : r < 128) (bit wt : Int32) : Con l G y_M_takeWay c_M_takeWay 4 none (rz 0 0) [.ref (a 40), .int (nI r), .int bit, .int wt] (mF G a m.1 m.2) (DV (mF G a (twS m r bit wt).1 (twS m r bit wt).2)) := by
  refine Con.of rfl rfl (fun X C E hR hl hnm => ?_)
  unfold twS at E
  have hv : (tw1 m r bit).1 5 = m.1 5 := by
    unfold tw1
    split <;> rfl
  have two : ∀ m1 : CS, m1 = tw1 m r bit → EW X G 4 0 0 32 [(0, .ref (a 40)), (1, .int (nI r)), (2, .int bit), (3, .int wt)] [] (mF G a m1.1 m1.2) := by
    intro m1 e
    rw [← e] at E hv
    refine e_iload_n C d_M_takeWay_32 rfl ?_
    refine e_if_eq C d_M_takeWay_33 (tgt := 53) (by decide) (fun h33 => ?_) (fun h33 => ?_)
    · rw [if_pos h33] at E
      refine e_iload_n C d_M_takeWay_53 rfl ?_
      refine e_if_eq C d_M_takeWay_54 (tgt := 75) (by decide) (fun h54 => ?_) (fun h54 => ?_)
      · skip
        exact e_vret C E d_M_takeWay_75 (Nat.le_refl _) (Nat.le_refl _) ⟨rfl, rfl⟩
      · exact absurd h33 h54
    · rw [if_neg h33] at E
      refine e_aload_n C d_M_takeWay_36 rfl ?_
      refine e_get C 0 (k := 5) in_M g749 d_M_takeWay_37 rfl rfl rfl rfl ?_
      refine e_if_ne C d_M_takeWay_40 (tgt := 53) (by decide) (fun h40 => ?_) (fun h40 => ?_)
      · have h40 : ¬ m.1 5 = 0 := by rw [← hv]; exact h40
        rw [if_neg h40] at E
        refine e_iload_n C d_M_takeWay_53 rfl ?_
        refine e_if_eq C d_M_takeWay_54 (tgt := 75) (by decide) (fun h54 => ?_) (fun h54 => ?_)
        · exact absurd h54 h33
        · skip
          refine e_aload_n C d_M_takeWay_57 rfl ?_
          refine e_get C 0 (k := 5) in_M g749 d_M_takeWay_58 rfl rfl rfl rfl ?_
          refine e_if_eq C d_M_takeWay_61 (tgt := 75) (by decide) (fun h61 => ?_) (fun h61 => ?_)
          · exact absurd (hv.symm.trans h61) h40
          · skip
            refine e_aload_n C d_M_takeWay_64 rfl ?_
            refine e_get C 0 (k := 34) in_M g778 d_M_takeWay_65 rfl rfl rfl rfl ?_
            refine e_bipush C d_M_takeWay_68 (v := 7) (by decide) ?_
            refine e_dup2 C d_M_takeWay_70 rfl rfl ?_
            refine e_iald C 22 0 d_M_takeWay_71 rfl rfl 7 rfl (by omega) (by omega) ?_
            refine e_iconst C d_M_takeWay_72 (v := 1) (by decide) ?_
            refine e_iadd C d_M_takeWay_73 ?_
            refine e_iast C 22 0 d_M_takeWay_74 rfl rfl 7 rfl (by omega) (by omega) ?_
            exact e_vret C E d_M_takeWay_75 (Nat.le_refl _) (Nat.le_refl _) ⟨rfl, rfl⟩
      · have h40 : m.1 5 = 0 := by rw [← hv]; exact h40
        rw [if_pos h40] at E
        refine e_aload_n C d_M_takeWay_43 rfl ?_
        refine e_get C 0 (k := 10) in_M g754 d_M_takeWay_44 rfl rfl rfl rfl ?_
        refine e_iload_n C d_M_takeWay_47 rfl ?_
        refine e_dup2 C d_M_takeWay_48 rfl rfl ?_
        refine e_iald C 4 0 d_M_takeWay_49 rfl rfl r rfl hr (by omega) ?_
        refine e_iload_n C d_M_takeWay_50 rfl ?_
        refine e_ior C d_M_takeWay_51 ?_
        refine e_iast C 4 0 d_M_takeWay_52 rfl rfl r rfl hr (by omega) ?_
        refine e_iload_n C d_M_takeWay_53 rfl ?_
        refine e_if_eq C d_M_takeWay_54 (tgt := 75) (by decide) (fun h54 => ?_) (fun h54 => ?_)
        · exact absurd h54 h33
        · skip
          refine e_aload_n C d_M_takeWay_57 rfl ?_
          refine e_get C 0 (k := 5) in_M g749 d_M_takeWay_58 rfl rfl rfl rfl ?_
          refine e_if_eq C d_M_takeWay_61 (tgt := 75) (by decide) (fun h61 => ?_) (fun h61 => ?_)
          · skip
            exact e_vret C E d_M_takeWay_75 (Nat.le_refl _) (Nat.le_refl _) ⟨rfl, rfl⟩
          · exact absurd (hv.trans h40) h61
  refine e_aload_n C d_M_takeWay_0 rfl ?_
  refine e_get C 0 (k := 9) in_M g753 d_M_takeWay_1 rfl rfl rfl rfl ?_
  refine e_iload_n C d_M_takeWay_4 rfl ?_
  refine e_iald C 3 0 d_M_takeWay_5 rfl rfl r rfl hr (by omega) ?_
  refine e_iload_n C d_M_takeWay_6 rfl ?_
  refine e_iand C d_M_takeWay_7 ?_
  refine e_if_ne C d_M_takeWay_8 (tgt := 32) (by decide) (fun h8 => ?_) (fun h8 => ?_)
  · exact e_lv2 (two m (by simp only [tw1, if_neg (show ¬ m.2 9 r &&& bit = 0 from h8)])) rfl
  · skip
    refine e_aload_n C d_M_takeWay_11 rfl ?_
    refine e_get C 0 (k := 9) in_M g753 d_M_takeWay_12 rfl rfl rfl rfl ?_
    refine e_iload_n C d_M_takeWay_15 rfl ?_
    refine e_dup2 C d_M_takeWay_16 rfl rfl ?_
    refine e_iald C 3 0 d_M_takeWay_17 rfl rfl r rfl hr (by omega) ?_
    refine e_iload_n C d_M_takeWay_18 rfl ?_
    refine e_ior C d_M_takeWay_19 ?_
    refine e_iast C 3 0 d_M_takeWay_20 rfl rfl r rfl hr (by omega) ?_
    refine e_aload_n C d_M_takeWay_21 rfl ?_
    refine e_get C 0 (k := 34) in_M g778 d_M_takeWay_22 rfl rfl rfl rfl ?_
    refine e_bipush C d_M_takeWay_25 (v := 6) (by decide) ?_
    refine e_dup2 C d_M_takeWay_27 rfl rfl ?_
    refine e_iald C 22 0 d_M_takeWay_28 rfl rfl 6 rfl (by omega) (by omega) ?_
    refine e_iconst C d_M_takeWay_29 (v := 1) (by decide) ?_
    refine e_iadd C d_M_takeWay_30 ?_
    refine e_iast C 22 0 d_M_takeWay_31 rfl rfl 6 rfl (by omega) (by omega) ?_
    refine e_eq (ws' := mF G a m.1 (up2 (up2 m.2 9 (upd (m.2 9) r (m.2 9 r ||| bit))) 34 (upd (m.2 34) 6 (m.2 34 6 + 1)))) rfl ?_
    exact e_lv2 (two (m.1, up2 (up2 m.2 9 (upd (m.2 9) r (m.2 9 r ||| bit))) 34 (upd (m.2 34) 6 (m.2 34 6 + 1))) (by simp only [tw1, if_pos (show m.2 9 r &&& bit = 0 from h8)])) rfl
end M3
