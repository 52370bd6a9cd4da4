/-! THE REFERENCE: its other public methods -/
theorem ey_M_lines : eY y_M_lines 0 = true := by decide +kernel
theorem d_M_lines_0 : decode c_M_lines 0 = .ok (.iconst 0, 1) := by decide +kernel
theorem d_M_lines_1 : decode c_M_lines 1 = .ok (.istore_n 1, 1) := by decide +kernel
theorem d_M_lines_2 : decode c_M_lines 2 = .ok (.iconst 0, 1) := by decide +kernel
theorem d_M_lines_3 : decode c_M_lines 3 = .ok (.istore_n 2, 1) := by decide +kernel
theorem d_M_lines_4 : decode c_M_lines 4 = .ok (.iload_n 2, 1) := by decide +kernel
theorem d_M_lines_5 : decode c_M_lines 5 = .ok (.aload_n 0, 1) := by decide +kernel
theorem d_M_lines_6 : decode c_M_lines 6 = .ok (.getfield 224, 3) := by decide +kernel
theorem d_M_lines_9 : decode c_M_lines 9 = .ok (.if_icmp .ge 64, 3) := by decide +kernel
theorem d_M_lines_12 : decode c_M_lines 12 = .ok (.iconst 1, 1) := by decide +kernel
theorem d_M_lines_13 : decode c_M_lines 13 = .ok (.istore_n 3, 1) := by decide +kernel
theorem d_M_lines_14 : decode c_M_lines 14 = .ok (.iconst 0, 1) := by decide +kernel
theorem d_M_lines_15 : decode c_M_lines 15 = .ok (.istore 4, 2) := by decide +kernel
theorem d_M_lines_17 : decode c_M_lines 17 = .ok (.iload 4, 2) := by decide +kernel
theorem d_M_lines_19 : decode c_M_lines 19 = .ok (.iload_n 2, 1) := by decide +kernel
theorem d_M_lines_20 : decode c_M_lines 20 = .ok (.if_icmp .ge 35, 3) := by decide +kernel
theorem d_M_lines_23 : decode c_M_lines 23 = .ok (.iload_n 3, 1) := by decide +kernel
theorem d_M_lines_24 : decode c_M_lines 24 = .ok (.ifCond .eq 23, 3) := by decide +kernel
theorem d_M_lines_27 : decode c_M_lines 27 = .ok (.aload_n 0, 1) := by decide +kernel
theorem d_M_lines_28 : decode c_M_lines 28 = .ok (.getfield 64, 3) := by decide +kernel
theorem d_M_lines_31 : decode c_M_lines 31 = .ok (.iload 4, 2) := by decide +kernel
theorem d_M_lines_33 : decode c_M_lines 33 = .ok (.iaload, 1) := by decide +kernel
theorem d_M_lines_34 : decode c_M_lines 34 = .ok (.aload_n 0, 1) := by decide +kernel
theorem d_M_lines_35 : decode c_M_lines 35 = .ok (.getfield 64, 3) := by decide +kernel
theorem d_M_lines_38 : decode c_M_lines 38 = .ok (.iload_n 2, 1) := by decide +kernel
theorem d_M_lines_39 : decode c_M_lines 39 = .ok (.iaload, 1) := by decide +kernel
theorem d_M_lines_40 : decode c_M_lines 40 = .ok (.if_icmp .eq 7, 3) := by decide +kernel
theorem d_M_lines_43 : decode c_M_lines 43 = .ok (.iconst 1, 1) := by decide +kernel
theorem d_M_lines_44 : decode c_M_lines 44 = .ok (.goto 4, 3) := by decide +kernel
theorem d_M_lines_47 : decode c_M_lines 47 = .ok (.iconst 0, 1) := by decide +kernel
theorem d_M_lines_48 : decode c_M_lines 48 = .ok (.istore_n 3, 1) := by decide +kernel
theorem d_M_lines_49 : decode c_M_lines 49 = .ok (.iinc 4 1, 3) := by decide +kernel
theorem d_M_lines_52 : decode c_M_lines 52 = .ok (.goto (-35), 3) := by decide +kernel
theorem d_M_lines_55 : decode c_M_lines 55 = .ok (.iload_n 1, 1) := by decide +kernel
theorem d_M_lines_56 : decode c_M_lines 56 = .ok (.iload_n 3, 1) := by decide +kernel
theorem d_M_lines_57 : decode c_M_lines 57 = .ok (.ifCond .eq 7, 3) := by decide +kernel
theorem d_M_lines_60 : decode c_M_lines 60 = .ok (.iconst 1, 1) := by decide +kernel
theorem d_M_lines_61 : decode c_M_lines 61 = .ok (.goto 4, 3) := by decide +kernel
theorem d_M_lines_64 : decode c_M_lines 64 = .ok (.iconst 0, 1) := by decide +kernel
theorem d_M_lines_65 : decode c_M_lines 65 = .ok (.iadd, 1) := by decide +kernel
theorem d_M_lines_66 : decode c_M_lines 66 = .ok (.istore_n 1, 1) := by decide +kernel
theorem d_M_lines_67 : decode c_M_lines 67 = .ok (.iinc 2 1, 3) := by decide +kernel
theorem d_M_lines_70 : decode c_M_lines 70 = .ok (.goto (-66), 3) := by decide +kernel
theorem d_M_lines_73 : decode c_M_lines 73 = .ok (.iload_n 1, 1) := by decide +kernel
theorem d_M_lines_74 : decode c_M_lines 74 = .ok (.ireturn, 1) := by decide +kernel
theorem ey_M_ask : eY y_M_ask 2 = true := by decide +kernel
theorem d_M_ask_0 : decode c_M_ask 0 = .ok (.aload_n 0, 1) := by decide +kernel
theorem d_M_ask_1 : decode c_M_ask 1 = .ok (.iconst 0, 1) := by decide +kernel
theorem d_M_ask_2 : decode c_M_ask 2 = .ok (.putfield 104, 3) := by decide +kernel
theorem d_M_ask_5 : decode c_M_ask 5 = .ok (.iload_n 2, 1) := by decide +kernel
theorem d_M_ask_6 : decode c_M_ask 6 = .ok (.iconst 0, 1) := by decide +kernel
theorem d_M_ask_7 : decode c_M_ask 7 = .ok (.iconst 3, 1) := by decide +kernel
theorem d_M_ask_8 : decode c_M_ask 8 = .ok (.invokestatic 214, 3) := by decide +kernel
theorem d_M_ask_11 : decode c_M_ask 11 = .ok (.ifCond .ne 9, 3) := by decide +kernel
theorem d_M_ask_14 : decode c_M_ask 14 = .ok (.aload_n 0, 1) := by decide +kernel
theorem d_M_ask_15 : decode c_M_ask 15 = .ok (.iconst 1, 1) := by decide +kernel
theorem d_M_ask_16 : decode c_M_ask 16 = .ok (.invokevirtual 221, 3) := by decide +kernel
theorem d_M_ask_19 : decode c_M_ask 19 = .ok (.ireturn, 1) := by decide +kernel
theorem d_M_ask_20 : decode c_M_ask 20 = .ok (.aload_n 0, 1) := by decide +kernel
theorem d_M_ask_21 : decode c_M_ask 21 = .ok (.iload_n 1, 1) := by decide +kernel
theorem d_M_ask_22 : decode c_M_ask 22 = .ok (.invokevirtual 182, 3) := by decide +kernel
theorem d_M_ask_25 : decode c_M_ask 25 = .ok (.istore_n 3, 1) := by decide +kernel
theorem d_M_ask_26 : decode c_M_ask 26 = .ok (.iload_n 3, 1) := by decide +kernel
theorem d_M_ask_27 : decode c_M_ask 27 = .ok (.ifCond .lt 25, 3) := by decide +kernel
theorem d_M_ask_30 : decode c_M_ask 30 = .ok (.aload_n 0, 1) := by decide +kernel
theorem d_M_ask_31 : decode c_M_ask 31 = .ok (.getfield 21, 3) := by decide +kernel
theorem d_M_ask_34 : decode c_M_ask 34 = .ok (.iload_n 3, 1) := by decide +kernel
theorem d_M_ask_35 : decode c_M_ask 35 = .ok (.iaload, 1) := by decide +kernel
theorem d_M_ask_36 : decode c_M_ask 36 = .ok (.iload_n 2, 1) := by decide +kernel
theorem d_M_ask_37 : decode c_M_ask 37 = .ok (.ishr, 1) := by decide +kernel
theorem d_M_ask_38 : decode c_M_ask 38 = .ok (.iconst 1, 1) := by decide +kernel
theorem d_M_ask_39 : decode c_M_ask 39 = .ok (.iand, 1) := by decide +kernel
theorem d_M_ask_40 : decode c_M_ask 40 = .ok (.iconst 1, 1) := by decide +kernel
theorem d_M_ask_41 : decode c_M_ask 41 = .ok (.if_icmp .ne 11, 3) := by decide +kernel
theorem d_M_ask_44 : decode c_M_ask 44 = .ok (.aload_n 0, 1) := by decide +kernel
theorem d_M_ask_45 : decode c_M_ask 45 = .ok (.iload_n 1, 1) := by decide +kernel
theorem d_M_ask_46 : decode c_M_ask 46 = .ok (.iload_n 2, 1) := by decide +kernel
theorem d_M_ask_47 : decode c_M_ask 47 = .ok (.iconst 0, 1) := by decide +kernel
theorem d_M_ask_48 : decode c_M_ask 48 = .ok (.invokevirtual 218, 3) := by decide +kernel
theorem d_M_ask_51 : decode c_M_ask 51 = .ok (.ireturn, 1) := by decide +kernel
theorem d_M_ask_52 : decode c_M_ask 52 = .ok (.iconst 0, 1) := by decide +kernel
theorem d_M_ask_53 : decode c_M_ask 53 = .ok (.istore 4, 2) := by decide +kernel
theorem d_M_ask_55 : decode c_M_ask 55 = .ok (.iconst 0, 1) := by decide +kernel
theorem d_M_ask_56 : decode c_M_ask 56 = .ok (.istore 5, 2) := by decide +kernel
theorem d_M_ask_58 : decode c_M_ask 58 = .ok (.iload 5, 2) := by decide +kernel
theorem d_M_ask_60 : decode c_M_ask 60 = .ok (.aload_n 0, 1) := by decide +kernel
theorem d_M_ask_61 : decode c_M_ask 61 = .ok (.getfield 224, 3) := by decide +kernel
theorem d_M_ask_64 : decode c_M_ask 64 = .ok (.if_icmp .ge 32, 3) := by decide +kernel
theorem d_M_ask_67 : decode c_M_ask 67 = .ok (.iload 4, 2) := by decide +kernel
theorem d_M_ask_69 : decode c_M_ask 69 = .ok (.ifCond .ne 14, 3) := by decide +kernel
theorem d_M_ask_72 : decode c_M_ask 72 = .ok (.aload_n 0, 1) := by decide +kernel
theorem d_M_ask_73 : decode c_M_ask 73 = .ok (.getfield 64, 3) := by decide +kernel
theorem d_M_ask_76 : decode c_M_ask 76 = .ok (.iload 5, 2) := by decide +kernel
theorem d_M_ask_78 : decode c_M_ask 78 = .ok (.iaload, 1) := by decide +kernel
theorem d_M_ask_79 : decode c_M_ask 79 = .ok (.iload_n 1, 1) := by decide +kernel
theorem d_M_ask_80 : decode c_M_ask 80 = .ok (.if_icmp .ne 7, 3) := by decide +kernel
theorem d_M_ask_83 : decode c_M_ask 83 = .ok (.iconst 1, 1) := by decide +kernel
theorem d_M_ask_84 : decode c_M_ask 84 = .ok (.goto 4, 3) := by decide +kernel
theorem d_M_ask_87 : decode c_M_ask 87 = .ok (.iconst 0, 1) := by decide +kernel
theorem d_M_ask_88 : decode c_M_ask 88 = .ok (.istore 4, 2) := by decide +kernel
theorem d_M_ask_90 : decode c_M_ask 90 = .ok (.iinc 5 1, 3) := by decide +kernel
theorem d_M_ask_93 : decode c_M_ask 93 = .ok (.goto (-35), 3) := by decide +kernel
theorem d_M_ask_96 : decode c_M_ask 96 = .ok (.aload_n 0, 1) := by decide +kernel
theorem d_M_ask_97 : decode c_M_ask 97 = .ok (.getfield 224, 3) := by decide +kernel
theorem d_M_ask_100 : decode c_M_ask 100 = .ok (.bipush 16, 2) := by decide +kernel
theorem d_M_ask_102 : decode c_M_ask 102 = .ok (.if_icmp .eq 16, 3) := by decide +kernel
theorem d_M_ask_105 : decode c_M_ask 105 = .ok (.iload 4, 2) := by decide +kernel
theorem d_M_ask_107 : decode c_M_ask 107 = .ok (.ifCond .ne 17, 3) := by decide +kernel
theorem d_M_ask_110 : decode c_M_ask 110 = .ok (.aload_n 0, 1) := by decide +kernel
theorem d_M_ask_111 : decode c_M_ask 111 = .ok (.invokevirtual 227, 3) := by decide +kernel
theorem d_M_ask_114 : decode c_M_ask 114 = .ok (.iconst 4, 1) := by decide +kernel
theorem d_M_ask_115 : decode c_M_ask 115 = .ok (.if_icmp .ne 9, 3) := by decide +kernel
theorem d_M_ask_118 : decode c_M_ask 118 = .ok (.aload_n 0, 1) := by decide +kernel
theorem d_M_ask_119 : decode c_M_ask 119 = .ok (.iconst 2, 1) := by decide +kernel
theorem d_M_ask_120 : decode c_M_ask 120 = .ok (.invokevirtual 221, 3) := by decide +kernel
theorem d_M_ask_123 : decode c_M_ask 123 = .ok (.ireturn, 1) := by decide +kernel
theorem d_M_ask_124 : decode c_M_ask 124 = .ok (.aload_n 0, 1) := by decide +kernel
theorem d_M_ask_125 : decode c_M_ask 125 = .ok (.getfield 64, 3) := by decide +kernel
theorem d_M_ask_128 : decode c_M_ask 128 = .ok (.aload_n 0, 1) := by decide +kernel
theorem d_M_ask_129 : decode c_M_ask 129 = .ok (.getfield 224, 3) := by decide +kernel
theorem d_M_ask_132 : decode c_M_ask 132 = .ok (.iload_n 1, 1) := by decide +kernel
theorem d_M_ask_133 : decode c_M_ask 133 = .ok (.iastore, 1) := by decide +kernel
theorem d_M_ask_134 : decode c_M_ask 134 = .ok (.aload_n 0, 1) := by decide +kernel
theorem d_M_ask_135 : decode c_M_ask 135 = .ok (.getfield 67, 3) := by decide +kernel
theorem d_M_ask_138 : decode c_M_ask 138 = .ok (.aload_n 0, 1) := by decide +kernel
theorem d_M_ask_139 : decode c_M_ask 139 = .ok (.getfield 224, 3) := by decide +kernel
theorem d_M_ask_142 : decode c_M_ask 142 = .ok (.iload_n 2, 1) := by decide +kernel
theorem d_M_ask_143 : decode c_M_ask 143 = .ok (.iastore, 1) := by decide +kernel
theorem d_M_ask_144 : decode c_M_ask 144 = .ok (.aload_n 0, 1) := by decide +kernel
theorem d_M_ask_145 : decode c_M_ask 145 = .ok (.dup, 1) := by decide +kernel
theorem d_M_ask_146 : decode c_M_ask 146 = .ok (.getfield 224, 3) := by decide +kernel
theorem d_M_ask_149 : decode c_M_ask 149 = .ok (.iconst 1, 1) := by decide +kernel
theorem d_M_ask_150 : decode c_M_ask 150 = .ok (.iadd, 1) := by decide +kernel
theorem d_M_ask_151 : decode c_M_ask 151 = .ok (.putfield 224, 3) := by decide +kernel
theorem d_M_ask_154 : decode c_M_ask 154 = .ok (.iload 4, 2) := by decide +kernel
theorem d_M_ask_156 : decode c_M_ask 156 = .ok (.ifCond .eq 7, 3) := by decide +kernel
theorem d_M_ask_159 : decode c_M_ask 159 = .ok (.iconst 2, 1) := by decide +kernel
theorem d_M_ask_160 : decode c_M_ask 160 = .ok (.goto 4, 3) := by decide +kernel
theorem d_M_ask_163 : decode c_M_ask 163 = .ok (.iconst 1, 1) := by decide +kernel
theorem d_M_ask_164 : decode c_M_ask 164 = .ok (.ireturn, 1) := by decide +kernel
theorem ey_M_answer : eY y_M_answer 0 = true := by decide +kernel
theorem d_M_answer_0 : decode c_M_answer 0 = .ok (.aload_n 0, 1) := by decide +kernel
theorem d_M_answer_1 : decode c_M_answer 1 = .ok (.iconst 0, 1) := by decide +kernel
theorem d_M_answer_2 : decode c_M_answer 2 = .ok (.putfield 104, 3) := by decide +kernel
theorem d_M_answer_5 : decode c_M_answer 5 = .ok (.aload_n 0, 1) := by decide +kernel
theorem d_M_answer_6 : decode c_M_answer 6 = .ok (.getfield 224, 3) := by decide +kernel
theorem d_M_answer_9 : decode c_M_answer 9 = .ok (.ifCond .ne 9, 3) := by decide +kernel
theorem d_M_answer_12 : decode c_M_answer 12 = .ok (.aload_n 0, 1) := by decide +kernel
theorem d_M_answer_13 : decode c_M_answer 13 = .ok (.iconst 1, 1) := by decide +kernel
theorem d_M_answer_14 : decode c_M_answer 14 = .ok (.invokevirtual 221, 3) := by decide +kernel
theorem d_M_answer_17 : decode c_M_answer 17 = .ok (.ireturn, 1) := by decide +kernel
theorem d_M_answer_18 : decode c_M_answer 18 = .ok (.aload_n 0, 1) := by decide +kernel
theorem d_M_answer_19 : decode c_M_answer 19 = .ok (.getfield 64, 3) := by decide +kernel
theorem d_M_answer_22 : decode c_M_answer 22 = .ok (.iconst 0, 1) := by decide +kernel
theorem d_M_answer_23 : decode c_M_answer 23 = .ok (.iaload, 1) := by decide +kernel
theorem d_M_answer_24 : decode c_M_answer 24 = .ok (.istore_n 1, 1) := by decide +kernel
theorem d_M_answer_25 : decode c_M_answer 25 = .ok (.iconst 0, 1) := by decide +kernel
theorem d_M_answer_26 : decode c_M_answer 26 = .ok (.istore_n 2, 1) := by decide +kernel
theorem d_M_answer_27 : decode c_M_answer 27 = .ok (.aload_n 0, 1) := by decide +kernel
theorem d_M_answer_28 : decode c_M_answer 28 = .ok (.iconst 0, 1) := by decide +kernel
theorem d_M_answer_29 : decode c_M_answer 29 = .ok (.putfield 230, 3) := by decide +kernel
theorem d_M_answer_32 : decode c_M_answer 32 = .ok (.iconst 0, 1) := by decide +kernel
theorem d_M_answer_33 : decode c_M_answer 33 = .ok (.istore_n 3, 1) := by decide +kernel
theorem d_M_answer_34 : decode c_M_answer 34 = .ok (.iload_n 3, 1) := by decide +kernel
theorem d_M_answer_35 : decode c_M_answer 35 = .ok (.aload_n 0, 1) := by decide +kernel
theorem d_M_answer_36 : decode c_M_answer 36 = .ok (.getfield 224, 3) := by decide +kernel
theorem d_M_answer_39 : decode c_M_answer 39 = .ok (.if_icmp .ge 95, 3) := by decide +kernel
theorem d_M_answer_42 : decode c_M_answer 42 = .ok (.aload_n 0, 1) := by decide +kernel
theorem d_M_answer_43 : decode c_M_answer 43 = .ok (.getfield 64, 3) := by decide +kernel
theorem d_M_answer_46 : decode c_M_answer 46 = .ok (.iload_n 3, 1) := by decide +kernel
theorem d_M_answer_47 : decode c_M_answer 47 = .ok (.iaload, 1) := by decide +kernel
theorem d_M_answer_48 : decode c_M_answer 48 = .ok (.iload_n 1, 1) := by decide +kernel
theorem d_M_answer_49 : decode c_M_answer 49 = .ok (.if_icmp .ne 52, 3) := by decide +kernel
theorem d_M_answer_52 : decode c_M_answer 52 = .ok (.aload_n 0, 1) := by decide +kernel
theorem d_M_answer_53 : decode c_M_answer 53 = .ok (.getfield 70, 3) := by decide +kernel
theorem d_M_answer_56 : decode c_M_answer 56 = .ok (.aload_n 0, 1) := by decide +kernel
theorem d_M_answer_57 : decode c_M_answer 57 = .ok (.getfield 230, 3) := by decide +kernel
theorem d_M_answer_60 : decode c_M_answer 60 = .ok (.aload_n 0, 1) := by decide +kernel
theorem d_M_answer_61 : decode c_M_answer 61 = .ok (.getfield 67, 3) := by decide +kernel
theorem d_M_answer_64 : decode c_M_answer 64 = .ok (.iload_n 3, 1) := by decide +kernel
theorem d_M_answer_65 : decode c_M_answer 65 = .ok (.iaload, 1) := by decide +kernel
theorem d_M_answer_66 : decode c_M_answer 66 = .ok (.iastore, 1) := by decide +kernel
theorem d_M_answer_67 : decode c_M_answer 67 = .ok (.aload_n 0, 1) := by decide +kernel
theorem d_M_answer_68 : decode c_M_answer 68 = .ok (.getfield 73, 3) := by decide +kernel
theorem d_M_answer_71 : decode c_M_answer 71 = .ok (.aload_n 0, 1) := by decide +kernel
theorem d_M_answer_72 : decode c_M_answer 72 = .ok (.getfield 230, 3) := by decide +kernel
theorem d_M_answer_75 : decode c_M_answer 75 = .ok (.aload_n 0, 1) := by decide +kernel
theorem d_M_answer_76 : decode c_M_answer 76 = .ok (.iload_n 1, 1) := by decide +kernel
theorem d_M_answer_77 : decode c_M_answer 77 = .ok (.aload_n 0, 1) := by decide +kernel
theorem d_M_answer_78 : decode c_M_answer 78 = .ok (.getfield 67, 3) := by decide +kernel
theorem d_M_answer_81 : decode c_M_answer 81 = .ok (.iload_n 3, 1) := by decide +kernel
theorem d_M_answer_82 : decode c_M_answer 82 = .ok (.iaload, 1) := by decide +kernel
theorem d_M_answer_83 : decode c_M_answer 83 = .ok (.iconst 0, 1) := by decide +kernel
theorem d_M_answer_84 : decode c_M_answer 84 = .ok (.invokevirtual 218, 3) := by decide +kernel
theorem d_M_answer_87 : decode c_M_answer 87 = .ok (.iastore, 1) := by decide +kernel
theorem d_M_answer_88 : decode c_M_answer 88 = .ok (.aload_n 0, 1) := by decide +kernel
theorem d_M_answer_89 : decode c_M_answer 89 = .ok (.dup, 1) := by decide +kernel
theorem d_M_answer_90 : decode c_M_answer 90 = .ok (.getfield 230, 3) := by decide +kernel
theorem d_M_answer_93 : decode c_M_answer 93 = .ok (.iconst 1, 1) := by decide +kernel
theorem d_M_answer_94 : decode c_M_answer 94 = .ok (.iadd, 1) := by decide +kernel
theorem d_M_answer_95 : decode c_M_answer 95 = .ok (.putfield 230, 3) := by decide +kernel
theorem d_M_answer_98 : decode c_M_answer 98 = .ok (.goto 30, 3) := by decide +kernel
theorem d_M_answer_101 : decode c_M_answer 101 = .ok (.aload_n 0, 1) := by decide +kernel
theorem d_M_answer_102 : decode c_M_answer 102 = .ok (.getfield 64, 3) := by decide +kernel
theorem d_M_answer_105 : decode c_M_answer 105 = .ok (.iload_n 2, 1) := by decide +kernel
theorem d_M_answer_106 : decode c_M_answer 106 = .ok (.aload_n 0, 1) := by decide +kernel
theorem d_M_answer_107 : decode c_M_answer 107 = .ok (.getfield 64, 3) := by decide +kernel
theorem d_M_answer_110 : decode c_M_answer 110 = .ok (.iload_n 3, 1) := by decide +kernel
theorem d_M_answer_111 : decode c_M_answer 111 = .ok (.iaload, 1) := by decide +kernel
theorem d_M_answer_112 : decode c_M_answer 112 = .ok (.iastore, 1) := by decide +kernel
theorem d_M_answer_113 : decode c_M_answer 113 = .ok (.aload_n 0, 1) := by decide +kernel
theorem d_M_answer_114 : decode c_M_answer 114 = .ok (.getfield 67, 3) := by decide +kernel
theorem d_M_answer_117 : decode c_M_answer 117 = .ok (.iload_n 2, 1) := by decide +kernel
theorem d_M_answer_118 : decode c_M_answer 118 = .ok (.aload_n 0, 1) := by decide +kernel
theorem d_M_answer_119 : decode c_M_answer 119 = .ok (.getfield 67, 3) := by decide +kernel
theorem d_M_answer_122 : decode c_M_answer 122 = .ok (.iload_n 3, 1) := by decide +kernel
theorem d_M_answer_123 : decode c_M_answer 123 = .ok (.iaload, 1) := by decide +kernel
theorem d_M_answer_124 : decode c_M_answer 124 = .ok (.iastore, 1) := by decide +kernel
theorem d_M_answer_125 : decode c_M_answer 125 = .ok (.iinc 2 1, 3) := by decide +kernel
theorem d_M_answer_128 : decode c_M_answer 128 = .ok (.iinc 3 1, 3) := by decide +kernel
theorem d_M_answer_131 : decode c_M_answer 131 = .ok (.goto (-97), 3) := by decide +kernel
theorem d_M_answer_134 : decode c_M_answer 134 = .ok (.aload_n 0, 1) := by decide +kernel
theorem d_M_answer_135 : decode c_M_answer 135 = .ok (.iload_n 2, 1) := by decide +kernel
theorem d_M_answer_136 : decode c_M_answer 136 = .ok (.putfield 224, 3) := by decide +kernel
theorem d_M_answer_139 : decode c_M_answer 139 = .ok (.aload_n 0, 1) := by decide +kernel
theorem d_M_answer_140 : decode c_M_answer 140 = .ok (.getfield 230, 3) := by decide +kernel
theorem d_M_answer_143 : decode c_M_answer 143 = .ok (.ireturn, 1) := by decide +kernel
theorem ey_M_answered : eY y_M_answered 2 = true := by decide +kernel
theorem d_M_answered_0 : decode c_M_answered 0 = .ok (.aload_n 0, 1) := by decide +kernel
theorem d_M_answered_1 : decode c_M_answered 1 = .ok (.iconst 0, 1) := by decide +kernel
theorem d_M_answered_2 : decode c_M_answered 2 = .ok (.putfield 104, 3) := by decide +kernel
theorem d_M_answered_5 : decode c_M_answered 5 = .ok (.iload_n 1, 1) := by decide +kernel
theorem d_M_answered_6 : decode c_M_answered 6 = .ok (.iconst 0, 1) := by decide +kernel
theorem d_M_answered_7 : decode c_M_answered 7 = .ok (.aload_n 0, 1) := by decide +kernel
theorem d_M_answered_8 : decode c_M_answered 8 = .ok (.getfield 230, 3) := by decide +kernel
theorem d_M_answered_11 : decode c_M_answered 11 = .ok (.iconst 1, 1) := by decide +kernel
theorem d_M_answered_12 : decode c_M_answered 12 = .ok (.isub, 1) := by decide +kernel
theorem d_M_answered_13 : decode c_M_answered 13 = .ok (.invokestatic 214, 3) := by decide +kernel
theorem d_M_answered_16 : decode c_M_answered 16 = .ok (.ifCond .eq 12, 3) := by decide +kernel
theorem d_M_answered_19 : decode c_M_answered 19 = .ok (.iload_n 2, 1) := by decide +kernel
theorem d_M_answered_20 : decode c_M_answered 20 = .ok (.iconst 0, 1) := by decide +kernel
theorem d_M_answered_21 : decode c_M_answered 21 = .ok (.iconst 1, 1) := by decide +kernel
theorem d_M_answered_22 : decode c_M_answered 22 = .ok (.invokestatic 214, 3) := by decide +kernel
theorem d_M_answered_25 : decode c_M_answered 25 = .ok (.ifCond .ne 9, 3) := by decide +kernel
theorem d_M_answered_28 : decode c_M_answered 28 = .ok (.aload_n 0, 1) := by decide +kernel
theorem d_M_answered_29 : decode c_M_answered 29 = .ok (.iconst 1, 1) := by decide +kernel
theorem d_M_answered_30 : decode c_M_answered 30 = .ok (.invokevirtual 221, 3) := by decide +kernel
theorem d_M_answered_33 : decode c_M_answered 33 = .ok (.ireturn, 1) := by decide +kernel
theorem d_M_answered_34 : decode c_M_answered 34 = .ok (.iload_n 2, 1) := by decide +kernel
theorem d_M_answered_35 : decode c_M_answered 35 = .ok (.ifCond .ne 12, 3) := by decide +kernel
theorem d_M_answered_38 : decode c_M_answered 38 = .ok (.aload_n 0, 1) := by decide +kernel
theorem d_M_answered_39 : decode c_M_answered 39 = .ok (.getfield 70, 3) := by decide +kernel
theorem d_M_answered_42 : decode c_M_answered 42 = .ok (.iload_n 1, 1) := by decide +kernel
theorem d_M_answered_43 : decode c_M_answered 43 = .ok (.iaload, 1) := by decide +kernel
theorem d_M_answered_44 : decode c_M_answered 44 = .ok (.goto 9, 3) := by decide +kernel
theorem d_M_answered_47 : decode c_M_answered 47 = .ok (.aload_n 0, 1) := by decide +kernel
theorem d_M_answered_48 : decode c_M_answered 48 = .ok (.getfield 73, 3) := by decide +kernel
theorem d_M_answered_51 : decode c_M_answered 51 = .ok (.iload_n 1, 1) := by decide +kernel
theorem d_M_answered_52 : decode c_M_answered 52 = .ok (.iaload, 1) := by decide +kernel
theorem d_M_answered_53 : decode c_M_answered 53 = .ok (.ireturn, 1) := by decide +kernel
theorem ey_M_lock : eY y_M_lock 2 = true := by decide +kernel
theorem d_M_lock_0 : decode c_M_lock 0 = .ok (.aload_n 0, 1) := by decide +kernel
theorem d_M_lock_1 : decode c_M_lock 1 = .ok (.iconst 0, 1) := by decide +kernel
theorem d_M_lock_2 : decode c_M_lock 2 = .ok (.putfield 104, 3) := by decide +kernel
theorem d_M_lock_5 : decode c_M_lock 5 = .ok (.aload_n 0, 1) := by decide +kernel
theorem d_M_lock_6 : decode c_M_lock 6 = .ok (.iload_n 1, 1) := by decide +kernel
theorem d_M_lock_7 : decode c_M_lock 7 = .ok (.invokevirtual 182, 3) := by decide +kernel
theorem d_M_lock_10 : decode c_M_lock 10 = .ok (.istore_n 3, 1) := by decide +kernel
theorem d_M_lock_11 : decode c_M_lock 11 = .ok (.iload_n 3, 1) := by decide +kernel
theorem d_M_lock_12 : decode c_M_lock 12 = .ok (.ifCond .lt 17, 3) := by decide +kernel
theorem d_M_lock_15 : decode c_M_lock 15 = .ok (.aload_n 0, 1) := by decide +kernel
theorem d_M_lock_16 : decode c_M_lock 16 = .ok (.getfield 27, 3) := by decide +kernel
theorem d_M_lock_19 : decode c_M_lock 19 = .ok (.iload_n 3, 1) := by decide +kernel
theorem d_M_lock_20 : decode c_M_lock 20 = .ok (.baload, 1) := by decide +kernel
theorem d_M_lock_21 : decode c_M_lock 21 = .ok (.iload_n 2, 1) := by decide +kernel
theorem d_M_lock_22 : decode c_M_lock 22 = .ok (.if_icmp .eq 7, 3) := by decide +kernel
theorem d_M_lock_25 : decode c_M_lock 25 = .ok (.iconst 1, 1) := by decide +kernel
theorem d_M_lock_26 : decode c_M_lock 26 = .ok (.goto 4, 3) := by decide +kernel
theorem d_M_lock_29 : decode c_M_lock 29 = .ok (.iconst 0, 1) := by decide +kernel
theorem d_M_lock_30 : decode c_M_lock 30 = .ok (.istore 4, 2) := by decide +kernel
theorem d_M_lock_32 : decode c_M_lock 32 = .ok (.iload_n 3, 1) := by decide +kernel
theorem d_M_lock_33 : decode c_M_lock 33 = .ok (.ifCond .lt 10, 3) := by decide +kernel
theorem d_M_lock_36 : decode c_M_lock 36 = .ok (.aload_n 0, 1) := by decide +kernel
theorem d_M_lock_37 : decode c_M_lock 37 = .ok (.getfield 27, 3) := by decide +kernel
theorem d_M_lock_40 : decode c_M_lock 40 = .ok (.iload_n 3, 1) := by decide +kernel
theorem d_M_lock_41 : decode c_M_lock 41 = .ok (.iload_n 2, 1) := by decide +kernel
theorem d_M_lock_42 : decode c_M_lock 42 = .ok (.bastore, 1) := by decide +kernel
theorem d_M_lock_43 : decode c_M_lock 43 = .ok (.iload 4, 2) := by decide +kernel
theorem d_M_lock_45 : decode c_M_lock 45 = .ok (.ireturn, 1) := by decide +kernel
theorem ey_M_cleanWay : eY y_M_cleanWay 1 = true := by decide +kernel
theorem d_M_cleanWay_0 : decode c_M_cleanWay 0 = .ok (.aload_n 0, 1) := by decide +kernel
theorem d_M_cleanWay_1 : decode c_M_cleanWay 1 = .ok (.getfield 13, 3) := by decide +kernel
theorem d_M_cleanWay_4 : decode c_M_cleanWay 4 = .ok (.iload_n 1, 1) := by decide +kernel
theorem d_M_cleanWay_5 : decode c_M_cleanWay 5 = .ok (.baload, 1) := by decide +kernel
theorem d_M_cleanWay_6 : decode c_M_cleanWay 6 = .ok (.ifCond .eq 15, 3) := by decide +kernel
theorem d_M_cleanWay_9 : decode c_M_cleanWay 9 = .ok (.aload_n 0, 1) := by decide +kernel
theorem d_M_cleanWay_10 : decode c_M_cleanWay 10 = .ok (.getfield 24, 3) := by decide +kernel
theorem d_M_cleanWay_13 : decode c_M_cleanWay 13 = .ok (.iload_n 1, 1) := by decide +kernel
theorem d_M_cleanWay_14 : decode c_M_cleanWay 14 = .ok (.iaload, 1) := by decide +kernel
theorem d_M_cleanWay_15 : decode c_M_cleanWay 15 = .ok (.invokestatic 157, 3) := by decide +kernel
theorem d_M_cleanWay_18 : decode c_M_cleanWay 18 = .ok (.goto 4, 3) := by decide +kernel
theorem d_M_cleanWay_21 : decode c_M_cleanWay 21 = .ok (.iconst 0, 1) := by decide +kernel
theorem d_M_cleanWay_22 : decode c_M_cleanWay 22 = .ok (.istore_n 2, 1) := by decide +kernel
theorem d_M_cleanWay_23 : decode c_M_cleanWay 23 = .ok (.aload_n 0, 1) := by decide +kernel
theorem d_M_cleanWay_24 : decode c_M_cleanWay 24 = .ok (.getfield 13, 3) := by decide +kernel
theorem d_M_cleanWay_27 : decode c_M_cleanWay 27 = .ok (.iload_n 1, 1) := by decide +kernel
theorem d_M_cleanWay_28 : decode c_M_cleanWay 28 = .ok (.baload, 1) := by decide +kernel
theorem d_M_cleanWay_29 : decode c_M_cleanWay 29 = .ok (.ifCond .eq 10, 3) := by decide +kernel
theorem d_M_cleanWay_32 : decode c_M_cleanWay 32 = .ok (.aload_n 0, 1) := by decide +kernel
theorem d_M_cleanWay_33 : decode c_M_cleanWay 33 = .ok (.getfield 24, 3) := by decide +kernel
theorem d_M_cleanWay_36 : decode c_M_cleanWay 36 = .ok (.iload_n 1, 1) := by decide +kernel
theorem d_M_cleanWay_37 : decode c_M_cleanWay 37 = .ok (.iconst 0, 1) := by decide +kernel
theorem d_M_cleanWay_38 : decode c_M_cleanWay 38 = .ok (.iastore, 1) := by decide +kernel
theorem d_M_cleanWay_39 : decode c_M_cleanWay 39 = .ok (.aload_n 0, 1) := by decide +kernel
theorem d_M_cleanWay_40 : decode c_M_cleanWay 40 = .ok (.getfield 82, 3) := by decide +kernel
theorem d_M_cleanWay_43 : decode c_M_cleanWay 43 = .ok (.bipush 7, 2) := by decide +kernel
theorem d_M_cleanWay_45 : decode c_M_cleanWay 45 = .ok (.dup2, 1) := by decide +kernel
theorem d_M_cleanWay_46 : decode c_M_cleanWay 46 = .ok (.iaload, 1) := by decide +kernel
theorem d_M_cleanWay_47 : decode c_M_cleanWay 47 = .ok (.iload_n 2, 1) := by decide +kernel
theorem d_M_cleanWay_48 : decode c_M_cleanWay 48 = .ok (.iadd, 1) := by decide +kernel
theorem d_M_cleanWay_49 : decode c_M_cleanWay 49 = .ok (.iastore, 1) := by decide +kernel
theorem d_M_cleanWay_50 : decode c_M_cleanWay 50 = .ok (.iload_n 2, 1) := by decide +kernel
theorem d_M_cleanWay_51 : decode c_M_cleanWay 51 = .ok (.ireturn, 1) := by decide +kernel
theorem ey_M_cleanRow : eY y_M_cleanRow 1 = true := by decide +kernel
theorem d_M_cleanRow_0 : decode c_M_cleanRow 0 = .ok (.aload_n 0, 1) := by decide +kernel
theorem d_M_cleanRow_1 : decode c_M_cleanRow 1 = .ok (.getfield 61, 3) := by decide +kernel
theorem d_M_cleanRow_4 : decode c_M_cleanRow 4 = .ok (.iload_n 1, 1) := by decide +kernel
theorem d_M_cleanRow_5 : decode c_M_cleanRow 5 = .ok (.iaload, 1) := by decide +kernel
theorem d_M_cleanRow_6 : decode c_M_cleanRow 6 = .ok (.invokestatic 157, 3) := by decide +kernel
theorem d_M_cleanRow_9 : decode c_M_cleanRow 9 = .ok (.istore_n 2, 1) := by decide +kernel
theorem d_M_cleanRow_10 : decode c_M_cleanRow 10 = .ok (.aload_n 0, 1) := by decide +kernel
theorem d_M_cleanRow_11 : decode c_M_cleanRow 11 = .ok (.getfield 61, 3) := by decide +kernel
theorem d_M_cleanRow_14 : decode c_M_cleanRow 14 = .ok (.iload_n 1, 1) := by decide +kernel
theorem d_M_cleanRow_15 : decode c_M_cleanRow 15 = .ok (.iconst 0, 1) := by decide +kernel
theorem d_M_cleanRow_16 : decode c_M_cleanRow 16 = .ok (.iastore, 1) := by decide +kernel
theorem d_M_cleanRow_17 : decode c_M_cleanRow 17 = .ok (.aload_n 0, 1) := by decide +kernel
theorem d_M_cleanRow_18 : decode c_M_cleanRow 18 = .ok (.getfield 82, 3) := by decide +kernel
theorem d_M_cleanRow_21 : decode c_M_cleanRow 21 = .ok (.bipush 7, 2) := by decide +kernel
theorem d_M_cleanRow_23 : decode c_M_cleanRow 23 = .ok (.dup2, 1) := by decide +kernel
theorem d_M_cleanRow_24 : decode c_M_cleanRow 24 = .ok (.iaload, 1) := by decide +kernel
theorem d_M_cleanRow_25 : decode c_M_cleanRow 25 = .ok (.iload_n 2, 1) := by decide +kernel
theorem d_M_cleanRow_26 : decode c_M_cleanRow 26 = .ok (.iadd, 1) := by decide +kernel
theorem d_M_cleanRow_27 : decode c_M_cleanRow 27 = .ok (.iastore, 1) := by decide +kernel
theorem d_M_cleanRow_28 : decode c_M_cleanRow 28 = .ok (.iload_n 2, 1) := by decide +kernel
theorem d_M_cleanRow_29 : decode c_M_cleanRow 29 = .ok (.ireturn, 1) := by decide +kernel
theorem ey_M_clean : eY y_M_clean 1 = true := by decide +kernel
theorem d_M_clean_0 : decode c_M_clean 0 = .ok (.aload_n 0, 1) := by decide +kernel
theorem d_M_clean_1 : decode c_M_clean 1 = .ok (.iconst 0, 1) := by decide +kernel
theorem d_M_clean_2 : decode c_M_clean 2 = .ok (.putfield 104, 3) := by decide +kernel
theorem d_M_clean_5 : decode c_M_clean 5 = .ok (.aload_n 0, 1) := by decide +kernel
theorem d_M_clean_6 : decode c_M_clean 6 = .ok (.iload_n 1, 1) := by decide +kernel
theorem d_M_clean_7 : decode c_M_clean 7 = .ok (.invokevirtual 182, 3) := by decide +kernel
theorem d_M_clean_10 : decode c_M_clean 10 = .ok (.istore_n 2, 1) := by decide +kernel
theorem d_M_clean_11 : decode c_M_clean 11 = .ok (.aload_n 0, 1) := by decide +kernel
theorem d_M_clean_12 : decode c_M_clean 12 = .ok (.iload_n 1, 1) := by decide +kernel
theorem d_M_clean_13 : decode c_M_clean 13 = .ok (.invokevirtual 195, 3) := by decide +kernel
theorem d_M_clean_16 : decode c_M_clean 16 = .ok (.istore_n 3, 1) := by decide +kernel
theorem d_M_clean_17 : decode c_M_clean 17 = .ok (.iload_n 2, 1) := by decide +kernel
theorem d_M_clean_18 : decode c_M_clean 18 = .ok (.ifCond .lt 11, 3) := by decide +kernel
theorem d_M_clean_21 : decode c_M_clean 21 = .ok (.aload_n 0, 1) := by decide +kernel
theorem d_M_clean_22 : decode c_M_clean 22 = .ok (.iload_n 2, 1) := by decide +kernel
theorem d_M_clean_23 : decode c_M_clean 23 = .ok (.invokevirtual 233, 3) := by decide +kernel
theorem d_M_clean_26 : decode c_M_clean 26 = .ok (.goto 16, 3) := by decide +kernel
theorem d_M_clean_29 : decode c_M_clean 29 = .ok (.iload_n 3, 1) := by decide +kernel
theorem d_M_clean_30 : decode c_M_clean 30 = .ok (.ifCond .lt 11, 3) := by decide +kernel
theorem d_M_clean_33 : decode c_M_clean 33 = .ok (.aload_n 0, 1) := by decide +kernel
theorem d_M_clean_34 : decode c_M_clean 34 = .ok (.iload_n 3, 1) := by decide +kernel
theorem d_M_clean_35 : decode c_M_clean 35 = .ok (.invokevirtual 236, 3) := by decide +kernel
theorem d_M_clean_38 : decode c_M_clean 38 = .ok (.goto 4, 3) := by decide +kernel
theorem d_M_clean_41 : decode c_M_clean 41 = .ok (.iconst 0, 1) := by decide +kernel
theorem d_M_clean_42 : decode c_M_clean 42 = .ok (.ireturn, 1) := by decide +kernel
theorem ey_M_cleanAll : eY y_M_cleanAll 0 = true := by decide +kernel
theorem d_M_cleanAll_0 : decode c_M_cleanAll 0 = .ok (.aload_n 0, 1) := by decide +kernel
theorem d_M_cleanAll_1 : decode c_M_cleanAll 1 = .ok (.iconst 0, 1) := by decide +kernel
theorem d_M_cleanAll_2 : decode c_M_cleanAll 2 = .ok (.putfield 104, 3) := by decide +kernel
theorem d_M_cleanAll_5 : decode c_M_cleanAll 5 = .ok (.iconst 0, 1) := by decide +kernel
theorem d_M_cleanAll_6 : decode c_M_cleanAll 6 = .ok (.istore_n 1, 1) := by decide +kernel
theorem d_M_cleanAll_7 : decode c_M_cleanAll 7 = .ok (.iconst 0, 1) := by decide +kernel
theorem d_M_cleanAll_8 : decode c_M_cleanAll 8 = .ok (.istore_n 2, 1) := by decide +kernel
theorem d_M_cleanAll_9 : decode c_M_cleanAll 9 = .ok (.iload_n 2, 1) := by decide +kernel
theorem d_M_cleanAll_10 : decode c_M_cleanAll 10 = .ok (.sipush 128, 3) := by decide +kernel
theorem d_M_cleanAll_13 : decode c_M_cleanAll 13 = .ok (.if_icmp .ge 17, 3) := by decide +kernel
theorem d_M_cleanAll_16 : decode c_M_cleanAll 16 = .ok (.iload_n 1, 1) := by decide +kernel
theorem d_M_cleanAll_17 : decode c_M_cleanAll 17 = .ok (.aload_n 0, 1) := by decide +kernel
theorem d_M_cleanAll_18 : decode c_M_cleanAll 18 = .ok (.iload_n 2, 1) := by decide +kernel
theorem d_M_cleanAll_19 : decode c_M_cleanAll 19 = .ok (.invokevirtual 233, 3) := by decide +kernel
theorem d_M_cleanAll_22 : decode c_M_cleanAll 22 = .ok (.iadd, 1) := by decide +kernel
theorem d_M_cleanAll_23 : decode c_M_cleanAll 23 = .ok (.istore_n 1, 1) := by decide +kernel
theorem d_M_cleanAll_24 : decode c_M_cleanAll 24 = .ok (.iinc 2 1, 3) := by decide +kernel
theorem d_M_cleanAll_27 : decode c_M_cleanAll 27 = .ok (.goto (-18), 3) := by decide +kernel
theorem d_M_cleanAll_30 : decode c_M_cleanAll 30 = .ok (.iconst 0, 1) := by decide +kernel
theorem d_M_cleanAll_31 : decode c_M_cleanAll 31 = .ok (.istore_n 2, 1) := by decide +kernel
theorem d_M_cleanAll_32 : decode c_M_cleanAll 32 = .ok (.iload_n 2, 1) := by decide +kernel
theorem d_M_cleanAll_33 : decode c_M_cleanAll 33 = .ok (.aload_n 0, 1) := by decide +kernel
theorem d_M_cleanAll_34 : decode c_M_cleanAll 34 = .ok (.getfield 114, 3) := by decide +kernel
theorem d_M_cleanAll_37 : decode c_M_cleanAll 37 = .ok (.if_icmp .ge 17, 3) := by decide +kernel
theorem d_M_cleanAll_40 : decode c_M_cleanAll 40 = .ok (.iload_n 1, 1) := by decide +kernel
theorem d_M_cleanAll_41 : decode c_M_cleanAll 41 = .ok (.aload_n 0, 1) := by decide +kernel
theorem d_M_cleanAll_42 : decode c_M_cleanAll 42 = .ok (.iload_n 2, 1) := by decide +kernel
theorem d_M_cleanAll_43 : decode c_M_cleanAll 43 = .ok (.invokevirtual 236, 3) := by decide +kernel
theorem d_M_cleanAll_46 : decode c_M_cleanAll 46 = .ok (.iadd, 1) := by decide +kernel
theorem d_M_cleanAll_47 : decode c_M_cleanAll 47 = .ok (.istore_n 1, 1) := by decide +kernel
theorem d_M_cleanAll_48 : decode c_M_cleanAll 48 = .ok (.iinc 2 1, 3) := by decide +kernel
theorem d_M_cleanAll_51 : decode c_M_cleanAll 51 = .ok (.goto (-19), 3) := by decide +kernel
theorem d_M_cleanAll_54 : decode c_M_cleanAll 54 = .ok (.iload_n 1, 1) := by decide +kernel
theorem d_M_cleanAll_55 : decode c_M_cleanAll 55 = .ok (.ireturn, 1) := by decide +kernel
theorem ey_M_drop : eY y_M_drop 1 = true := by decide +kernel
theorem d_M_drop_0 : decode c_M_drop 0 = .ok (.aload_n 0, 1) := by decide +kernel
theorem d_M_drop_1 : decode c_M_drop 1 = .ok (.iconst 0, 1) := by decide +kernel
theorem d_M_drop_2 : decode c_M_drop 2 = .ok (.putfield 104, 3) := by decide +kernel
theorem d_M_drop_5 : decode c_M_drop 5 = .ok (.aload_n 0, 1) := by decide +kernel
theorem d_M_drop_6 : decode c_M_drop 6 = .ok (.iload_n 1, 1) := by decide +kernel
theorem d_M_drop_7 : decode c_M_drop 7 = .ok (.invokevirtual 182, 3) := by decide +kernel
theorem d_M_drop_10 : decode c_M_drop 10 = .ok (.istore_n 2, 1) := by decide +kernel
theorem d_M_drop_11 : decode c_M_drop 11 = .ok (.aload_n 0, 1) := by decide +kernel
theorem d_M_drop_12 : decode c_M_drop 12 = .ok (.iload_n 1, 1) := by decide +kernel
theorem d_M_drop_13 : decode c_M_drop 13 = .ok (.invokevirtual 195, 3) := by decide +kernel
theorem d_M_drop_16 : decode c_M_drop 16 = .ok (.istore_n 3, 1) := by decide +kernel
theorem d_M_drop_17 : decode c_M_drop 17 = .ok (.iload_n 2, 1) := by decide +kernel
theorem d_M_drop_18 : decode c_M_drop 18 = .ok (.ifCond .lt 27, 3) := by decide +kernel
theorem d_M_drop_21 : decode c_M_drop 21 = .ok (.aload_n 0, 1) := by decide +kernel
theorem d_M_drop_22 : decode c_M_drop 22 = .ok (.getfield 13, 3) := by decide +kernel
theorem d_M_drop_25 : decode c_M_drop 25 = .ok (.iload_n 2, 1) := by decide +kernel
theorem d_M_drop_26 : decode c_M_drop 26 = .ok (.iconst 0, 1) := by decide +kernel
theorem d_M_drop_27 : decode c_M_drop 27 = .ok (.bastore, 1) := by decide +kernel
theorem d_M_drop_28 : decode c_M_drop 28 = .ok (.aload_n 0, 1) := by decide +kernel
theorem d_M_drop_29 : decode c_M_drop 29 = .ok (.getfield 27, 3) := by decide +kernel
theorem d_M_drop_32 : decode c_M_drop 32 = .ok (.iload_n 2, 1) := by decide +kernel
theorem d_M_drop_33 : decode c_M_drop 33 = .ok (.iconst 0, 1) := by decide +kernel
theorem d_M_drop_34 : decode c_M_drop 34 = .ok (.bastore, 1) := by decide +kernel
theorem d_M_drop_35 : decode c_M_drop 35 = .ok (.aload_n 0, 1) := by decide +kernel
theorem d_M_drop_36 : decode c_M_drop 36 = .ok (.getfield 24, 3) := by decide +kernel
theorem d_M_drop_39 : decode c_M_drop 39 = .ok (.iload_n 2, 1) := by decide +kernel
theorem d_M_drop_40 : decode c_M_drop 40 = .ok (.iaload, 1) := by decide +kernel
theorem d_M_drop_41 : decode c_M_drop 41 = .ok (.invokestatic 157, 3) := by decide +kernel
theorem d_M_drop_44 : decode c_M_drop 44 = .ok (.ireturn, 1) := by decide +kernel
theorem d_M_drop_45 : decode c_M_drop 45 = .ok (.iload_n 3, 1) := by decide +kernel
theorem d_M_drop_46 : decode c_M_drop 46 = .ok (.ifCond .ge 5, 3) := by decide +kernel
theorem d_M_drop_49 : decode c_M_drop 49 = .ok (.iconst (-1), 1) := by decide +kernel
theorem d_M_drop_50 : decode c_M_drop 50 = .ok (.ireturn, 1) := by decide +kernel
theorem d_M_drop_51 : decode c_M_drop 51 = .ok (.aload_n 0, 1) := by decide +kernel
theorem d_M_drop_52 : decode c_M_drop 52 = .ok (.getfield 61, 3) := by decide +kernel
theorem d_M_drop_55 : decode c_M_drop 55 = .ok (.iload_n 3, 1) := by decide +kernel
theorem d_M_drop_56 : decode c_M_drop 56 = .ok (.iaload, 1) := by decide +kernel
theorem d_M_drop_57 : decode c_M_drop 57 = .ok (.invokestatic 157, 3) := by decide +kernel
theorem d_M_drop_60 : decode c_M_drop 60 = .ok (.istore 4, 2) := by decide +kernel
theorem d_M_drop_62 : decode c_M_drop 62 = .ok (.aload_n 0, 1) := by decide +kernel
theorem d_M_drop_63 : decode c_M_drop 63 = .ok (.iload_n 3, 1) := by decide +kernel
theorem d_M_drop_64 : decode c_M_drop 64 = .ok (.invokevirtual 163, 3) := by decide +kernel
theorem d_M_drop_67 : decode c_M_drop 67 = .ok (.iload 4, 2) := by decide +kernel
theorem d_M_drop_69 : decode c_M_drop 69 = .ok (.ireturn, 1) := by decide +kernel
theorem ey_M_way : eY y_M_way 3 = true := by decide +kernel
theorem d_M_way_0 : decode c_M_way 0 = .ok (.aload_n 0, 1) := by decide +kernel
theorem d_M_way_1 : decode c_M_way 1 = .ok (.iconst 0, 1) := by decide +kernel
theorem d_M_way_2 : decode c_M_way 2 = .ok (.putfield 104, 3) := by decide +kernel
theorem d_M_way_5 : decode c_M_way 5 = .ok (.iload_n 1, 1) := by decide +kernel
theorem d_M_way_6 : decode c_M_way 6 = .ok (.iconst 0, 1) := by decide +kernel
theorem d_M_way_7 : decode c_M_way 7 = .ok (.aload_n 0, 1) := by decide +kernel
theorem d_M_way_8 : decode c_M_way 8 = .ok (.getfield 92, 3) := by decide +kernel
theorem d_M_way_11 : decode c_M_way 11 = .ok (.iconst 1, 1) := by decide +kernel
theorem d_M_way_12 : decode c_M_way 12 = .ok (.isub, 1) := by decide +kernel
theorem d_M_way_13 : decode c_M_way 13 = .ok (.invokestatic 214, 3) := by decide +kernel
theorem d_M_way_16 : decode c_M_way 16 = .ok (.ifCond .eq 26, 3) := by decide +kernel
theorem d_M_way_19 : decode c_M_way 19 = .ok (.iload_n 2, 1) := by decide +kernel
theorem d_M_way_20 : decode c_M_way 20 = .ok (.iconst 0, 1) := by decide +kernel
theorem d_M_way_21 : decode c_M_way 21 = .ok (.aload_n 0, 1) := by decide +kernel
theorem d_M_way_22 : decode c_M_way 22 = .ok (.getfield 95, 3) := by decide +kernel
theorem d_M_way_25 : decode c_M_way 25 = .ok (.iconst 1, 1) := by decide +kernel
theorem d_M_way_26 : decode c_M_way 26 = .ok (.isub, 1) := by decide +kernel
theorem d_M_way_27 : decode c_M_way 27 = .ok (.invokestatic 214, 3) := by decide +kernel
theorem d_M_way_30 : decode c_M_way 30 = .ok (.ifCond .eq 12, 3) := by decide +kernel
theorem d_M_way_33 : decode c_M_way 33 = .ok (.iload_n 3, 1) := by decide +kernel
theorem d_M_way_34 : decode c_M_way 34 = .ok (.iconst 0, 1) := by decide +kernel
theorem d_M_way_35 : decode c_M_way 35 = .ok (.iconst 4, 1) := by decide +kernel
theorem d_M_way_36 : decode c_M_way 36 = .ok (.invokestatic 214, 3) := by decide +kernel
theorem d_M_way_39 : decode c_M_way 39 = .ok (.ifCond .ne 9, 3) := by decide +kernel
theorem d_M_way_42 : decode c_M_way 42 = .ok (.aload_n 0, 1) := by decide +kernel
theorem d_M_way_43 : decode c_M_way 43 = .ok (.iconst 1, 1) := by decide +kernel
theorem d_M_way_44 : decode c_M_way 44 = .ok (.invokevirtual 221, 3) := by decide +kernel
theorem d_M_way_47 : decode c_M_way 47 = .ok (.ireturn, 1) := by decide +kernel
theorem d_M_way_48 : decode c_M_way 48 = .ok (.bipush 8, 2) := by decide +kernel
theorem d_M_way_50 : decode c_M_way 50 = .ok (.iload_n 1, 1) := by decide +kernel
theorem d_M_way_51 : decode c_M_way 51 = .ok (.imul, 1) := by decide +kernel
theorem d_M_way_52 : decode c_M_way 52 = .ok (.iload_n 2, 1) := by decide +kernel
theorem d_M_way_53 : decode c_M_way 53 = .ok (.iadd, 1) := by decide +kernel
theorem d_M_way_54 : decode c_M_way 54 = .ok (.istore 4, 2) := by decide +kernel
theorem d_M_way_56 : decode c_M_way 56 = .ok (.aload_n 0, 1) := by decide +kernel
theorem d_M_way_57 : decode c_M_way 57 = .ok (.getfield 13, 3) := by decide +kernel
theorem d_M_way_60 : decode c_M_way 60 = .ok (.iload 4, 2) := by decide +kernel
theorem d_M_way_62 : decode c_M_way 62 = .ok (.baload, 1) := by decide +kernel
theorem d_M_way_63 : decode c_M_way 63 = .ok (.ifCond .ne 5, 3) := by decide +kernel
theorem d_M_way_66 : decode c_M_way 66 = .ok (.iconst 0, 1) := by decide +kernel
theorem d_M_way_67 : decode c_M_way 67 = .ok (.ireturn, 1) := by decide +kernel
theorem d_M_way_68 : decode c_M_way 68 = .ok (.iload_n 3, 1) := by decide +kernel
theorem d_M_way_69 : decode c_M_way 69 = .ok (.ifCond .ne 13, 3) := by decide +kernel
theorem d_M_way_72 : decode c_M_way 72 = .ok (.aload_n 0, 1) := by decide +kernel
theorem d_M_way_73 : decode c_M_way 73 = .ok (.getfield 17, 3) := by decide +kernel
theorem d_M_way_76 : decode c_M_way 76 = .ok (.iload 4, 2) := by decide +kernel
theorem d_M_way_78 : decode c_M_way 78 = .ok (.iaload, 1) := by decide +kernel
theorem d_M_way_79 : decode c_M_way 79 = .ok (.goto 57, 3) := by decide +kernel
theorem d_M_way_82 : decode c_M_way 82 = .ok (.iload_n 3, 1) := by decide +kernel
theorem d_M_way_83 : decode c_M_way 83 = .ok (.iconst 1, 1) := by decide +kernel
theorem d_M_way_84 : decode c_M_way 84 = .ok (.if_icmp .ne 7, 3) := by decide +kernel
theorem d_M_way_87 : decode c_M_way 87 = .ok (.iconst 1, 1) := by decide +kernel
theorem d_M_way_88 : decode c_M_way 88 = .ok (.goto 48, 3) := by decide +kernel
theorem d_M_way_91 : decode c_M_way 91 = .ok (.iload_n 3, 1) := by decide +kernel
theorem d_M_way_92 : decode c_M_way 92 = .ok (.iconst 2, 1) := by decide +kernel
theorem d_M_way_93 : decode c_M_way 93 = .ok (.if_icmp .ne 13, 3) := by decide +kernel
theorem d_M_way_96 : decode c_M_way 96 = .ok (.aload_n 0, 1) := by decide +kernel
theorem d_M_way_97 : decode c_M_way 97 = .ok (.getfield 21, 3) := by decide +kernel
theorem d_M_way_100 : decode c_M_way 100 = .ok (.iload 4, 2) := by decide +kernel
theorem d_M_way_102 : decode c_M_way 102 = .ok (.iaload, 1) := by decide +kernel
theorem d_M_way_103 : decode c_M_way 103 = .ok (.goto 33, 3) := by decide +kernel
theorem d_M_way_106 : decode c_M_way 106 = .ok (.iload_n 3, 1) := by decide +kernel
theorem d_M_way_107 : decode c_M_way 107 = .ok (.iconst 3, 1) := by decide +kernel
theorem d_M_way_108 : decode c_M_way 108 = .ok (.if_icmp .ne 13, 3) := by decide +kernel
theorem d_M_way_111 : decode c_M_way 111 = .ok (.aload_n 0, 1) := by decide +kernel
theorem d_M_way_112 : decode c_M_way 112 = .ok (.getfield 24, 3) := by decide +kernel
theorem d_M_way_115 : decode c_M_way 115 = .ok (.iload 4, 2) := by decide +kernel
theorem d_M_way_117 : decode c_M_way 117 = .ok (.iaload, 1) := by decide +kernel
theorem d_M_way_118 : decode c_M_way 118 = .ok (.goto 18, 3) := by decide +kernel
theorem d_M_way_121 : decode c_M_way 121 = .ok (.aload_n 0, 1) := by decide +kernel
theorem d_M_way_122 : decode c_M_way 122 = .ok (.getfield 27, 3) := by decide +kernel
theorem d_M_way_125 : decode c_M_way 125 = .ok (.iload 4, 2) := by decide +kernel
theorem d_M_way_127 : decode c_M_way 127 = .ok (.baload, 1) := by decide +kernel
theorem d_M_way_128 : decode c_M_way 128 = .ok (.ifCond .eq 7, 3) := by decide +kernel
theorem d_M_way_131 : decode c_M_way 131 = .ok (.iconst 1, 1) := by decide +kernel
theorem d_M_way_132 : decode c_M_way 132 = .ok (.goto 4, 3) := by decide +kernel
theorem d_M_way_135 : decode c_M_way 135 = .ok (.iconst 0, 1) := by decide +kernel
theorem d_M_way_136 : decode c_M_way 136 = .ok (.ireturn, 1) := by decide +kernel
theorem ey_M_caught : eY y_M_caught 2 = true := by decide +kernel
theorem d_M_caught_0 : decode c_M_caught 0 = .ok (.aload_n 0, 1) := by decide +kernel
theorem d_M_caught_1 : decode c_M_caught 1 = .ok (.iconst 0, 1) := by decide +kernel
theorem d_M_caught_2 : decode c_M_caught 2 = .ok (.putfield 104, 3) := by decide +kernel
theorem d_M_caught_5 : decode c_M_caught 5 = .ok (.iload_n 1, 1) := by decide +kernel
theorem d_M_caught_6 : decode c_M_caught 6 = .ok (.iconst 0, 1) := by decide +kernel
theorem d_M_caught_7 : decode c_M_caught 7 = .ok (.aload_n 0, 1) := by decide +kernel
theorem d_M_caught_8 : decode c_M_caught 8 = .ok (.getfield 114, 3) := by decide +kernel
theorem d_M_caught_11 : decode c_M_caught 11 = .ok (.iconst 1, 1) := by decide +kernel
theorem d_M_caught_12 : decode c_M_caught 12 = .ok (.isub, 1) := by decide +kernel
theorem d_M_caught_13 : decode c_M_caught 13 = .ok (.invokestatic 214, 3) := by decide +kernel
theorem d_M_caught_16 : decode c_M_caught 16 = .ok (.ifCond .eq 12, 3) := by decide +kernel
theorem d_M_caught_19 : decode c_M_caught 19 = .ok (.iload_n 2, 1) := by decide +kernel
theorem d_M_caught_20 : decode c_M_caught 20 = .ok (.iconst 0, 1) := by decide +kernel
theorem d_M_caught_21 : decode c_M_caught 21 = .ok (.iconst 2, 1) := by decide +kernel
theorem d_M_caught_22 : decode c_M_caught 22 = .ok (.invokestatic 214, 3) := by decide +kernel
theorem d_M_caught_25 : decode c_M_caught 25 = .ok (.ifCond .ne 9, 3) := by decide +kernel
theorem d_M_caught_28 : decode c_M_caught 28 = .ok (.aload_n 0, 1) := by decide +kernel
theorem d_M_caught_29 : decode c_M_caught 29 = .ok (.iconst 1, 1) := by decide +kernel
theorem d_M_caught_30 : decode c_M_caught 30 = .ok (.invokevirtual 221, 3) := by decide +kernel
theorem d_M_caught_33 : decode c_M_caught 33 = .ok (.ireturn, 1) := by decide +kernel
theorem d_M_caught_34 : decode c_M_caught 34 = .ok (.iload_n 2, 1) := by decide +kernel
theorem d_M_caught_35 : decode c_M_caught 35 = .ok (.ifCond .ne 12, 3) := by decide +kernel
theorem d_M_caught_38 : decode c_M_caught 38 = .ok (.aload_n 0, 1) := by decide +kernel
theorem d_M_caught_39 : decode c_M_caught 39 = .ok (.getfield 55, 3) := by decide +kernel
theorem d_M_caught_42 : decode c_M_caught 42 = .ok (.iload_n 1, 1) := by decide +kernel
theorem d_M_caught_43 : decode c_M_caught 43 = .ok (.iaload, 1) := by decide +kernel
theorem d_M_caught_44 : decode c_M_caught 44 = .ok (.goto 23, 3) := by decide +kernel
theorem d_M_caught_47 : decode c_M_caught 47 = .ok (.iload_n 2, 1) := by decide +kernel
theorem d_M_caught_48 : decode c_M_caught 48 = .ok (.iconst 1, 1) := by decide +kernel
theorem d_M_caught_49 : decode c_M_caught 49 = .ok (.if_icmp .ne 12, 3) := by decide +kernel
theorem d_M_caught_52 : decode c_M_caught 52 = .ok (.aload_n 0, 1) := by decide +kernel
theorem d_M_caught_53 : decode c_M_caught 53 = .ok (.getfield 58, 3) := by decide +kernel
theorem d_M_caught_56 : decode c_M_caught 56 = .ok (.iload_n 1, 1) := by decide +kernel
theorem d_M_caught_57 : decode c_M_caught 57 = .ok (.iaload, 1) := by decide +kernel
theorem d_M_caught_58 : decode c_M_caught 58 = .ok (.goto 9, 3) := by decide +kernel
theorem d_M_caught_61 : decode c_M_caught 61 = .ok (.aload_n 0, 1) := by decide +kernel
theorem d_M_caught_62 : decode c_M_caught 62 = .ok (.getfield 61, 3) := by decide +kernel
theorem d_M_caught_65 : decode c_M_caught 65 = .ok (.iload_n 1, 1) := by decide +kernel
theorem d_M_caught_66 : decode c_M_caught 66 = .ok (.iaload, 1) := by decide +kernel
theorem d_M_caught_67 : decode c_M_caught 67 = .ok (.ireturn, 1) := by decide +kernel
theorem ey_M_next : eY y_M_next 1 = true := by decide +kernel
theorem d_M_next_0 : decode c_M_next 0 = .ok (.aload_n 0, 1) := by decide +kernel
theorem d_M_next_1 : decode c_M_next 1 = .ok (.iconst 0, 1) := by decide +kernel
theorem d_M_next_2 : decode c_M_next 2 = .ok (.putfield 104, 3) := by decide +kernel
theorem d_M_next_5 : decode c_M_next 5 = .ok (.iload_n 1, 1) := by decide +kernel
theorem d_M_next_6 : decode c_M_next 6 = .ok (.iconst 0, 1) := by decide +kernel
theorem d_M_next_7 : decode c_M_next 7 = .ok (.aload_n 0, 1) := by decide +kernel
theorem d_M_next_8 : decode c_M_next 8 = .ok (.getfield 92, 3) := by decide +kernel
theorem d_M_next_11 : decode c_M_next 11 = .ok (.iconst 1, 1) := by decide +kernel
theorem d_M_next_12 : decode c_M_next 12 = .ok (.isub, 1) := by decide +kernel
theorem d_M_next_13 : decode c_M_next 13 = .ok (.invokestatic 214, 3) := by decide +kernel
theorem d_M_next_16 : decode c_M_next 16 = .ok (.ifCond .ne 9, 3) := by decide +kernel
theorem d_M_next_19 : decode c_M_next 19 = .ok (.aload_n 0, 1) := by decide +kernel
theorem d_M_next_20 : decode c_M_next 20 = .ok (.iconst 1, 1) := by decide +kernel
theorem d_M_next_21 : decode c_M_next 21 = .ok (.invokevirtual 221, 3) := by decide +kernel
theorem d_M_next_24 : decode c_M_next 24 = .ok (.ireturn, 1) := by decide +kernel
theorem d_M_next_25 : decode c_M_next 25 = .ok (.iconst 1, 1) := by decide +kernel
theorem d_M_next_26 : decode c_M_next 26 = .ok (.istore_n 2, 1) := by decide +kernel
theorem d_M_next_27 : decode c_M_next 27 = .ok (.iconst 0, 1) := by decide +kernel
theorem d_M_next_28 : decode c_M_next 28 = .ok (.istore_n 3, 1) := by decide +kernel
theorem d_M_next_29 : decode c_M_next 29 = .ok (.bipush 8, 2) := by decide +kernel
theorem d_M_next_31 : decode c_M_next 31 = .ok (.iload_n 1, 1) := by decide +kernel
theorem d_M_next_32 : decode c_M_next 32 = .ok (.imul, 1) := by decide +kernel
theorem d_M_next_33 : decode c_M_next 33 = .ok (.istore 4, 2) := by decide +kernel
theorem d_M_next_35 : decode c_M_next 35 = .ok (.iload 4, 2) := by decide +kernel
theorem d_M_next_37 : decode c_M_next 37 = .ok (.bipush 8, 2) := by decide +kernel
theorem d_M_next_39 : decode c_M_next 39 = .ok (.iload_n 1, 1) := by decide +kernel
theorem d_M_next_40 : decode c_M_next 40 = .ok (.imul, 1) := by decide +kernel
theorem d_M_next_41 : decode c_M_next 41 = .ok (.aload_n 0, 1) := by decide +kernel
theorem d_M_next_42 : decode c_M_next 42 = .ok (.getfield 95, 3) := by decide +kernel
theorem d_M_next_45 : decode c_M_next 45 = .ok (.iadd, 1) := by decide +kernel
theorem d_M_next_46 : decode c_M_next 46 = .ok (.if_icmp .ge 49, 3) := by decide +kernel
theorem d_M_next_49 : decode c_M_next 49 = .ok (.iload_n 2, 1) := by decide +kernel
theorem d_M_next_50 : decode c_M_next 50 = .ok (.ifCond .eq 17, 3) := by decide +kernel
theorem d_M_next_53 : decode c_M_next 53 = .ok (.aload_n 0, 1) := by decide +kernel
theorem d_M_next_54 : decode c_M_next 54 = .ok (.getfield 13, 3) := by decide +kernel
theorem d_M_next_57 : decode c_M_next 57 = .ok (.iload 4, 2) := by decide +kernel
theorem d_M_next_59 : decode c_M_next 59 = .ok (.baload, 1) := by decide +kernel
theorem d_M_next_60 : decode c_M_next 60 = .ok (.ifCond .eq 7, 3) := by decide +kernel
theorem d_M_next_63 : decode c_M_next 63 = .ok (.iconst 1, 1) := by decide +kernel
theorem d_M_next_64 : decode c_M_next 64 = .ok (.goto 4, 3) := by decide +kernel
theorem d_M_next_67 : decode c_M_next 67 = .ok (.iconst 0, 1) := by decide +kernel
theorem d_M_next_68 : decode c_M_next 68 = .ok (.istore_n 2, 1) := by decide +kernel
theorem d_M_next_69 : decode c_M_next 69 = .ok (.iload_n 3, 1) := by decide +kernel
theorem d_M_next_70 : decode c_M_next 70 = .ok (.ifCond .ne 13, 3) := by decide +kernel
theorem d_M_next_73 : decode c_M_next 73 = .ok (.aload_n 0, 1) := by decide +kernel
theorem d_M_next_74 : decode c_M_next 74 = .ok (.getfield 27, 3) := by decide +kernel
theorem d_M_next_77 : decode c_M_next 77 = .ok (.iload 4, 2) := by decide +kernel
theorem d_M_next_79 : decode c_M_next 79 = .ok (.baload, 1) := by decide +kernel
theorem d_M_next_80 : decode c_M_next 80 = .ok (.ifCond .ne 7, 3) := by decide +kernel
theorem d_M_next_83 : decode c_M_next 83 = .ok (.iconst 1, 1) := by decide +kernel
theorem d_M_next_84 : decode c_M_next 84 = .ok (.goto 4, 3) := by decide +kernel
theorem d_M_next_87 : decode c_M_next 87 = .ok (.iconst 0, 1) := by decide +kernel
theorem d_M_next_88 : decode c_M_next 88 = .ok (.istore_n 3, 1) := by decide +kernel
theorem d_M_next_89 : decode c_M_next 89 = .ok (.iinc 4 1, 3) := by decide +kernel
theorem d_M_next_92 : decode c_M_next 92 = .ok (.goto (-57), 3) := by decide +kernel
theorem d_M_next_95 : decode c_M_next 95 = .ok (.iload_n 2, 1) := by decide +kernel
theorem d_M_next_96 : decode c_M_next 96 = .ok (.ifCond .eq 24, 3) := by decide +kernel
theorem d_M_next_99 : decode c_M_next 99 = .ok (.iload_n 3, 1) := by decide +kernel
theorem d_M_next_100 : decode c_M_next 100 = .ok (.ifCond .eq 20, 3) := by decide +kernel
theorem d_M_next_103 : decode c_M_next 103 = .ok (.aload_n 0, 1) := by decide +kernel
theorem d_M_next_104 : decode c_M_next 104 = .ok (.bipush 8, 2) := by decide +kernel
theorem d_M_next_106 : decode c_M_next 106 = .ok (.iload_n 1, 1) := by decide +kernel
theorem d_M_next_107 : decode c_M_next 107 = .ok (.imul, 1) := by decide +kernel
theorem d_M_next_108 : decode c_M_next 108 = .ok (.iconst 0, 1) := by decide +kernel
theorem d_M_next_109 : decode c_M_next 109 = .ok (.invokevirtual 166, 3) := by decide +kernel
theorem d_M_next_112 : decode c_M_next 112 = .ok (.bipush 8, 2) := by decide +kernel
theorem d_M_next_114 : decode c_M_next 114 = .ok (.iload_n 1, 1) := by decide +kernel
theorem d_M_next_115 : decode c_M_next 115 = .ok (.imul, 1) := by decide +kernel
theorem d_M_next_116 : decode c_M_next 116 = .ok (.isub, 1) := by decide +kernel
theorem d_M_next_117 : decode c_M_next 117 = .ok (.goto 4, 3) := by decide +kernel
theorem d_M_next_120 : decode c_M_next 120 = .ok (.iconst (-1), 1) := by decide +kernel
theorem d_M_next_121 : decode c_M_next 121 = .ok (.ireturn, 1) := by decide +kernel
theorem ey_M_misses : eY y_M_misses 1 = true := by decide +kernel
theorem d_M_misses_0 : decode c_M_misses 0 = .ok (.aload_n 0, 1) := by decide +kernel
theorem d_M_misses_1 : decode c_M_misses 1 = .ok (.iconst 0, 1) := by decide +kernel
theorem d_M_misses_2 : decode c_M_misses 2 = .ok (.putfield 104, 3) := by decide +kernel
theorem d_M_misses_5 : decode c_M_misses 5 = .ok (.iload_n 1, 1) := by decide +kernel
theorem d_M_misses_6 : decode c_M_misses 6 = .ok (.iconst 1, 1) := by decide +kernel
theorem d_M_misses_7 : decode c_M_misses 7 = .ok (.bipush 64, 2) := by decide +kernel
theorem d_M_misses_9 : decode c_M_misses 9 = .ok (.invokestatic 214, 3) := by decide +kernel
theorem d_M_misses_12 : decode c_M_misses 12 = .ok (.ifCond .ne 9, 3) := by decide +kernel
theorem d_M_misses_15 : decode c_M_misses 15 = .ok (.aload_n 0, 1) := by decide +kernel
theorem d_M_misses_16 : decode c_M_misses 16 = .ok (.iconst 1, 1) := by decide +kernel
theorem d_M_misses_17 : decode c_M_misses 17 = .ok (.invokevirtual 221, 3) := by decide +kernel
theorem d_M_misses_20 : decode c_M_misses 20 = .ok (.ireturn, 1) := by decide +kernel
theorem d_M_misses_21 : decode c_M_misses 21 = .ok (.iconst 0, 1) := by decide +kernel
theorem d_M_misses_22 : decode c_M_misses 22 = .ok (.istore_n 2, 1) := by decide +kernel
theorem d_M_misses_23 : decode c_M_misses 23 = .ok (.iload_n 1, 1) := by decide +kernel
theorem d_M_misses_24 : decode c_M_misses 24 = .ok (.istore_n 3, 1) := by decide +kernel
theorem d_M_misses_25 : decode c_M_misses 25 = .ok (.iload_n 3, 1) := by decide +kernel
theorem d_M_misses_26 : decode c_M_misses 26 = .ok (.bipush 64, 2) := by decide +kernel
theorem d_M_misses_28 : decode c_M_misses 28 = .ok (.if_icmp .gt 18, 3) := by decide +kernel
theorem d_M_misses_31 : decode c_M_misses 31 = .ok (.iload_n 2, 1) := by decide +kernel
theorem d_M_misses_32 : decode c_M_misses 32 = .ok (.aload_n 0, 1) := by decide +kernel
theorem d_M_misses_33 : decode c_M_misses 33 = .ok (.getfield 79, 3) := by decide +kernel
theorem d_M_misses_36 : decode c_M_misses 36 = .ok (.iload_n 3, 1) := by decide +kernel
theorem d_M_misses_37 : decode c_M_misses 37 = .ok (.iaload, 1) := by decide +kernel
theorem d_M_misses_38 : decode c_M_misses 38 = .ok (.iadd, 1) := by decide +kernel
theorem d_M_misses_39 : decode c_M_misses 39 = .ok (.istore_n 2, 1) := by decide +kernel
theorem d_M_misses_40 : decode c_M_misses 40 = .ok (.iinc 3 1, 3) := by decide +kernel
theorem d_M_misses_43 : decode c_M_misses 43 = .ok (.goto (-18), 3) := by decide +kernel
theorem d_M_misses_46 : decode c_M_misses 46 = .ok (.iload_n 2, 1) := by decide +kernel
theorem d_M_misses_47 : decode c_M_misses 47 = .ok (.ireturn, 1) := by decide +kernel
theorem ey_M_distance : eY y_M_distance 1 = true := by decide +kernel
theorem d_M_distance_0 : decode c_M_distance 0 = .ok (.aload_n 0, 1) := by decide +kernel
theorem d_M_distance_1 : decode c_M_distance 1 = .ok (.iconst 0, 1) := by decide +kernel
theorem d_M_distance_2 : decode c_M_distance 2 = .ok (.putfield 104, 3) := by decide +kernel
theorem d_M_distance_5 : decode c_M_distance 5 = .ok (.aload_n 0, 1) := by decide +kernel
theorem d_M_distance_6 : decode c_M_distance 6 = .ok (.iload_n 1, 1) := by decide +kernel
theorem d_M_distance_7 : decode c_M_distance 7 = .ok (.invokevirtual 179, 3) := by decide +kernel
theorem d_M_distance_10 : decode c_M_distance 10 = .ok (.ireturn, 1) := by decide +kernel
theorem ey_M_count : eY y_M_count 1 = true := by decide +kernel
theorem d_M_count_0 : decode c_M_count 0 = .ok (.aload_n 0, 1) := by decide +kernel
theorem d_M_count_1 : decode c_M_count 1 = .ok (.iconst 0, 1) := by decide +kernel
theorem d_M_count_2 : decode c_M_count 2 = .ok (.putfield 104, 3) := by decide +kernel
theorem d_M_count_5 : decode c_M_count 5 = .ok (.iload_n 1, 1) := by decide +kernel
theorem d_M_count_6 : decode c_M_count 6 = .ok (.iconst 0, 1) := by decide +kernel
theorem d_M_count_7 : decode c_M_count 7 = .ok (.bipush 13, 2) := by decide +kernel
theorem d_M_count_9 : decode c_M_count 9 = .ok (.invokestatic 214, 3) := by decide +kernel
theorem d_M_count_12 : decode c_M_count 12 = .ok (.ifCond .ne 5, 3) := by decide +kernel
theorem d_M_count_15 : decode c_M_count 15 = .ok (.iconst (-1), 1) := by decide +kernel
theorem d_M_count_16 : decode c_M_count 16 = .ok (.ireturn, 1) := by decide +kernel
theorem d_M_count_17 : decode c_M_count 17 = .ok (.iload_n 1, 1) := by decide +kernel
theorem d_M_count_18 : decode c_M_count 18 = .ok (.bipush 9, 2) := by decide +kernel
theorem d_M_count_20 : decode c_M_count 20 = .ok (.if_icmp .ge 12, 3) := by decide +kernel
theorem d_M_count_23 : decode c_M_count 23 = .ok (.aload_n 0, 1) := by decide +kernel
theorem d_M_count_24 : decode c_M_count 24 = .ok (.getfield 82, 3) := by decide +kernel
theorem d_M_count_27 : decode c_M_count 27 = .ok (.iload_n 1, 1) := by decide +kernel
theorem d_M_count_28 : decode c_M_count 28 = .ok (.iaload, 1) := by decide +kernel
theorem d_M_count_29 : decode c_M_count 29 = .ok (.goto 59, 3) := by decide +kernel
theorem d_M_count_32 : decode c_M_count 32 = .ok (.iload_n 1, 1) := by decide +kernel
theorem d_M_count_33 : decode c_M_count 33 = .ok (.bipush 9, 2) := by decide +kernel
theorem d_M_count_35 : decode c_M_count 35 = .ok (.if_icmp .ne 10, 3) := by decide +kernel
theorem d_M_count_38 : decode c_M_count 38 = .ok (.aload_n 0, 1) := by decide +kernel
theorem d_M_count_39 : decode c_M_count 39 = .ok (.getfield 114, 3) := by decide +kernel
theorem d_M_count_42 : decode c_M_count 42 = .ok (.goto 46, 3) := by decide +kernel
theorem d_M_count_45 : decode c_M_count 45 = .ok (.iload_n 1, 1) := by decide +kernel
theorem d_M_count_46 : decode c_M_count 46 = .ok (.bipush 10, 2) := by decide +kernel
theorem d_M_count_48 : decode c_M_count 48 = .ok (.if_icmp .ne 10, 3) := by decide +kernel
theorem d_M_count_51 : decode c_M_count 51 = .ok (.aload_n 0, 1) := by decide +kernel
theorem d_M_count_52 : decode c_M_count 52 = .ok (.getfield 224, 3) := by decide +kernel
theorem d_M_count_55 : decode c_M_count 55 = .ok (.goto 33, 3) := by decide +kernel
theorem d_M_count_58 : decode c_M_count 58 = .ok (.iload_n 1, 1) := by decide +kernel
theorem d_M_count_59 : decode c_M_count 59 = .ok (.bipush 11, 2) := by decide +kernel
theorem d_M_count_61 : decode c_M_count 61 = .ok (.if_icmp .ne 10, 3) := by decide +kernel
theorem d_M_count_64 : decode c_M_count 64 = .ok (.aload_n 0, 1) := by decide +kernel
theorem d_M_count_65 : decode c_M_count 65 = .ok (.invokevirtual 227, 3) := by decide +kernel
theorem d_M_count_68 : decode c_M_count 68 = .ok (.goto 20, 3) := by decide +kernel
theorem d_M_count_71 : decode c_M_count 71 = .ok (.iload_n 1, 1) := by decide +kernel
theorem d_M_count_72 : decode c_M_count 72 = .ok (.bipush 12, 2) := by decide +kernel
theorem d_M_count_74 : decode c_M_count 74 = .ok (.if_icmp .ne 10, 3) := by decide +kernel
theorem d_M_count_77 : decode c_M_count 77 = .ok (.aload_n 0, 1) := by decide +kernel
theorem d_M_count_78 : decode c_M_count 78 = .ok (.getfield 92, 3) := by decide +kernel
theorem d_M_count_81 : decode c_M_count 81 = .ok (.goto 7, 3) := by decide +kernel
theorem d_M_count_84 : decode c_M_count 84 = .ok (.aload_n 0, 1) := by decide +kernel
theorem d_M_count_85 : decode c_M_count 85 = .ok (.getfield 95, 3) := by decide +kernel
theorem d_M_count_88 : decode c_M_count 88 = .ok (.ireturn, 1) := by decide +kernel
def nnB (P : Nat → Bool) : Bool → Nat → Nat → Bool
  | b, _, 0 => b
  | b, k, q + 1 => nnB P (b && !P k) (k + 1) q
theorem nnB_f (P : Nat → Bool) : ∀ k q, nnB P false k q = false
  | _, 0 => rfl
  | k, q + 1 => by rw [nnB, Bool.false_and]; exact nnB_f P (k + 1) q
theorem nnB_t (P : Nat → Bool) : ∀ k q, nnB P true k q = (fst1 P k q).isNone
  | _, 0 => rfl
  | k, q + 1 => by
    rw [nnB, fst1, Bool.true_and]
    by_cases h : P k = true
    · rw [if_pos h, h]
      exact nnB_f P _ _
    · have h : P k = false := by simpa using h
      rw [if_neg (by rw [h]; decide), h]
      exact nnB_t P (k + 1) q
/-- the k-th ask is the first of its line -/
def frB (g : Nat → Int32) (k : Nat) : Bool := (fst1 (fun i => g i == g k) 0 k).isNone
/-- how many lines -/
def lnN (g : Nat → Int32) : Nat → Nat
  | 0 => 0
  | k + 1 => lnN g k + (if frB g k then 1 else 0)
theorem lnN_le (g : Nat → Int32) : ∀ k, lnN g k ≤ k
  | 0 => Nat.le_refl _
  | k + 1 => by
    have := lnN_le g k
    unfold lnN
    split <;> omega
theorem within_t {p lo hi : Nat} (h1 : lo ≤ p) (h2 : p ≤ hi) (h3 : hi < 2 ^ 31) : (!decide (nI p < nI lo) && !decide (nI hi < nI p)) = true := by
  simp only [Bool.and_eq_true, Bool.not_eq_true', decide_eq_false_iff_not, nI_ltI (show p < 2 ^ 31 by omega) (show lo < 2 ^ 31 by omega), nI_ltI (show hi < 2 ^ 31 by omega) (show p < 2 ^ 31 by omega)]
  omega
/-- not within 0 .. n - 1 -/
def OUT (x : Int32) (n : Nat) : Prop := x < 0 ∨ ¬ x < nI n
theorem within_f {x : Int32} {n : Nat} (hn : n < 2 ^ 30) (h : OUT x n) : (!decide (x < 0) && !decide (nI n - 1 < x)) = false := by
  rw [Bool.and_eq_false_iff]
  rcases h with h | h
  · left
    simp [h]
  · right
    simp only [Bool.not_eq_false', decide_eq_true_eq]
    rw [Int32.lt_iff_toInt_lt] at h ⊢
    rw [nI_toInt (by omega)] at h
    cases n with
    | zero =>
      have : (nI 0 - 1).toInt = -1 := by decide
      omega
    | succ n =>
      rw [nI_pred, nI_toInt (by omega)]
      omega
theorem within_tn {p n : Nat} (h : p < n) (hn : n < 2 ^ 30) : (!decide (nI p < 0) && !decide (nI n - 1 < nI p)) = true := by
  obtain ⟨k, rfl⟩ : ∃ k, n = k + 1 := ⟨n - 1, by omega⟩
  rw [nI_pred]
  exact within_t (lo := 0) (by omega) (by omega) (by omega)
section M6
variable {l : Launch} {G : EG} {a : Nat → Nat} {m : CS} {S wd V kd s w z : Nat} {ws : va_W}
set_option maxRecDepth 100000 in
theorem k_M_lines {n : Nat} (hn : m.1 25 = nI n) (hn16 : n ≤ 16) : Con l G y_M_lines c_M_lines 5 (some .int) (rz 0 0) [.ref (a 40)] (mF G a m.1 m.2) (DI (nI (lnN (m.2 26) n)) (mF G a m.1 m.2)) := by
  refine Con.of rfl rfl (fun X C E hR hl hnm => ?_)
  refine e_iconst C d_M_lines_0 (v := 0) (by decide) ?_
  refine e_istore_n C d_M_lines_1 rfl ?_
  refine e_iconst C d_M_lines_2 (v := 0) (by decide) ?_
  refine e_istore_n C d_M_lines_3 rfl ?_
  have L : ∀ (q k : Nat), k + q = n → EW X G 5 0 0 4 [(0, .ref (a 40)), (1, .int (nI (lnN (m.2 26) k))), (2, .int (nI k))] [] (mF G a m.1 m.2) := by
    intro q
    induction q with
    | zero =>
      intro k hk
      obtain rfl : k = n := by omega
      refine e_iload_n C d_M_lines_4 rfl ?_
      refine e_aload_n C d_M_lines_5 rfl ?_
      refine e_get C 0 (k := 25) in_M g769 d_M_lines_6 rfl rfl rfl rfl ?_
      refine e_top hn ?_
      refine e_icmp_ge C d_M_lines_9 (tgt := 73) (by decide) (fun h9 => ?_) (fun h9 => ?_)
      · skip
        refine e_iload_n C d_M_lines_73 rfl ?_
        exact e_iret C E d_M_lines_74 (Nat.le_refl _) (Nat.le_refl _) rfl ⟨rfl, rfl⟩
      · exact absurd (nI_le (by omega) (by omega)) h9
    | succ q ih =>
      intro k hk
      have hle := lnN_le (m.2 26) k
      have ih := ih (k + 1) (by omega)
      refine e_iload_n C d_M_lines_4 rfl ?_
      refine e_aload_n C d_M_lines_5 rfl ?_
      refine e_get C 0 (k := 25) in_M g769 d_M_lines_6 rfl rfl rfl rfl ?_
      refine e_top hn ?_
      refine e_icmp_ge C d_M_lines_9 (tgt := 73) (by decide) (fun h9 => ?_) (fun h9 => ?_)
      · exact absurd h9 (nI_ge (by omega) (by omega))
      · skip
        refine e_iconst C d_M_lines_12 (v := 1) (by decide) ?_
        refine e_istore_n C d_M_lines_13 rfl ?_
        refine e_iconst C d_M_lines_14 (v := 0) (by decide) ?_
        refine e_istore C d_M_lines_15 rfl ?_
        have L2 : ∀ (q i : Nat) (b : Bool), i + q = k → nnB (fun i => m.2 26 i == m.2 26 k) b i q = nnB (fun i => m.2 26 i == m.2 26 k) true 0 k → EW X G 5 0 0 17 [(0, .ref (a 40)), (1, .int (nI (lnN (m.2 26) k))), (2, .int (nI k)), (3, .int (bI b)), (4, .int (nI i))] [] (mF G a m.1 m.2) := by
          intro q
          induction q with
          | zero =>
            intro i b hi hf
            have hf : b = _ := hf
            rw [nnB_t] at hf
            refine e_iload C d_M_lines_17 rfl ?_
            refine e_iload_n C d_M_lines_19 rfl ?_
            refine e_icmp_ge C d_M_lines_20 (tgt := 55) (by decide) (fun h20 => ?_) (fun h20 => ?_)
            · skip
              refine e_iload_n C d_M_lines_55 rfl ?_
              refine e_iload_n C d_M_lines_56 rfl ?_
              refine e_if_eq C d_M_lines_57 (tgt := 64) (by decide) (fun h57 => ?_) (fun h57 => ?_)
              · rw [bI_0] at h57
                rw [lnN, if_neg (show ¬ frB (m.2 26) k = true by unfold frB; rw [← hf, h57]; decide)] at ih
                refine e_iconst C d_M_lines_64 (v := 0) (by decide) ?_
                refine e_iadd C d_M_lines_65 ?_
                refine e_top (y := nI (lnN (m.2 26) k + 0)) (by rw [Int32.add_zero]; rfl) ?_
                refine e_istore_n C d_M_lines_66 rfl ?_
                refine e_iinc C d_M_lines_67 rfl (nI_1 k) rfl ?_
                refine e_goto C d_M_lines_70 (tgt := 4) (by decide) ?_
                exact e_lv2 ih rfl
              · rw [bI_n] at h57
                rw [lnN, if_pos (show frB (m.2 26) k = true by unfold frB; rw [← hf, h57])] at ih
                refine e_iconst C d_M_lines_60 (v := 1) (by decide) ?_
                refine e_goto C d_M_lines_61 (tgt := 65) (by decide) ?_
                refine e_iadd C d_M_lines_65 ?_
                refine e_top (nI_1 _) ?_
                refine e_istore_n C d_M_lines_66 rfl ?_
                refine e_iinc C d_M_lines_67 rfl (nI_1 k) rfl ?_
                refine e_goto C d_M_lines_70 (tgt := 4) (by decide) ?_
                exact e_lv2 ih rfl
            · exact absurd (nI_le (by omega) (by omega)) h20
          | succ q ih2 =>
            intro i b hi hf
            rw [nnB] at hf
            refine e_iload C d_M_lines_17 rfl ?_
            refine e_iload_n C d_M_lines_19 rfl ?_
            refine e_icmp_ge C d_M_lines_20 (tgt := 55) (by decide) (fun h20 => ?_) (fun h20 => ?_)
            · exact absurd h20 (nI_ge (by omega) (by omega))
            · skip
              refine e_iload_n C d_M_lines_23 rfl ?_
              refine e_if_eq C d_M_lines_24 (tgt := 47) (by decide) (fun h24 => ?_) (fun h24 => ?_)
              · rw [bI_0] at h24
                subst h24
                rw [Bool.false_and] at hf
                refine e_iconst C d_M_lines_47 (v := 0) (by decide) ?_
                refine e_istore_n C d_M_lines_48 rfl ?_
                refine e_iinc C d_M_lines_49 rfl (nI_1 i) rfl ?_
                refine e_goto C d_M_lines_52 (tgt := 17) (by decide) ?_
                exact e_lv2 (ih2 (i + 1) false (by omega) hf) rfl
              · rw [bI_n] at h24
                subst h24
                rw [Bool.true_and] at hf
                refine e_aload_n C d_M_lines_27 rfl ?_
                refine e_get C 0 (k := 26) in_M g770 d_M_lines_28 rfl rfl rfl rfl ?_
                refine e_iload C d_M_lines_31 rfl ?_
                refine e_iald C 16 0 d_M_lines_33 rfl rfl i rfl (by omega) (by omega) ?_
                refine e_aload_n C d_M_lines_34 rfl ?_
                refine e_get C 0 (k := 26) in_M g770 d_M_lines_35 rfl rfl rfl rfl ?_
                refine e_iload_n C d_M_lines_38 rfl ?_
                refine e_iald C 16 0 d_M_lines_39 rfl rfl k rfl (by omega) (by omega) ?_
                refine e_icmp_eq C d_M_lines_40 (tgt := 47) (by decide) (fun h40 => ?_) (fun h40 => ?_)
                · rw [show (m.2 26 i == m.2 26 k) = true by simp; exact h40] at hf
                  refine e_iconst C d_M_lines_47 (v := 0) (by decide) ?_
                  refine e_istore_n C d_M_lines_48 rfl ?_
                  refine e_iinc C d_M_lines_49 rfl (nI_1 i) rfl ?_
                  refine e_goto C d_M_lines_52 (tgt := 17) (by decide) ?_
                  exact e_lv2 (ih2 (i + 1) false (by omega) hf) rfl
                · rw [show (m.2 26 i == m.2 26 k) = false by simp; exact h40] at hf
                  refine e_iconst C d_M_lines_43 (v := 1) (by decide) ?_
                  refine e_goto C d_M_lines_44 (tgt := 48) (by decide) ?_
                  refine e_istore_n C d_M_lines_48 rfl ?_
                  refine e_iinc C d_M_lines_49 rfl (nI_1 i) rfl ?_
                  refine e_goto C d_M_lines_52 (tgt := 17) (by decide) ?_
                  exact e_lv2 (ih2 (i + 1) true (by omega) hf) rfl
        exact e_lv2 (L2 k 0 true (by omega) rfl) rfl
  exact e_lv2 (L n 0 (by omega)) rfl
theorem k_M_distance {hs : Nat} (hh : m.1 31 = nI hs) (hs64 : hs ≤ 64) (x : Int32) : Con l G y_M_distance c_M_distance 2 (some .int) (rz 1 23) [.ref (a 40), .int x] (mF G a m.1 m.2) (DI (oI (dsM m.2 hs x)) (mF G a (th0 m).1 (th0 m).2)) := by
  refine Con.of rfl rfl (fun X C E hR hl hnm => ?_)
  refine e_aload_n C d_M_distance_0 rfl ?_
  refine e_iconst C d_M_distance_1 (v := 0) (by decide) ?_
  refine e_put C 0 (k := 0) in_M tk_M nm_M g744 d_M_distance_2 rfl rfl rfl rfl rfl rfl rfl rfl ?_
  refine e_eq (ws' := mF G a (th0 m).1 (th0 m).2) rfl ?_
  refine e_aload_n C d_M_distance_5 rfl ?_
  refine e_iload_n C d_M_distance_6 rfl ?_
  refine e_cVi C hR 0 (k_M_distanceOf (m := th0 m) hh hs64 x) g891 g14 g888 g890 (gt_sel 16 (by decide +kernel) (by decide +kernel)) d_M_distance_7 rfl ey_M_distanceOf rfl rfl rfl rfl ⟨Nat.zero_le _, Nat.zero_le _⟩ ?_
  exact e_iret C E d_M_distance_10 (Nat.le_refl _) (Nat.le_refl _) rfl ⟨rfl, rfl⟩
theorem k_M_misses1 {q : Int32} (hq : q < 1 ∨ 64 < q) : Con l G y_M_misses c_M_misses 4 (some .int) (rz 1 22) [.ref (a 40), .int q] (mF G a m.1 m.2) (DI 0 (mF G a (upd (th0 m).1 0 1) m.2)) := by
  refine Con.of rfl rfl (fun X C E hR hl hnm => ?_)
  refine e_aload_n C d_M_misses_0 rfl ?_
  refine e_iconst C d_M_misses_1 (v := 0) (by decide) ?_
  refine e_put C 0 (k := 0) in_M tk_M nm_M g744 d_M_misses_2 rfl rfl rfl rfl rfl rfl rfl rfl ?_
  refine e_eq (ws' := mF G a (th0 m).1 (th0 m).2) rfl ?_
  refine e_iload_n C d_M_misses_5 rfl ?_
  refine e_iconst C d_M_misses_6 (v := 1) (by decide) ?_
  refine e_bipush C d_M_misses_7 (v := 64) (by decide) ?_
  refine e_cSi C hR (k_M_within _ _ _) g867 g14 g865 g866 d_M_misses_9 rfl ey_M_within rfl rfl ⟨Nat.zero_le _, Nat.zero_le _⟩ ?_
  refine e_if_ne C d_M_misses_12 (tgt := 21) (by decide) (fun h12 => ?_) (fun h12 => ?_)
  · rw [bI_n] at h12
    simp only [Bool.and_eq_true, Bool.not_eq_true', decide_eq_false_iff_not] at h12
    rcases hq with h | h
    · exact absurd h h12.1
    · exact absurd h h12.2
  · skip
    refine e_aload_n C d_M_misses_15 rfl ?_
    refine e_iconst C d_M_misses_16 (v := 1) (by decide) ?_
    refine e_cVi C hR 0 (k_M_fail 1) g985 g14 g982 g984 (gt_sel 38 (by decide +kernel) (by decide +kernel)) d_M_misses_17 rfl ey_M_fail rfl rfl rfl rfl ⟨Nat.zero_le _, Nat.zero_le _⟩ ?_
    exact e_iret C E d_M_misses_20 (Nat.le_refl _) (Nat.le_refl _) rfl ⟨rfl, rfl⟩
set_option maxRecDepth 100000 in
theorem k_M_misses {q : Nat} (h1q : 1 ≤ q) (hq : q ≤ 64) : Con l G y_M_misses c_M_misses 4 (some .int) (rz 1 22) [.ref (a 40), .int (nI q)] (mF G a m.1 m.2) (DI (accF (m.2 33) 0 q (65 - q)) (mF G a (th0 m).1 (th0 m).2)) := by
  refine Con.of rfl rfl (fun X C E hR hl hnm => ?_)
  refine e_aload_n C d_M_misses_0 rfl ?_
  refine e_iconst C d_M_misses_1 (v := 0) (by decide) ?_
  refine e_put C 0 (k := 0) in_M tk_M nm_M g744 d_M_misses_2 rfl rfl rfl rfl rfl rfl rfl rfl ?_
  refine e_eq (ws' := mF G a (th0 m).1 (th0 m).2) rfl ?_
  refine e_iload_n C d_M_misses_5 rfl ?_
  refine e_iconst C d_M_misses_6 (v := nI 1) (by decide) ?_
  refine e_bipush C d_M_misses_7 (v := nI 64) (by decide) ?_
  refine e_cSi C hR (k_M_within _ _ _) g867 g14 g865 g866 d_M_misses_9 rfl ey_M_within rfl rfl ⟨Nat.zero_le _, Nat.zero_le _⟩ ?_
  refine e_if_ne C d_M_misses_12 (tgt := 21) (by decide) (fun h12 => ?_) (fun h12 => ?_)
  · skip
    refine e_iconst C d_M_misses_21 (v := 0) (by decide) ?_
    refine e_istore_n C d_M_misses_22 rfl ?_
    refine e_iload_n C d_M_misses_23 rfl ?_
    refine e_istore_n C d_M_misses_24 rfl ?_
    have L : ∀ (t k : Nat) (y : Int32), k + t = 65 → accF (m.2 33) y k t = accF (m.2 33) 0 q (65 - q) → EW X G 4 0 0 25 [(0, .ref (a 40)), (2, .int y), (3, .int (nI k))] [] (mF G a (th0 m).1 (th0 m).2) := by
      intro t
      induction t with
      | zero =>
        intro k y hk hf
        have hf : y = _ := hf
        rw [← hf] at E
        refine e_iload_n C d_M_misses_25 rfl ?_
        refine e_bipush C d_M_misses_26 (v := nI 64) (by decide) ?_
        refine e_icmp_gt C d_M_misses_28 (tgt := 46) (by decide) (fun h28 => ?_) (fun h28 => ?_)
        · skip
          refine e_iload_n C d_M_misses_46 rfl ?_
          exact e_iret C E d_M_misses_47 (Nat.le_refl _) (Nat.le_refl _) rfl ⟨rfl, rfl⟩
        · exact absurd (nI_lt (by omega) (by omega)) h28
      | succ t ih =>
        intro k y hk hf
        refine e_iload_n C d_M_misses_25 rfl ?_
        refine e_bipush C d_M_misses_26 (v := nI 64) (by decide) ?_
        refine e_icmp_gt C d_M_misses_28 (tgt := 46) (by decide) (fun h28 => ?_) (fun h28 => ?_)
        · rw [nI_ltI (by omega) (by omega)] at h28
          omega
        · skip
          refine e_iload_n C d_M_misses_31 rfl ?_
          refine e_aload_n C d_M_misses_32 rfl ?_
          refine e_get C 0 (k := 33) in_M g777 d_M_misses_33 rfl rfl rfl rfl ?_
          refine e_iload_n C d_M_misses_36 rfl ?_
          refine e_iald C 21 0 d_M_misses_37 rfl rfl k rfl (by omega) (by omega) ?_
          refine e_iadd C d_M_misses_38 ?_
          refine e_istore_n C d_M_misses_39 rfl ?_
          refine e_iinc C d_M_misses_40 rfl (nI_1 k) rfl ?_
          refine e_goto C d_M_misses_43 (tgt := 25) (by decide) ?_
          exact e_lv2 (ih (k + 1) _ (by omega) hf) rfl
    exact e_lv2 (L (65 - q) q 0 (by omega) rfl) rfl
  · rw [bI_0, within_t h1q hq (by omega)] at h12
    cases h12
def ct2 (m : CS) (q : Nat) : Int32 := match q with
  | 9 => m.1 21
  | 10 => m.1 25
  | 11 => nI (lnN (m.2 26) (m.1 25).toNatClampNeg)
  | 12 => m.1 1
  | 13 => m.1 2
  | k => m.2 34 k
theorem k_M_count0 {q : Int32} (hq : q < 0 ∨ 13 < q) : Con l G y_M_count c_M_count 2 (some .int) (rz 1 24) [.ref (a 40), .int q] (mF G a m.1 m.2) (DI (-1) (mF G a (th0 m).1 (th0 m).2)) := by
  refine Con.of rfl rfl (fun X C E hR hl hnm => ?_)
  refine e_aload_n C d_M_count_0 rfl ?_
  refine e_iconst C d_M_count_1 (v := 0) (by decide) ?_
  refine e_put C 0 (k := 0) in_M tk_M nm_M g744 d_M_count_2 rfl rfl rfl rfl rfl rfl rfl rfl ?_
  refine e_eq (ws' := mF G a (th0 m).1 (th0 m).2) rfl ?_
  refine e_iload_n C d_M_count_5 rfl ?_
  refine e_iconst C d_M_count_6 (v := 0) (by decide) ?_
  refine e_bipush C d_M_count_7 (v := 13) (by decide) ?_
  refine e_cSi C hR (k_M_within _ _ _) g867 g14 g865 g866 d_M_count_9 rfl ey_M_within rfl rfl ⟨Nat.zero_le _, Nat.zero_le _⟩ ?_
  refine e_if_ne C d_M_count_12 (tgt := 17) (by decide) (fun h12 => ?_) (fun h12 => ?_)
  · rw [bI_n] at h12
    simp only [Bool.and_eq_true, Bool.not_eq_true', decide_eq_false_iff_not] at h12
    rcases hq with h | h
    · exact absurd h h12.1
    · exact absurd h h12.2
  · skip
    refine e_iconst C d_M_count_15 (v := (-1)) (by decide) ?_
    exact e_iret C E d_M_count_16 (Nat.le_refl _) (Nat.le_refl _) rfl ⟨rfl, rfl⟩
set_option maxRecDepth 100000 in
theorem k_M_count {n : Nat} (hn : m.1 25 = nI n) (hn16 : n ≤ 16) {q : Nat} (hq : q < 14) : Con l G y_M_count c_M_count 2 (some .int) (rz 1 24) [.ref (a 40), .int (nI q)] (mF G a m.1 m.2) (DI (ct2 m q) (mF G a (th0 m).1 (th0 m).2)) := by
  refine Con.of rfl rfl (fun X C E hR hl hnm => ?_)
  refine e_aload_n C d_M_count_0 rfl ?_
  refine e_iconst C d_M_count_1 (v := 0) (by decide) ?_
  refine e_put C 0 (k := 0) in_M tk_M nm_M g744 d_M_count_2 rfl rfl rfl rfl rfl rfl rfl rfl ?_
  refine e_eq (ws' := mF G a (th0 m).1 (th0 m).2) rfl ?_
  refine e_iload_n C d_M_count_5 rfl ?_
  refine e_iconst C d_M_count_6 (v := nI 0) (by decide) ?_
  refine e_bipush C d_M_count_7 (v := nI 13) (by decide) ?_
  refine e_cSi C hR (k_M_within _ _ _) g867 g14 g865 g866 d_M_count_9 rfl ey_M_within rfl rfl ⟨Nat.zero_le _, Nat.zero_le _⟩ ?_
  refine e_if_ne C d_M_count_12 (tgt := 17) (by decide) (fun h12 => ?_) (fun h12 => ?_)
  · skip
    refine e_iload_n C d_M_count_17 rfl ?_
    refine e_bipush C d_M_count_18 (v := nI 9) (by decide) ?_
    refine e_icmp_ge C d_M_count_20 (tgt := 32) (by decide) (fun h20 => ?_) (fun h20 => ?_)
    · rw [nI_leI (by omega) (by omega)] at h20
      rcases (by omega : q = 9 ∨ q = 10 ∨ q = 11 ∨ q = 12 ∨ q = 13) with rfl | rfl | rfl | rfl | rfl
      · skip
        refine e_iload_n C d_M_count_32 rfl ?_
        refine e_bipush C d_M_count_33 (v := 9) (by decide) ?_
        refine e_icmp_ne C d_M_count_35 (tgt := 45) (by decide) (fun h35 => ?_) (fun h35 => ?_)
        · exact absurd (by decide) h35
        · skip
          refine e_aload_n C d_M_count_38 rfl ?_
          refine e_get C 0 (k := 21) in_M g765 d_M_count_39 rfl rfl rfl rfl ?_
          refine e_goto C d_M_count_42 (tgt := 88) (by decide) ?_
          exact e_iret C E d_M_count_88 (Nat.le_refl _) (Nat.le_refl _) rfl ⟨rfl, rfl⟩
      · skip
        refine e_iload_n C d_M_count_32 rfl ?_
        refine e_bipush C d_M_count_33 (v := 9) (by decide) ?_
        refine e_icmp_ne C d_M_count_35 (tgt := 45) (by decide) (fun h35 => ?_) (fun h35 => ?_)
        · skip
          refine e_iload_n C d_M_count_45 rfl ?_
          refine e_bipush C d_M_count_46 (v := 10) (by decide) ?_
          refine e_icmp_ne C d_M_count_48 (tgt := 58) (by decide) (fun h48 => ?_) (fun h48 => ?_)
          · exact absurd (by decide) h48
          · skip
            refine e_aload_n C d_M_count_51 rfl ?_
            refine e_get C 0 (k := 25) in_M g769 d_M_count_52 rfl rfl rfl rfl ?_
            refine e_goto C d_M_count_55 (tgt := 88) (by decide) ?_
            exact e_iret C E d_M_count_88 (Nat.le_refl _) (Nat.le_refl _) rfl ⟨rfl, rfl⟩
        · exact absurd h35 (by decide)
      · skip
        refine e_iload_n C d_M_count_32 rfl ?_
        refine e_bipush C d_M_count_33 (v := 9) (by decide) ?_
        refine e_icmp_ne C d_M_count_35 (tgt := 45) (by decide) (fun h35 => ?_) (fun h35 => ?_)
        · skip
          refine e_iload_n C d_M_count_45 rfl ?_
          refine e_bipush C d_M_count_46 (v := 10) (by decide) ?_
          refine e_icmp_ne C d_M_count_48 (tgt := 58) (by decide) (fun h48 => ?_) (fun h48 => ?_)
          · skip
            refine e_iload_n C d_M_count_58 rfl ?_
            refine e_bipush C d_M_count_59 (v := 11) (by decide) ?_
            refine e_icmp_ne C d_M_count_61 (tgt := 71) (by decide) (fun h61 => ?_) (fun h61 => ?_)
            · exact absurd (by decide) h61
            · rw [show ct2 m 11 = nI (lnN (m.2 26) n) by simp only [ct2, hn, nI_clamp (show n < 2 ^ 31 by omega)]] at E
              refine e_aload_n C d_M_count_64 rfl ?_
              refine e_cVi C hR 0 (k_M_lines (m := th0 m) hn hn16) g993 g14 g990 g992 (gt_sel 39 (by decide +kernel) (by decide +kernel)) d_M_count_65 rfl ey_M_lines rfl rfl rfl rfl ⟨Nat.zero_le _, Nat.zero_le _⟩ ?_
              refine e_goto C d_M_count_68 (tgt := 88) (by decide) ?_
              exact e_iret C E d_M_count_88 (Nat.le_refl _) (Nat.le_refl _) rfl ⟨rfl, rfl⟩
          · exact absurd h48 (by decide)
        · exact absurd h35 (by decide)
      · skip
        refine e_iload_n C d_M_count_32 rfl ?_
        refine e_bipush C d_M_count_33 (v := 9) (by decide) ?_
        refine e_icmp_ne C d_M_count_35 (tgt := 45) (by decide) (fun h35 => ?_) (fun h35 => ?_)
        · skip
          refine e_iload_n C d_M_count_45 rfl ?_
          refine e_bipush C d_M_count_46 (v := 10) (by decide) ?_
          refine e_icmp_ne C d_M_count_48 (tgt := 58) (by decide) (fun h48 => ?_) (fun h48 => ?_)
          · skip
            refine e_iload_n C d_M_count_58 rfl ?_
            refine e_bipush C d_M_count_59 (v := 11) (by decide) ?_
            refine e_icmp_ne C d_M_count_61 (tgt := 71) (by decide) (fun h61 => ?_) (fun h61 => ?_)
            · skip
              refine e_iload_n C d_M_count_71 rfl ?_
              refine e_bipush C d_M_count_72 (v := 12) (by decide) ?_
              refine e_icmp_ne C d_M_count_74 (tgt := 84) (by decide) (fun h74 => ?_) (fun h74 => ?_)
              · exact absurd (by decide) h74
              · skip
                refine e_aload_n C d_M_count_77 rfl ?_
                refine e_get C 0 (k := 1) in_M g745 d_M_count_78 rfl rfl rfl rfl ?_
                refine e_goto C d_M_count_81 (tgt := 88) (by decide) ?_
                exact e_iret C E d_M_count_88 (Nat.le_refl _) (Nat.le_refl _) rfl ⟨rfl, rfl⟩
            · exact absurd h61 (by decide)
          · exact absurd h48 (by decide)
        · exact absurd h35 (by decide)
      · skip
        refine e_iload_n C d_M_count_32 rfl ?_
        refine e_bipush C d_M_count_33 (v := 9) (by decide) ?_
        refine e_icmp_ne C d_M_count_35 (tgt := 45) (by decide) (fun h35 => ?_) (fun h35 => ?_)
        · skip
          refine e_iload_n C d_M_count_45 rfl ?_
          refine e_bipush C d_M_count_46 (v := 10) (by decide) ?_
          refine e_icmp_ne C d_M_count_48 (tgt := 58) (by decide) (fun h48 => ?_) (fun h48 => ?_)
          · skip
            refine e_iload_n C d_M_count_58 rfl ?_
            refine e_bipush C d_M_count_59 (v := 11) (by decide) ?_
            refine e_icmp_ne C d_M_count_61 (tgt := 71) (by decide) (fun h61 => ?_) (fun h61 => ?_)
            · skip
              refine e_iload_n C d_M_count_71 rfl ?_
              refine e_bipush C d_M_count_72 (v := 12) (by decide) ?_
              refine e_icmp_ne C d_M_count_74 (tgt := 84) (by decide) (fun h74 => ?_) (fun h74 => ?_)
              · skip
                refine e_aload_n C d_M_count_84 rfl ?_
                refine e_get C 0 (k := 2) in_M g746 d_M_count_85 rfl rfl rfl rfl ?_
                exact e_iret C E d_M_count_88 (Nat.le_refl _) (Nat.le_refl _) rfl ⟨rfl, rfl⟩
              · exact absurd h74 (by decide)
            · exact absurd h61 (by decide)
          · exact absurd h48 (by decide)
        · exact absurd h35 (by decide)
    · rw [nI_leI (by omega) (by omega)] at h20
      rw [show ct2 m q = m.2 34 q by
        rcases (by omega : q = 0 ∨ q = 1 ∨ q = 2 ∨ q = 3 ∨ q = 4 ∨ q = 5 ∨ q = 6 ∨ q = 7 ∨ q = 8) with rfl | rfl | rfl | rfl | rfl | rfl | rfl | rfl | rfl <;> rfl] at E
      refine e_aload_n C d_M_count_23 rfl ?_
      refine e_get C 0 (k := 34) in_M g778 d_M_count_24 rfl rfl rfl rfl ?_
      refine e_iload_n C d_M_count_27 rfl ?_
      refine e_iald C 22 0 d_M_count_28 rfl rfl q rfl (by omega) (by omega) ?_
      refine e_goto C d_M_count_29 (tgt := 88) (by decide) ?_
      exact e_iret C E d_M_count_88 (Nat.le_refl _) (Nat.le_refl _) rfl ⟨rfl, rfl⟩
  · rw [bI_0, within_t (lo := 0) (by omega) (show q ≤ 13 by omega) (by omega)] at h12
    cases h12
theorem k_M_caught1 {z : Nat} (hz : m.1 21 = nI z) (hz5 : z ≤ 5) {k q : Int32} (h : OUT k z ∨ OUT q 3) : Con l G y_M_caught c_M_caught 3 (some .int) (rz 1 22) [.ref (a 40), .int k, .int q] (mF G a m.1 m.2) (DI 0 (mF G a (upd (th0 m).1 0 1) m.2)) := by
  refine Con.of rfl rfl (fun X C E hR hl hnm => ?_)
  refine e_aload_n C d_M_caught_0 rfl ?_
  refine e_iconst C d_M_caught_1 (v := 0) (by decide) ?_
  refine e_put C 0 (k := 0) in_M tk_M nm_M g744 d_M_caught_2 rfl rfl rfl rfl rfl rfl rfl rfl ?_
  refine e_eq (ws' := mF G a (th0 m).1 (th0 m).2) rfl ?_
  refine e_iload_n C d_M_caught_5 rfl ?_
  refine e_iconst C d_M_caught_6 (v := 0) (by decide) ?_
  refine e_aload_n C d_M_caught_7 rfl ?_
  refine e_get C 0 (k := 21) in_M g765 d_M_caught_8 rfl rfl rfl rfl ?_
  refine e_top (show _ = nI z from hz) ?_
  refine e_iconst C d_M_caught_11 (v := 1) (by decide) ?_
  refine e_isub C d_M_caught_12 ?_
  refine e_cSi C hR (k_M_within _ _ _) g867 g14 g865 g866 d_M_caught_13 rfl ey_M_within rfl rfl ⟨Nat.zero_le _, Nat.zero_le _⟩ ?_
  refine e_if_eq C d_M_caught_16 (tgt := 28) (by decide) (fun h16 => ?_) (fun h16 => ?_)
  · skip
    refine e_aload_n C d_M_caught_28 rfl ?_
    refine e_iconst C d_M_caught_29 (v := 1) (by decide) ?_
    refine e_cVi C hR 0 (k_M_fail 1) g985 g14 g982 g984 (gt_sel 38 (by decide +kernel) (by decide +kernel)) d_M_caught_30 rfl ey_M_fail rfl rfl rfl rfl ⟨Nat.zero_le _, Nat.zero_le _⟩ ?_
    exact e_iret C E d_M_caught_33 (Nat.le_refl _) (Nat.le_refl _) rfl ⟨rfl, rfl⟩
  · rw [bI_n] at h16
    have h2 : OUT q 3 := by
      rcases h with h | h
      · rw [within_f (by omega) h] at h16
        cases h16
      · exact h
    refine e_iload_n C d_M_caught_19 rfl ?_
    refine e_iconst C d_M_caught_20 (v := 0) (by decide) ?_
    refine e_iconst C d_M_caught_21 (v := 2) (by decide) ?_
    refine e_cSi C hR (k_M_within _ _ _) g867 g14 g865 g866 d_M_caught_22 rfl ey_M_within rfl rfl ⟨Nat.zero_le _, Nat.zero_le _⟩ ?_
    refine e_if_ne C d_M_caught_25 (tgt := 34) (by decide) (fun h25 => ?_) (fun h25 => ?_)
    · rw [bI_n] at h25
      have := within_f (n := 3) (by omega) h2
      rw [show nI 3 - 1 = (2 : Int32) by decide] at this
      rw [this] at h25
      cases h25
    · skip
      refine e_aload_n C d_M_caught_28 rfl ?_
      refine e_iconst C d_M_caught_29 (v := 1) (by decide) ?_
      refine e_cVi C hR 0 (k_M_fail 1) g985 g14 g982 g984 (gt_sel 38 (by decide +kernel) (by decide +kernel)) d_M_caught_30 rfl ey_M_fail rfl rfl rfl rfl ⟨Nat.zero_le _, Nat.zero_le _⟩ ?_
      exact e_iret C E d_M_caught_33 (Nat.le_refl _) (Nat.le_refl _) rfl ⟨rfl, rfl⟩
def cg2 (m : CS) (k q : Nat) : Int32 := match q with
  | 0 => m.2 22 k
  | 1 => m.2 23 k
  | _ => m.2 24 k
set_option maxRecDepth 100000 in
theorem k_M_caught {z k q : Nat} (hz : m.1 21 = nI z) (hz5 : z ≤ 5) (hk : k < z) (hq : q < 3) : Con l G y_M_caught c_M_caught 3 (some .int) (rz 1 22) [.ref (a 40), .int (nI k), .int (nI q)] (mF G a m.1 m.2) (DI (cg2 m k q) (mF G a (th0 m).1 (th0 m).2)) := by
  refine Con.of rfl rfl (fun X C E hR hl hnm => ?_)
  refine e_aload_n C d_M_caught_0 rfl ?_
  refine e_iconst C d_M_caught_1 (v := 0) (by decide) ?_
  refine e_put C 0 (k := 0) in_M tk_M nm_M g744 d_M_caught_2 rfl rfl rfl rfl rfl rfl rfl rfl ?_
  refine e_eq (ws' := mF G a (th0 m).1 (th0 m).2) rfl ?_
  refine e_iload_n C d_M_caught_5 rfl ?_
  refine e_iconst C d_M_caught_6 (v := 0) (by decide) ?_
  refine e_aload_n C d_M_caught_7 rfl ?_
  refine e_get C 0 (k := 21) in_M g765 d_M_caught_8 rfl rfl rfl rfl ?_
  refine e_top (show _ = nI z from hz) ?_
  refine e_iconst C d_M_caught_11 (v := 1) (by decide) ?_
  refine e_isub C d_M_caught_12 ?_
  refine e_cSi C hR (k_M_within _ _ _) g867 g14 g865 g866 d_M_caught_13 rfl ey_M_within rfl rfl ⟨Nat.zero_le _, Nat.zero_le _⟩ ?_
  refine e_if_eq C d_M_caught_16 (tgt := 28) (by decide) (fun h16 => ?_) (fun h16 => ?_)
  · rw [bI_0, within_tn hk (by omega)] at h16
    cases h16
  · skip
    refine e_iload_n C d_M_caught_19 rfl ?_
    refine e_iconst C d_M_caught_20 (v := nI 0) (by decide) ?_
    refine e_iconst C d_M_caught_21 (v := nI 2) (by decide) ?_
    refine e_cSi C hR (k_M_within _ _ _) g867 g14 g865 g866 d_M_caught_22 rfl ey_M_within rfl rfl ⟨Nat.zero_le _, Nat.zero_le _⟩ ?_
    refine e_if_ne C d_M_caught_25 (tgt := 34) (by decide) (fun h25 => ?_) (fun h25 => ?_)
    · rcases (by omega : q = 0 ∨ q = 1 ∨ q = 2) with rfl | rfl | rfl
      · skip
        refine e_iload_n C d_M_caught_34 rfl ?_
        refine e_if_ne C d_M_caught_35 (tgt := 47) (by decide) (fun h35 => ?_) (fun h35 => ?_)
        · exact absurd rfl h35
        · skip
          refine e_aload_n C d_M_caught_38 rfl ?_
          refine e_get C 0 (k := 22) in_M g766 d_M_caught_39 rfl rfl rfl rfl ?_
          refine e_iload_n C d_M_caught_42 rfl ?_
          refine e_iald C 13 0 d_M_caught_43 rfl rfl k rfl (by omega) (by omega) ?_
          refine e_goto C d_M_caught_44 (tgt := 67) (by decide) ?_
          exact e_iret C E d_M_caught_67 (Nat.le_refl _) (Nat.le_refl _) rfl ⟨rfl, rfl⟩
      · skip
        refine e_iload_n C d_M_caught_34 rfl ?_
        refine e_if_ne C d_M_caught_35 (tgt := 47) (by decide) (fun h35 => ?_) (fun h35 => ?_)
        · skip
          refine e_iload_n C d_M_caught_47 rfl ?_
          refine e_iconst C d_M_caught_48 (v := 1) (by decide) ?_
          refine e_icmp_ne C d_M_caught_49 (tgt := 61) (by decide) (fun h49 => ?_) (fun h49 => ?_)
          · exact absurd (by decide) h49
          · skip
            refine e_aload_n C d_M_caught_52 rfl ?_
            refine e_get C 0 (k := 23) in_M g767 d_M_caught_53 rfl rfl rfl rfl ?_
            refine e_iload_n C d_M_caught_56 rfl ?_
            refine e_iald C 14 0 d_M_caught_57 rfl rfl k rfl (by omega) (by omega) ?_
            refine e_goto C d_M_caught_58 (tgt := 67) (by decide) ?_
            exact e_iret C E d_M_caught_67 (Nat.le_refl _) (Nat.le_refl _) rfl ⟨rfl, rfl⟩
        · exact absurd h35 (by decide)
      · skip
        refine e_iload_n C d_M_caught_34 rfl ?_
        refine e_if_ne C d_M_caught_35 (tgt := 47) (by decide) (fun h35 => ?_) (fun h35 => ?_)
        · skip
          refine e_iload_n C d_M_caught_47 rfl ?_
          refine e_iconst C d_M_caught_48 (v := 1) (by decide) ?_
          refine e_icmp_ne C d_M_caught_49 (tgt := 61) (by decide) (fun h49 => ?_) (fun h49 => ?_)
          · skip
            refine e_aload_n C d_M_caught_61 rfl ?_
            refine e_get C 0 (k := 24) in_M g768 d_M_caught_62 rfl rfl rfl rfl ?_
            refine e_iload_n C d_M_caught_65 rfl ?_
            refine e_iald C 15 0 d_M_caught_66 rfl rfl k rfl (by omega) (by omega) ?_
            exact e_iret C E d_M_caught_67 (Nat.le_refl _) (Nat.le_refl _) rfl ⟨rfl, rfl⟩
          · exact absurd h49 (by decide)
        · exact absurd h35 (by decide)
    · rw [bI_0, within_t (lo := 0) (by omega) (show q ≤ 2 by omega) (by omega)] at h25
      cases h25
theorem k_M_answered1 {d : Nat} (hd : m.1 28 = nI d) (hd16 : d ≤ 16) {k q : Int32} (h : OUT k d ∨ OUT q 2) : Con l G y_M_answered c_M_answered 3 (some .int) (rz 1 22) [.ref (a 40), .int k, .int q] (mF G a m.1 m.2) (DI 0 (mF G a (upd (th0 m).1 0 1) m.2)) := by
  refine Con.of rfl rfl (fun X C E hR hl hnm => ?_)
  refine e_aload_n C d_M_answered_0 rfl ?_
  refine e_iconst C d_M_answered_1 (v := 0) (by decide) ?_
  refine e_put C 0 (k := 0) in_M tk_M nm_M g744 d_M_answered_2 rfl rfl rfl rfl rfl rfl rfl rfl ?_
  refine e_eq (ws' := mF G a (th0 m).1 (th0 m).2) rfl ?_
  refine e_iload_n C d_M_answered_5 rfl ?_
  refine e_iconst C d_M_answered_6 (v := 0) (by decide) ?_
  refine e_aload_n C d_M_answered_7 rfl ?_
  refine e_get C 0 (k := 28) in_M g772 d_M_answered_8 rfl rfl rfl rfl ?_
  refine e_top (show _ = nI d from hd) ?_
  refine e_iconst C d_M_answered_11 (v := 1) (by decide) ?_
  refine e_isub C d_M_answered_12 ?_
  refine e_cSi C hR (k_M_within _ _ _) g867 g14 g865 g866 d_M_answered_13 rfl ey_M_within rfl rfl ⟨Nat.zero_le _, Nat.zero_le _⟩ ?_
  refine e_if_eq C d_M_answered_16 (tgt := 28) (by decide) (fun h16 => ?_) (fun h16 => ?_)
  · skip
    refine e_aload_n C d_M_answered_28 rfl ?_
    refine e_iconst C d_M_answered_29 (v := 1) (by decide) ?_
    refine e_cVi C hR 0 (k_M_fail 1) g985 g14 g982 g984 (gt_sel 38 (by decide +kernel) (by decide +kernel)) d_M_answered_30 rfl ey_M_fail rfl rfl rfl rfl ⟨Nat.zero_le _, Nat.zero_le _⟩ ?_
    exact e_iret C E d_M_answered_33 (Nat.le_refl _) (Nat.le_refl _) rfl ⟨rfl, rfl⟩
  · rw [bI_n] at h16
    have h2 : OUT q 2 := by
      rcases h with h | h
      · rw [within_f (by omega) h] at h16
        cases h16
      · exact h
    refine e_iload_n C d_M_answered_19 rfl ?_
    refine e_iconst C d_M_answered_20 (v := 0) (by decide) ?_
    refine e_iconst C d_M_answered_21 (v := 1) (by decide) ?_
    refine e_cSi C hR (k_M_within _ _ _) g867 g14 g865 g866 d_M_answered_22 rfl ey_M_within rfl rfl ⟨Nat.zero_le _, Nat.zero_le _⟩ ?_
    refine e_if_ne C d_M_answered_25 (tgt := 34) (by decide) (fun h25 => ?_) (fun h25 => ?_)
    · rw [bI_n] at h25
      have := within_f (n := 2) (by omega) h2
      rw [show nI 2 - 1 = (1 : Int32) by decide] at this
      rw [this] at h25
      cases h25
    · skip
      refine e_aload_n C d_M_answered_28 rfl ?_
      refine e_iconst C d_M_answered_29 (v := 1) (by decide) ?_
      refine e_cVi C hR 0 (k_M_fail 1) g985 g14 g982 g984 (gt_sel 38 (by decide +kernel) (by decide +kernel)) d_M_answered_30 rfl ey_M_fail rfl rfl rfl rfl ⟨Nat.zero_le _, Nat.zero_le _⟩ ?_
      exact e_iret C E d_M_answered_33 (Nat.le_refl _) (Nat.le_refl _) rfl ⟨rfl, rfl⟩
set_option maxRecDepth 100000 in
theorem k_M_answered {d k : Nat} (hd : m.1 28 = nI d) (hd16 : d ≤ 16) (hk : k < d) (b : Bool) : Con l G y_M_answered c_M_answered 3 (some .int) (rz 1 22) [.ref (a 40), .int (nI k), .int (bI b)] (mF G a m.1 m.2) (DI (if b then m.2 30 k else m.2 29 k) (mF G a (th0 m).1 (th0 m).2)) := by
  refine Con.of rfl rfl (fun X C E hR hl hnm => ?_)
  refine e_aload_n C d_M_answered_0 rfl ?_
  refine e_iconst C d_M_answered_1 (v := 0) (by decide) ?_
  refine e_put C 0 (k := 0) in_M tk_M nm_M g744 d_M_answered_2 rfl rfl rfl rfl rfl rfl rfl rfl ?_
  refine e_eq (ws' := mF G a (th0 m).1 (th0 m).2) rfl ?_
  refine e_iload_n C d_M_answered_5 rfl ?_
  refine e_iconst C d_M_answered_6 (v := 0) (by decide) ?_
  refine e_aload_n C d_M_answered_7 rfl ?_
  refine e_get C 0 (k := 28) in_M g772 d_M_answered_8 rfl rfl rfl rfl ?_
  refine e_top (show _ = nI d from hd) ?_
  refine e_iconst C d_M_answered_11 (v := 1) (by decide) ?_
  refine e_isub C d_M_answered_12 ?_
  refine e_cSi C hR (k_M_within _ _ _) g867 g14 g865 g866 d_M_answered_13 rfl ey_M_within rfl rfl ⟨Nat.zero_le _, Nat.zero_le _⟩ ?_
  refine e_if_eq C d_M_answered_16 (tgt := 28) (by decide) (fun h16 => ?_) (fun h16 => ?_)
  · rw [bI_0, within_tn hk (by omega)] at h16
    cases h16
  · cases b with
    | true =>
      refine e_iload_n C d_M_answered_19 rfl ?_
      refine e_iconst C d_M_answered_20 (v := 0) (by decide) ?_
      refine e_iconst C d_M_answered_21 (v := 1) (by decide) ?_
      refine e_cSi C hR (k_M_within _ _ _) g867 g14 g865 g866 d_M_answered_22 rfl ey_M_within rfl rfl ⟨Nat.zero_le _, Nat.zero_le _⟩ ?_
      refine e_if_ne C d_M_answered_25 (tgt := 34) (by decide) (fun h25 => ?_) (fun h25 => ?_)
      · skip
        refine e_iload_n C d_M_answered_34 rfl ?_
        refine e_if_ne C d_M_answered_35 (tgt := 47) (by decide) (fun h35 => ?_) (fun h35 => ?_)
        · skip
          refine e_aload_n C d_M_answered_47 rfl ?_
          refine e_get C 0 (k := 30) in_M g774 d_M_answered_48 rfl rfl rfl rfl ?_
          refine e_iload_n C d_M_answered_51 rfl ?_
          refine e_iald C 19 0 d_M_answered_52 rfl rfl k rfl (by omega) (by omega) ?_
          exact e_iret C E d_M_answered_53 (Nat.le_refl _) (Nat.le_refl _) rfl ⟨rfl, rfl⟩
        · exact absurd h35 (by decide)
      · exact absurd h25 (by decide)
    | false =>
      refine e_iload_n C d_M_answered_19 rfl ?_
      refine e_iconst C d_M_answered_20 (v := 0) (by decide) ?_
      refine e_iconst C d_M_answered_21 (v := 1) (by decide) ?_
      refine e_cSi C hR (k_M_within _ _ _) g867 g14 g865 g866 d_M_answered_22 rfl ey_M_within rfl rfl ⟨Nat.zero_le _, Nat.zero_le _⟩ ?_
      refine e_if_ne C d_M_answered_25 (tgt := 34) (by decide) (fun h25 => ?_) (fun h25 => ?_)
      · skip
        refine e_iload_n C d_M_answered_34 rfl ?_
        refine e_if_ne C d_M_answered_35 (tgt := 47) (by decide) (fun h35 => ?_) (fun h35 => ?_)
        · exact absurd rfl h35
        · skip
          refine e_aload_n C d_M_answered_38 rfl ?_
          refine e_get C 0 (k := 29) in_M g773 d_M_answered_39 rfl rfl rfl rfl ?_
          refine e_iload_n C d_M_answered_42 rfl ?_
          refine e_iald C 18 0 d_M_answered_43 rfl rfl k rfl (by omega) (by omega) ?_
          refine e_goto C d_M_answered_44 (tgt := 53) (by decide) ?_
          exact e_iret C E d_M_answered_53 (Nat.le_refl _) (Nat.le_refl _) rfl ⟨rfl, rfl⟩
      · exact absurd h25 (by decide)
end M6
