/-! THE REFERENCE: an access -/
theorem ey_M_reachRow : eY y_M_reachRow 4 = true := by decide +kernel
theorem d_M_reachRow_0 : decode c_M_reachRow 0 = .ok (.aload_n 0, 1) := by decide +kernel
theorem d_M_reachRow_1 : decode c_M_reachRow 1 = .ok (.iload_n 1, 1) := by decide +kernel
theorem d_M_reachRow_2 : decode c_M_reachRow 2 = .ok (.invokevirtual 202, 3) := by decide +kernel
theorem d_M_reachRow_5 : decode c_M_reachRow 5 = .ok (.ifCond .eq 42, 3) := by decide +kernel
theorem d_M_reachRow_8 : decode c_M_reachRow 8 = .ok (.aload_n 0, 1) := by decide +kernel
theorem d_M_reachRow_9 : decode c_M_reachRow 9 = .ok (.getfield 58, 3) := by decide +kernel
theorem d_M_reachRow_12 : decode c_M_reachRow 12 = .ok (.iload_n 2, 1) := by decide +kernel
theorem d_M_reachRow_13 : decode c_M_reachRow 13 = .ok (.iaload, 1) := by decide +kernel
theorem d_M_reachRow_14 : decode c_M_reachRow 14 = .ok (.istore 5, 2) := by decide +kernel
theorem d_M_reachRow_16 : decode c_M_reachRow 16 = .ok (.aload_n 0, 1) := by decide +kernel
theorem d_M_reachRow_17 : decode c_M_reachRow 17 = .ok (.getfield 61, 3) := by decide +kernel
theorem d_M_reachRow_20 : decode c_M_reachRow 20 = .ok (.iload_n 2, 1) := by decide +kernel
theorem d_M_reachRow_21 : decode c_M_reachRow 21 = .ok (.iaload, 1) := by decide +kernel
theorem d_M_reachRow_22 : decode c_M_reachRow 22 = .ok (.istore 6, 2) := by decide +kernel
theorem d_M_reachRow_24 : decode c_M_reachRow 24 = .ok (.aload_n 0, 1) := by decide +kernel
theorem d_M_reachRow_25 : decode c_M_reachRow 25 = .ok (.iload_n 2, 1) := by decide +kernel
theorem d_M_reachRow_26 : decode c_M_reachRow 26 = .ok (.invokevirtual 163, 3) := by decide +kernel
theorem d_M_reachRow_29 : decode c_M_reachRow 29 = .ok (.aload_n 0, 1) := by decide +kernel
theorem d_M_reachRow_30 : decode c_M_reachRow 30 = .ok (.aload_n 0, 1) := by decide +kernel
theorem d_M_reachRow_31 : decode c_M_reachRow 31 = .ok (.iload_n 1, 1) := by decide +kernel
theorem d_M_reachRow_32 : decode c_M_reachRow 32 = .ok (.iload 5, 2) := by decide +kernel
theorem d_M_reachRow_34 : decode c_M_reachRow 34 = .ok (.iload 6, 2) := by decide +kernel
theorem d_M_reachRow_36 : decode c_M_reachRow 36 = .ok (.invokevirtual 206, 3) := by decide +kernel
theorem d_M_reachRow_39 : decode c_M_reachRow 39 = .ok (.iload_n 3, 1) := by decide +kernel
theorem d_M_reachRow_40 : decode c_M_reachRow 40 = .ok (.iload 4, 2) := by decide +kernel
theorem d_M_reachRow_42 : decode c_M_reachRow 42 = .ok (.invokevirtual 188, 3) := by decide +kernel
theorem d_M_reachRow_45 : decode c_M_reachRow 45 = .ok (.iconst 2, 1) := by decide +kernel
theorem d_M_reachRow_46 : decode c_M_reachRow 46 = .ok (.ireturn, 1) := by decide +kernel
theorem d_M_reachRow_47 : decode c_M_reachRow 47 = .ok (.aload_n 0, 1) := by decide +kernel
theorem d_M_reachRow_48 : decode c_M_reachRow 48 = .ok (.getfield 58, 3) := by decide +kernel
theorem d_M_reachRow_51 : decode c_M_reachRow 51 = .ok (.iload_n 2, 1) := by decide +kernel
theorem d_M_reachRow_52 : decode c_M_reachRow 52 = .ok (.iaload, 1) := by decide +kernel
theorem d_M_reachRow_53 : decode c_M_reachRow 53 = .ok (.iload_n 3, 1) := by decide +kernel
theorem d_M_reachRow_54 : decode c_M_reachRow 54 = .ok (.iand, 1) := by decide +kernel
theorem d_M_reachRow_55 : decode c_M_reachRow 55 = .ok (.ifCond .ne 24, 3) := by decide +kernel
theorem d_M_reachRow_58 : decode c_M_reachRow 58 = .ok (.aload_n 0, 1) := by decide +kernel
theorem d_M_reachRow_59 : decode c_M_reachRow 59 = .ok (.getfield 58, 3) := by decide +kernel
theorem d_M_reachRow_62 : decode c_M_reachRow 62 = .ok (.iload_n 2, 1) := by decide +kernel
theorem d_M_reachRow_63 : decode c_M_reachRow 63 = .ok (.dup2, 1) := by decide +kernel
theorem d_M_reachRow_64 : decode c_M_reachRow 64 = .ok (.iaload, 1) := by decide +kernel
theorem d_M_reachRow_65 : decode c_M_reachRow 65 = .ok (.iload_n 3, 1) := by decide +kernel
theorem d_M_reachRow_66 : decode c_M_reachRow 66 = .ok (.ior, 1) := by decide +kernel
theorem d_M_reachRow_67 : decode c_M_reachRow 67 = .ok (.iastore, 1) := by decide +kernel
theorem d_M_reachRow_68 : decode c_M_reachRow 68 = .ok (.aload_n 0, 1) := by decide +kernel
theorem d_M_reachRow_69 : decode c_M_reachRow 69 = .ok (.getfield 82, 3) := by decide +kernel
theorem d_M_reachRow_72 : decode c_M_reachRow 72 = .ok (.bipush 6, 2) := by decide +kernel
theorem d_M_reachRow_74 : decode c_M_reachRow 74 = .ok (.dup2, 1) := by decide +kernel
theorem d_M_reachRow_75 : decode c_M_reachRow 75 = .ok (.iaload, 1) := by decide +kernel
theorem d_M_reachRow_76 : decode c_M_reachRow 76 = .ok (.iconst 1, 1) := by decide +kernel
theorem d_M_reachRow_77 : decode c_M_reachRow 77 = .ok (.iadd, 1) := by decide +kernel
theorem d_M_reachRow_78 : decode c_M_reachRow 78 = .ok (.iastore, 1) := by decide +kernel
theorem d_M_reachRow_79 : decode c_M_reachRow 79 = .ok (.iload 4, 2) := by decide +kernel
theorem d_M_reachRow_81 : decode c_M_reachRow 81 = .ok (.ifCond .eq 20, 3) := by decide +kernel
theorem d_M_reachRow_84 : decode c_M_reachRow 84 = .ok (.aload_n 0, 1) := by decide +kernel
theorem d_M_reachRow_85 : decode c_M_reachRow 85 = .ok (.getfield 107, 3) := by decide +kernel
theorem d_M_reachRow_88 : decode c_M_reachRow 88 = .ok (.ifCond .ne 13, 3) := by decide +kernel
theorem d_M_reachRow_91 : decode c_M_reachRow 91 = .ok (.aload_n 0, 1) := by decide +kernel
theorem d_M_reachRow_92 : decode c_M_reachRow 92 = .ok (.getfield 61, 3) := by decide +kernel
theorem d_M_reachRow_95 : decode c_M_reachRow 95 = .ok (.iload_n 2, 1) := by decide +kernel
theorem d_M_reachRow_96 : decode c_M_reachRow 96 = .ok (.dup2, 1) := by decide +kernel
theorem d_M_reachRow_97 : decode c_M_reachRow 97 = .ok (.iaload, 1) := by decide +kernel
theorem d_M_reachRow_98 : decode c_M_reachRow 98 = .ok (.iload_n 3, 1) := by decide +kernel
theorem d_M_reachRow_99 : decode c_M_reachRow 99 = .ok (.ior, 1) := by decide +kernel
theorem d_M_reachRow_100 : decode c_M_reachRow 100 = .ok (.iastore, 1) := by decide +kernel
theorem d_M_reachRow_101 : decode c_M_reachRow 101 = .ok (.iload 4, 2) := by decide +kernel
theorem d_M_reachRow_103 : decode c_M_reachRow 103 = .ok (.ifCond .eq 21, 3) := by decide +kernel
theorem d_M_reachRow_106 : decode c_M_reachRow 106 = .ok (.aload_n 0, 1) := by decide +kernel
theorem d_M_reachRow_107 : decode c_M_reachRow 107 = .ok (.getfield 107, 3) := by decide +kernel
theorem d_M_reachRow_110 : decode c_M_reachRow 110 = .ok (.ifCond .eq 14, 3) := by decide +kernel
theorem d_M_reachRow_113 : decode c_M_reachRow 113 = .ok (.aload_n 0, 1) := by decide +kernel
theorem d_M_reachRow_114 : decode c_M_reachRow 114 = .ok (.getfield 82, 3) := by decide +kernel
theorem d_M_reachRow_117 : decode c_M_reachRow 117 = .ok (.bipush 7, 2) := by decide +kernel
theorem d_M_reachRow_119 : decode c_M_reachRow 119 = .ok (.dup2, 1) := by decide +kernel
theorem d_M_reachRow_120 : decode c_M_reachRow 120 = .ok (.iaload, 1) := by decide +kernel
theorem d_M_reachRow_121 : decode c_M_reachRow 121 = .ok (.iconst 1, 1) := by decide +kernel
theorem d_M_reachRow_122 : decode c_M_reachRow 122 = .ok (.iadd, 1) := by decide +kernel
theorem d_M_reachRow_123 : decode c_M_reachRow 123 = .ok (.iastore, 1) := by decide +kernel
theorem d_M_reachRow_124 : decode c_M_reachRow 124 = .ok (.iconst 2, 1) := by decide +kernel
theorem d_M_reachRow_125 : decode c_M_reachRow 125 = .ok (.ireturn, 1) := by decide +kernel
theorem ey_M_reach : eY y_M_reach 3 = true := by decide +kernel
theorem d_M_reach_0 : decode c_M_reach 0 = .ok (.iconst 1, 1) := by decide +kernel
theorem d_M_reach_1 : decode c_M_reach 1 = .ok (.iload_n 2, 1) := by decide +kernel
theorem d_M_reach_2 : decode c_M_reach 2 = .ok (.ishl, 1) := by decide +kernel
theorem d_M_reach_3 : decode c_M_reach 3 = .ok (.istore 4, 2) := by decide +kernel
theorem d_M_reach_5 : decode c_M_reach 5 = .ok (.aload_n 0, 1) := by decide +kernel
theorem d_M_reach_6 : decode c_M_reach 6 = .ok (.iload_n 1, 1) := by decide +kernel
theorem d_M_reach_7 : decode c_M_reach 7 = .ok (.invokevirtual 182, 3) := by decide +kernel
theorem d_M_reach_10 : decode c_M_reach 10 = .ok (.istore 5, 2) := by decide +kernel
theorem d_M_reach_12 : decode c_M_reach 12 = .ok (.aload_n 0, 1) := by decide +kernel
theorem d_M_reach_13 : decode c_M_reach 13 = .ok (.iload_n 1, 1) := by decide +kernel
theorem d_M_reach_14 : decode c_M_reach 14 = .ok (.invokevirtual 185, 3) := by decide +kernel
theorem d_M_reach_17 : decode c_M_reach 17 = .ok (.aload_n 0, 1) := by decide +kernel
theorem d_M_reach_18 : decode c_M_reach 18 = .ok (.getfield 82, 3) := by decide +kernel
theorem d_M_reach_21 : decode c_M_reach 21 = .ok (.iconst 0, 1) := by decide +kernel
theorem d_M_reach_22 : decode c_M_reach 22 = .ok (.dup2, 1) := by decide +kernel
theorem d_M_reach_23 : decode c_M_reach 23 = .ok (.iaload, 1) := by decide +kernel
theorem d_M_reach_24 : decode c_M_reach 24 = .ok (.iconst 1, 1) := by decide +kernel
theorem d_M_reach_25 : decode c_M_reach 25 = .ok (.iadd, 1) := by decide +kernel
theorem d_M_reach_26 : decode c_M_reach 26 = .ok (.iastore, 1) := by decide +kernel
theorem d_M_reach_27 : decode c_M_reach 27 = .ok (.iload 5, 2) := by decide +kernel
theorem d_M_reach_29 : decode c_M_reach 29 = .ok (.ifCond .lt 49, 3) := by decide +kernel
theorem d_M_reach_32 : decode c_M_reach 32 = .ok (.aload_n 0, 1) := by decide +kernel
theorem d_M_reach_33 : decode c_M_reach 33 = .ok (.getfield 21, 3) := by decide +kernel
theorem d_M_reach_36 : decode c_M_reach 36 = .ok (.iload 5, 2) := by decide +kernel
theorem d_M_reach_38 : decode c_M_reach 38 = .ok (.iaload, 1) := by decide +kernel
theorem d_M_reach_39 : decode c_M_reach 39 = .ok (.iload 4, 2) := by decide +kernel
theorem d_M_reach_41 : decode c_M_reach 41 = .ok (.iand, 1) := by decide +kernel
theorem d_M_reach_42 : decode c_M_reach 42 = .ok (.ifCond .eq 7, 3) := by decide +kernel
theorem d_M_reach_45 : decode c_M_reach 45 = .ok (.iconst 1, 1) := by decide +kernel
theorem d_M_reach_46 : decode c_M_reach 46 = .ok (.goto 4, 3) := by decide +kernel
theorem d_M_reach_49 : decode c_M_reach 49 = .ok (.iconst 0, 1) := by decide +kernel
theorem d_M_reach_50 : decode c_M_reach 50 = .ok (.istore 6, 2) := by decide +kernel
theorem d_M_reach_52 : decode c_M_reach 52 = .ok (.aload_n 0, 1) := by decide +kernel
theorem d_M_reach_53 : decode c_M_reach 53 = .ok (.iload 5, 2) := by decide +kernel
theorem d_M_reach_55 : decode c_M_reach 55 = .ok (.iload 4, 2) := by decide +kernel
theorem d_M_reach_57 : decode c_M_reach 57 = .ok (.iload_n 3, 1) := by decide +kernel
theorem d_M_reach_58 : decode c_M_reach 58 = .ok (.invokevirtual 188, 3) := by decide +kernel
theorem d_M_reach_61 : decode c_M_reach 61 = .ok (.aload_n 0, 1) := by decide +kernel
theorem d_M_reach_62 : decode c_M_reach 62 = .ok (.iload 5, 2) := by decide +kernel
theorem d_M_reach_64 : decode c_M_reach 64 = .ok (.invokevirtual 192, 3) := by decide +kernel
theorem d_M_reach_67 : decode c_M_reach 67 = .ok (.iload 6, 2) := by decide +kernel
theorem d_M_reach_69 : decode c_M_reach 69 = .ok (.ifCond .eq 7, 3) := by decide +kernel
theorem d_M_reach_72 : decode c_M_reach 72 = .ok (.iconst 0, 1) := by decide +kernel
theorem d_M_reach_73 : decode c_M_reach 73 = .ok (.goto 4, 3) := by decide +kernel
theorem d_M_reach_76 : decode c_M_reach 76 = .ok (.iconst 1, 1) := by decide +kernel
theorem d_M_reach_77 : decode c_M_reach 77 = .ok (.ireturn, 1) := by decide +kernel
theorem d_M_reach_78 : decode c_M_reach 78 = .ok (.aload_n 0, 1) := by decide +kernel
theorem d_M_reach_79 : decode c_M_reach 79 = .ok (.iload_n 1, 1) := by decide +kernel
theorem d_M_reach_80 : decode c_M_reach 80 = .ok (.invokevirtual 195, 3) := by decide +kernel
theorem d_M_reach_83 : decode c_M_reach 83 = .ok (.istore 6, 2) := by decide +kernel
theorem d_M_reach_85 : decode c_M_reach 85 = .ok (.iload 6, 2) := by decide +kernel
theorem d_M_reach_87 : decode c_M_reach 87 = .ok (.ifCond .lt 14, 3) := by decide +kernel
theorem d_M_reach_90 : decode c_M_reach 90 = .ok (.aload_n 0, 1) := by decide +kernel
theorem d_M_reach_91 : decode c_M_reach 91 = .ok (.iload_n 1, 1) := by decide +kernel
theorem d_M_reach_92 : decode c_M_reach 92 = .ok (.iload 6, 2) := by decide +kernel
theorem d_M_reach_94 : decode c_M_reach 94 = .ok (.iload 4, 2) := by decide +kernel
theorem d_M_reach_96 : decode c_M_reach 96 = .ok (.iload_n 3, 1) := by decide +kernel
theorem d_M_reach_97 : decode c_M_reach 97 = .ok (.invokevirtual 198, 3) := by decide +kernel
theorem d_M_reach_100 : decode c_M_reach 100 = .ok (.ireturn, 1) := by decide +kernel
theorem d_M_reach_101 : decode c_M_reach 101 = .ok (.iload_n 3, 1) := by decide +kernel
theorem d_M_reach_102 : decode c_M_reach 102 = .ok (.ifCond .eq 23, 3) := by decide +kernel
theorem d_M_reach_105 : decode c_M_reach 105 = .ok (.aload_n 0, 1) := by decide +kernel
theorem d_M_reach_106 : decode c_M_reach 106 = .ok (.getfield 7, 3) := by decide +kernel
theorem d_M_reach_109 : decode c_M_reach 109 = .ok (.ifCond .ne 16, 3) := by decide +kernel
theorem d_M_reach_112 : decode c_M_reach 112 = .ok (.aload_n 0, 1) := by decide +kernel
theorem d_M_reach_113 : decode c_M_reach 113 = .ok (.getfield 82, 3) := by decide +kernel
theorem d_M_reach_116 : decode c_M_reach 116 = .ok (.bipush 7, 2) := by decide +kernel
theorem d_M_reach_118 : decode c_M_reach 118 = .ok (.dup2, 1) := by decide +kernel
theorem d_M_reach_119 : decode c_M_reach 119 = .ok (.iaload, 1) := by decide +kernel
theorem d_M_reach_120 : decode c_M_reach 120 = .ok (.iconst 1, 1) := by decide +kernel
theorem d_M_reach_121 : decode c_M_reach 121 = .ok (.iadd, 1) := by decide +kernel
theorem d_M_reach_122 : decode c_M_reach 122 = .ok (.iastore, 1) := by decide +kernel
theorem d_M_reach_123 : decode c_M_reach 123 = .ok (.iconst 3, 1) := by decide +kernel
theorem d_M_reach_124 : decode c_M_reach 124 = .ok (.ireturn, 1) := by decide +kernel
theorem d_M_reach_125 : decode c_M_reach 125 = .ok (.aload_n 0, 1) := by decide +kernel
theorem d_M_reach_126 : decode c_M_reach 126 = .ok (.iload_n 1, 1) := by decide +kernel
theorem d_M_reach_127 : decode c_M_reach 127 = .ok (.invokevirtual 202, 3) := by decide +kernel
theorem d_M_reach_130 : decode c_M_reach 130 = .ok (.ifCond .ne 35, 3) := by decide +kernel
theorem d_M_reach_133 : decode c_M_reach 133 = .ok (.aload_n 0, 1) := by decide +kernel
theorem d_M_reach_134 : decode c_M_reach 134 = .ok (.getfield 82, 3) := by decide +kernel
theorem d_M_reach_137 : decode c_M_reach 137 = .ok (.bipush 6, 2) := by decide +kernel
theorem d_M_reach_139 : decode c_M_reach 139 = .ok (.dup2, 1) := by decide +kernel
theorem d_M_reach_140 : decode c_M_reach 140 = .ok (.iaload, 1) := by decide +kernel
theorem d_M_reach_141 : decode c_M_reach 141 = .ok (.iconst 1, 1) := by decide +kernel
theorem d_M_reach_142 : decode c_M_reach 142 = .ok (.iadd, 1) := by decide +kernel
theorem d_M_reach_143 : decode c_M_reach 143 = .ok (.iastore, 1) := by decide +kernel
theorem d_M_reach_144 : decode c_M_reach 144 = .ok (.aload_n 0, 1) := by decide +kernel
theorem d_M_reach_145 : decode c_M_reach 145 = .ok (.getfield 82, 3) := by decide +kernel
theorem d_M_reach_148 : decode c_M_reach 148 = .ok (.bipush 7, 2) := by decide +kernel
theorem d_M_reach_150 : decode c_M_reach 150 = .ok (.dup2, 1) := by decide +kernel
theorem d_M_reach_151 : decode c_M_reach 151 = .ok (.iaload, 1) := by decide +kernel
theorem d_M_reach_152 : decode c_M_reach 152 = .ok (.iload_n 3, 1) := by decide +kernel
theorem d_M_reach_153 : decode c_M_reach 153 = .ok (.ifCond .eq 7, 3) := by decide +kernel
theorem d_M_reach_156 : decode c_M_reach 156 = .ok (.iconst 1, 1) := by decide +kernel
theorem d_M_reach_157 : decode c_M_reach 157 = .ok (.goto 4, 3) := by decide +kernel
theorem d_M_reach_160 : decode c_M_reach 160 = .ok (.iconst 0, 1) := by decide +kernel
theorem d_M_reach_161 : decode c_M_reach 161 = .ok (.iadd, 1) := by decide +kernel
theorem d_M_reach_162 : decode c_M_reach 162 = .ok (.iastore, 1) := by decide +kernel
theorem d_M_reach_163 : decode c_M_reach 163 = .ok (.iconst 4, 1) := by decide +kernel
theorem d_M_reach_164 : decode c_M_reach 164 = .ok (.ireturn, 1) := by decide +kernel
theorem d_M_reach_165 : decode c_M_reach 165 = .ok (.aload_n 0, 1) := by decide +kernel
theorem d_M_reach_166 : decode c_M_reach 166 = .ok (.iload_n 1, 1) := by decide +kernel
theorem d_M_reach_167 : decode c_M_reach 167 = .ok (.iconst 0, 1) := by decide +kernel
theorem d_M_reach_168 : decode c_M_reach 168 = .ok (.iconst 0, 1) := by decide +kernel
theorem d_M_reach_169 : decode c_M_reach 169 = .ok (.invokevirtual 206, 3) := by decide +kernel
theorem d_M_reach_172 : decode c_M_reach 172 = .ok (.istore 5, 2) := by decide +kernel
theorem d_M_reach_174 : decode c_M_reach 174 = .ok (.aload_n 0, 1) := by decide +kernel
theorem d_M_reach_175 : decode c_M_reach 175 = .ok (.iload 5, 2) := by decide +kernel
theorem d_M_reach_177 : decode c_M_reach 177 = .ok (.iload 4, 2) := by decide +kernel
theorem d_M_reach_179 : decode c_M_reach 179 = .ok (.iload_n 3, 1) := by decide +kernel
theorem d_M_reach_180 : decode c_M_reach 180 = .ok (.invokevirtual 188, 3) := by decide +kernel
theorem d_M_reach_183 : decode c_M_reach 183 = .ok (.iconst 3, 1) := by decide +kernel
theorem d_M_reach_184 : decode c_M_reach 184 = .ok (.ireturn, 1) := by decide +kernel
theorem ey_M_accessOf : eY y_M_accessOf 3 = true := by decide +kernel
theorem d_M_accessOf_0 : decode c_M_accessOf 0 = .ok (.aload_n 0, 1) := by decide +kernel
theorem d_M_accessOf_1 : decode c_M_accessOf 1 = .ok (.iload_n 1, 1) := by decide +kernel
theorem d_M_accessOf_2 : decode c_M_accessOf 2 = .ok (.iload_n 2, 1) := by decide +kernel
theorem d_M_accessOf_3 : decode c_M_accessOf 3 = .ok (.iload_n 3, 1) := by decide +kernel
theorem d_M_accessOf_4 : decode c_M_accessOf 4 = .ok (.invokevirtual 210, 3) := by decide +kernel
theorem d_M_accessOf_7 : decode c_M_accessOf 7 = .ok (.istore 4, 2) := by decide +kernel
theorem d_M_accessOf_9 : decode c_M_accessOf 9 = .ok (.aload_n 0, 1) := by decide +kernel
theorem d_M_accessOf_10 : decode c_M_accessOf 10 = .ok (.getfield 82, 3) := by decide +kernel
theorem d_M_accessOf_13 : decode c_M_accessOf 13 = .ok (.iconst 1, 1) := by decide +kernel
theorem d_M_accessOf_14 : decode c_M_accessOf 14 = .ok (.iload 4, 2) := by decide +kernel
theorem d_M_accessOf_16 : decode c_M_accessOf 16 = .ok (.iadd, 1) := by decide +kernel
theorem d_M_accessOf_17 : decode c_M_accessOf 17 = .ok (.dup2, 1) := by decide +kernel
theorem d_M_accessOf_18 : decode c_M_accessOf 18 = .ok (.iaload, 1) := by decide +kernel
theorem d_M_accessOf_19 : decode c_M_accessOf 19 = .ok (.iconst 1, 1) := by decide +kernel
theorem d_M_accessOf_20 : decode c_M_accessOf 20 = .ok (.iadd, 1) := by decide +kernel
theorem d_M_accessOf_21 : decode c_M_accessOf 21 = .ok (.iastore, 1) := by decide +kernel
theorem d_M_accessOf_22 : decode c_M_accessOf 22 = .ok (.iload 4, 2) := by decide +kernel
theorem d_M_accessOf_24 : decode c_M_accessOf 24 = .ok (.ireturn, 1) := by decide +kernel
theorem ey_M_access : eY y_M_access 3 = true := by decide +kernel
theorem d_M_access_0 : decode c_M_access 0 = .ok (.aload_n 0, 1) := by decide +kernel
theorem d_M_access_1 : decode c_M_access 1 = .ok (.iconst 0, 1) := by decide +kernel
theorem d_M_access_2 : decode c_M_access 2 = .ok (.putfield 104, 3) := by decide +kernel
theorem d_M_access_5 : decode c_M_access 5 = .ok (.iload_n 2, 1) := by decide +kernel
theorem d_M_access_6 : decode c_M_access 6 = .ok (.iconst 0, 1) := by decide +kernel
theorem d_M_access_7 : decode c_M_access 7 = .ok (.iconst 3, 1) := by decide +kernel
theorem d_M_access_8 : decode c_M_access 8 = .ok (.invokestatic 214, 3) := by decide +kernel
theorem d_M_access_11 : decode c_M_access 11 = .ok (.ifCond .eq 13, 3) := by decide +kernel
theorem d_M_access_14 : decode c_M_access 14 = .ok (.aload_n 0, 1) := by decide +kernel
theorem d_M_access_15 : decode c_M_access 15 = .ok (.iload_n 1, 1) := by decide +kernel
theorem d_M_access_16 : decode c_M_access 16 = .ok (.iload_n 2, 1) := by decide +kernel
theorem d_M_access_17 : decode c_M_access 17 = .ok (.iload_n 3, 1) := by decide +kernel
theorem d_M_access_18 : decode c_M_access 18 = .ok (.invokevirtual 218, 3) := by decide +kernel
theorem d_M_access_21 : decode c_M_access 21 = .ok (.goto 8, 3) := by decide +kernel
theorem d_M_access_24 : decode c_M_access 24 = .ok (.aload_n 0, 1) := by decide +kernel
theorem d_M_access_25 : decode c_M_access 25 = .ok (.iconst 1, 1) := by decide +kernel
theorem d_M_access_26 : decode c_M_access 26 = .ok (.invokevirtual 221, 3) := by decide +kernel
theorem d_M_access_29 : decode c_M_access 29 = .ok (.ireturn, 1) := by decide +kernel
/-- what the reference keeps -/
def MI (S wd V kd : Nat) (m : CS) : Prop := MD m.1 S wd V kd ∧ MR wd kd m ∧ (∃ z, z ≤ V ∧ m.1 21 = nI z) ∧ (∃ hs, hs ≤ 64 ∧ m.1 31 = nI hs) ∧ (∀ j, NB (m.2 10 j)) ∧ ∀ j, NB (m.2 24 j)
theorem nzM_eq {m : CS} {z : Nat} (h : m.1 21 = nI z) (hz : z < 2 ^ 31) : nzM m = z := by unfold nzM; rw [h]; exact nI_clamp hz
theorem nhM_eq {m : CS} {z : Nat} (h : m.1 31 = nI z) (hz : z < 2 ^ 31) : nhM m = z := by unfold nhM; rw [h]; exact nI_clamp hz
/-- a pick leaves all alone but chance, marks, ages, hands -/
theorem pkS_kp {wd kd : Nat} {m m' : CS} {s r : Nat} {mv : Bool} (hk : kd < 10) (h : pkS wd kd m s mv = some (m', r)) : (∀ k, k ≠ 20 → m'.1 k = m.1 k) ∧ ∀ k, k ≠ 16 → k ≠ 17 → k ≠ 18 → k ≠ 35 → m'.2 k = m.2 k := by
  rcases kd_cases hk with rfl | rfl | rfl | rfl | rfl | rfl | rfl | rfl | rfl | rfl
  · simp only [pkS] at h
    split at h
    · cases h
    · obtain ⟨w, hw, e⟩ := Option.map_eq_some_iff.mp h
      cases e
      refine ⟨fun k hk => ?_, fun _ _ _ _ _ => rfl⟩
      dsimp only
      split
      · exact pk_un hk
      · rfl
  · obtain ⟨q, hq, e⟩ := Option.map_eq_some_iff.mp h
    cases e
    refine ⟨fun _ _ => rfl, fun k h1 h2 h3 h4 => ?_⟩
    dsimp only
    split
    · rw [up2_n _ h3, up2_n _ h1, up2_n _ h4]
    · rw [up2_n _ h4]
  · obtain ⟨w, hw, e⟩ := Option.map_eq_some_iff.mp h
    cases e
    exact ⟨fun _ _ => rfl, fun _ _ _ _ _ => rfl⟩
  · obtain ⟨w, hw, e⟩ := Option.map_eq_some_iff.mp h
    cases e
    exact ⟨fun _ _ => rfl, fun _ _ _ _ _ => rfl⟩
  · obtain ⟨w, hw, e⟩ := Option.map_eq_some_iff.mp h
    cases e
    exact ⟨fun _ _ => rfl, fun k h1 h2 h3 h4 => up2_n _ h2⟩
  all_goals
    obtain ⟨w, hw, e⟩ := Option.map_eq_some_iff.mp h
    cases e
    exact ⟨fun _ _ => rfl, fun _ _ _ _ _ => rfl⟩
def cnt (m : CS) (k : Nat) (y : Int32) : CS := (m.1, up2 m.2 34 (upd (m.2 34) k (m.2 34 k + y)))
def rr1 (m : CS) (r : Nat) (bit : Int32) : CS := if m.2 23 r &&& bit = 0 then (m.1, up2 (up2 m.2 23 (upd (m.2 23) r (m.2 23 r ||| bit))) 34 (upd (m.2 34) 6 (m.2 34 6 + 1))) else m
def rr2 (m : CS) (r : Nat) (bit wt : Int32) : CS := if wt = 0 then rr1 m r bit else if m.1 5 = 0 then ((rr1 m r bit).1, up2 (rr1 m r bit).2 24 (upd ((rr1 m r bit).2 24) r ((rr1 m r bit).2 24 r ||| bit))) else cnt (rr1 m r bit) 7 1
def rrM (S wd V kd : Nat) (m : CS) (x : Int32) (r : Nat) (bit wt : Int32) : Option (CS × Int32) := if cpB S wd m x = true then (plM S wd V kd (upd m.1 21 (nI (nzM m - 1)), trF m.2 r (nzM m - 1)) x (m.2 23 r) (m.2 24 r)).map (fun q => (twS q.1 q.2 bit wt, 2)) else some (rr2 m r bit wt, 2)
theorem MI.up {S wd V kd : Nat} {m m' : CS} (h : MI S wd V kd m) (h1 : m'.1 = m.1) (h2 : ∀ k, (k = 10 ∨ k = 16 ∨ k = 18 ∨ k = 24 ∨ k = 35) → m'.2 k = m.2 k) : MI S wd V kd m' := by
  obtain ⟨hD, hM, hz, hh, h10, h24⟩ := h
  refine ⟨by rw [h1]; exact hD, ?_, by rw [h1]; exact hz, by rw [h1]; exact hh, by rw [h2 10 (by omega)]; exact h10, by rw [h2 24 (by omega)]; exact h24⟩
  have hk := hD.2.2.2.2.2.2.2
  rcases kd_cases hk with rfl | rfl | rfl | rfl | rfl | rfl | rfl | rfl | rfl | rfl
  · show ∃ x, x < 2 ^ 31 ∧ m'.1 20 = nI x
    rw [h1]
    exact hM
  · show (∀ s, s < 16 → ∃ h0, h0 < wd ∧ m'.2 18 s = nI h0) ∧ BL (m'.2 16) ∧ BL (m'.2 35)
    rw [h2 18 (by omega), h2 16 (by omega), h2 35 (by omega)]
    exact hM
  all_goals trivial
section M4
variable {l : Launch} {G : EG} {a : Nat → Nat} {m : CS} {S wd V kd s w z : Nat} {ws : va_W}
theorem plM_rng (h : MD m.1 S wd V kd) (hM : MR wd kd m) {x t ch : Int32} {m' : CS} {r : Nat} (hp : plM S wd V kd m x t ch = some (m', r)) : 8 * sN S x ≤ r ∧ r < 8 * sN S x + wd ∧ r < 128 := by
  have hs := h.lt x
  have hS := h.S16
  have hw8 := h.w8
  unfold plM at hp
  split at hp
  · rename_i r0 hr0
    cases hp
    have := fst1_some hr0
    omega
  · obtain ⟨⟨m1, q⟩, hq, e⟩ := Option.map_eq_some_iff.mp hp
    cases e
    have := pkS_rng hw8.1 h.2.2.2.2.2.2.2 hM (by omega) hq
    dsimp only
    omega
set_option maxRecDepth 100000 in
theorem k_M_reachRow (h : MI S wd V kd m) (x : Int32) {r : Nat} (hr : r < nzM m) (bit wt : Int32) {m' : CS} {q : Int32} (hp : rrM S wd V kd m x r bit wt = some (m', q)) : Con l G y_M_reachRow c_M_reachRow 7 (some .int) (rz 4 92) [.ref (a 40), .int x, .int (nI r), .int bit, .int wt] (mF G a m.1 m.2) (DI q (mF G a m'.1 m'.2)) := by
  refine Con.of rfl rfl (fun X C E hR hl hnm => ?_)
  obtain ⟨hD, hM, ⟨z, hzV, hz⟩, hh, h10, h24⟩ := id h
  have hV := hD.2.2.2.2.2.2.1
  have hze := nzM_eq hz (by omega)
  rw [hze] at hr
  unfold rrM at hp
  rw [hze] at hp
  refine e_aload_n C d_M_reachRow_0 rfl ?_
  refine e_iload_n C d_M_reachRow_1 rfl ?_
  refine e_cVi C hR 0 (k_M_canPlace hD x) g923 g14 g920 g922 (gt_sel 24 (by decide +kernel) (by decide +kernel)) d_M_reachRow_2 rfl ey_M_canPlace rfl rfl rfl rfl ⟨Nat.zero_le _, Nat.zero_le _⟩ ?_
  refine e_if_eq C d_M_reachRow_5 (tgt := 47) (by decide) (fun h5 => ?_) (fun h5 => ?_)
  · rw [bI_0] at h5
    rw [if_neg (by rw [h5]; decide)] at hp
    cases hp
    unfold rr2 at E
    have hv : (rr1 m r bit).1 5 = m.1 5 := by
      unfold rr1
      split <;> rfl
    have two : ∀ m1 : CS, m1 = rr1 m r bit → EW X G 7 0 0 79 [(0, .ref (a 40)), (2, .int (nI r)), (3, .int bit), (4, .int wt)] [] (mF G a m1.1 m1.2) := by
      intro m1 e
      rw [← e] at E hv
      refine e_iload C d_M_reachRow_79 rfl ?_
      refine e_if_eq C d_M_reachRow_81 (tgt := 101) (by decide) (fun h81 => ?_) (fun h81 => ?_)
      · rw [if_pos h81] at E
        refine e_iload C d_M_reachRow_101 rfl ?_
        refine e_if_eq C d_M_reachRow_103 (tgt := 124) (by decide) (fun h103 => ?_) (fun h103 => ?_)
        · skip
          refine e_iconst C d_M_reachRow_124 (v := 2) (by decide) ?_
          exact e_iret C E d_M_reachRow_125 (Nat.le_refl _) (Nat.le_refl _) rfl ⟨rfl, rfl⟩
        · exact absurd h81 h103
      · rw [if_neg h81] at E
        refine e_aload_n C d_M_reachRow_84 rfl ?_
        refine e_get C 0 (k := 5) in_M g749 d_M_reachRow_85 rfl rfl rfl rfl ?_
        refine e_if_ne C d_M_reachRow_88 (tgt := 101) (by decide) (fun h88 => ?_) (fun h88 => ?_)
        · have h88 : ¬ m.1 5 = 0 := by rw [← hv]; exact h88
          rw [if_neg h88] at E
          refine e_iload C d_M_reachRow_101 rfl ?_
          refine e_if_eq C d_M_reachRow_103 (tgt := 124) (by decide) (fun h103 => ?_) (fun h103 => ?_)
          · exact absurd h103 h81
          · skip
            refine e_aload_n C d_M_reachRow_106 rfl ?_
            refine e_get C 0 (k := 5) in_M g749 d_M_reachRow_107 rfl rfl rfl rfl ?_
            refine e_if_eq C d_M_reachRow_110 (tgt := 124) (by decide) (fun h110 => ?_) (fun h110 => ?_)
            · exact absurd (hv.symm.trans h110) h88
            · skip
              refine e_aload_n C d_M_reachRow_113 rfl ?_
              refine e_get C 0 (k := 34) in_M g778 d_M_reachRow_114 rfl rfl rfl rfl ?_
              refine e_bipush C d_M_reachRow_117 (v := 7) (by decide) ?_
              refine e_dup2 C d_M_reachRow_119 rfl rfl ?_
              refine e_iald C 22 0 d_M_reachRow_120 rfl rfl 7 rfl (by omega) (by omega) ?_
              refine e_iconst C d_M_reachRow_121 (v := 1) (by decide) ?_
              refine e_iadd C d_M_reachRow_122 ?_
              refine e_iast C 22 0 d_M_reachRow_123 rfl rfl 7 rfl (by omega) (by omega) ?_
              refine e_iconst C d_M_reachRow_124 (v := 2) (by decide) ?_
              exact e_iret C E d_M_reachRow_125 (Nat.le_refl _) (Nat.le_refl _) rfl ⟨rfl, rfl⟩
        · have h88 : m.1 5 = 0 := by rw [← hv]; exact h88
          rw [if_pos h88] at E
          refine e_aload_n C d_M_reachRow_91 rfl ?_
          refine e_get C 0 (k := 24) in_M g768 d_M_reachRow_92 rfl rfl rfl rfl ?_
          refine e_iload_n C d_M_reachRow_95 rfl ?_
          refine e_dup2 C d_M_reachRow_96 rfl rfl ?_
          refine e_iald C 15 0 d_M_reachRow_97 rfl rfl r rfl (by omega) (by omega) ?_
          refine e_iload_n C d_M_reachRow_98 rfl ?_
          refine e_ior C d_M_reachRow_99 ?_
          refine e_iast C 15 0 d_M_reachRow_100 rfl rfl r rfl (by omega) (by omega) ?_
          refine e_iload C d_M_reachRow_101 rfl ?_
          refine e_if_eq C d_M_reachRow_103 (tgt := 124) (by decide) (fun h103 => ?_) (fun h103 => ?_)
          · exact absurd h103 h81
          · skip
            refine e_aload_n C d_M_reachRow_106 rfl ?_
            refine e_get C 0 (k := 5) in_M g749 d_M_reachRow_107 rfl rfl rfl rfl ?_
            refine e_if_eq C d_M_reachRow_110 (tgt := 124) (by decide) (fun h110 => ?_) (fun h110 => ?_)
            · skip
              refine e_iconst C d_M_reachRow_124 (v := 2) (by decide) ?_
              exact e_iret C E d_M_reachRow_125 (Nat.le_refl _) (Nat.le_refl _) rfl ⟨rfl, rfl⟩
            · exact absurd (hv.trans h88) h110
    refine e_aload_n C d_M_reachRow_47 rfl ?_
    refine e_get C 0 (k := 23) in_M g767 d_M_reachRow_48 rfl rfl rfl rfl ?_
    refine e_iload_n C d_M_reachRow_51 rfl ?_
    refine e_iald C 14 0 d_M_reachRow_52 rfl rfl r rfl (by omega) (by omega) ?_
    refine e_iload_n C d_M_reachRow_53 rfl ?_
    refine e_iand C d_M_reachRow_54 ?_
    refine e_if_ne C d_M_reachRow_55 (tgt := 79) (by decide) (fun h55 => ?_) (fun h55 => ?_)
    · exact e_lv2 (two m (by simp only [rr1, if_neg (show ¬ m.2 23 r &&& bit = 0 from h55)])) rfl
    · skip
      refine e_aload_n C d_M_reachRow_58 rfl ?_
      refine e_get C 0 (k := 23) in_M g767 d_M_reachRow_59 rfl rfl rfl rfl ?_
      refine e_iload_n C d_M_reachRow_62 rfl ?_
      refine e_dup2 C d_M_reachRow_63 rfl rfl ?_
      refine e_iald C 14 0 d_M_reachRow_64 rfl rfl r rfl (by omega) (by omega) ?_
      refine e_iload_n C d_M_reachRow_65 rfl ?_
      refine e_ior C d_M_reachRow_66 ?_
      refine e_iast C 14 0 d_M_reachRow_67 rfl rfl r rfl (by omega) (by omega) ?_
      refine e_aload_n C d_M_reachRow_68 rfl ?_
      refine e_get C 0 (k := 34) in_M g778 d_M_reachRow_69 rfl rfl rfl rfl ?_
      refine e_bipush C d_M_reachRow_72 (v := 6) (by decide) ?_
      refine e_dup2 C d_M_reachRow_74 rfl rfl ?_
      refine e_iald C 22 0 d_M_reachRow_75 rfl rfl 6 rfl (by omega) (by omega) ?_
      refine e_iconst C d_M_reachRow_76 (v := 1) (by decide) ?_
      refine e_iadd C d_M_reachRow_77 ?_
      refine e_iast C 22 0 d_M_reachRow_78 rfl rfl 6 rfl (by omega) (by omega) ?_
      refine e_eq (ws' := mF G a m.1 (up2 (up2 m.2 23 (upd (m.2 23) r (m.2 23 r ||| bit))) 34 (upd (m.2 34) 6 (m.2 34 6 + 1)))) rfl ?_
      exact e_lv2 (two (m.1, up2 (up2 m.2 23 (upd (m.2 23) r (m.2 23 r ||| bit))) 34 (upd (m.2 34) 6 (m.2 34 6 + 1))) (by simp only [rr1, if_pos (show m.2 23 r &&& bit = 0 from h55)])) rfl
  · rw [bI_n] at h5
    rw [if_pos h5] at hp
    obtain ⟨⟨m2, r2⟩, hq, e⟩ := Option.map_eq_some_iff.mp hp
    cases e
    dsimp only at E
    have hz1 : m.1 21 = nI (z - 1 + 1) := by rw [hz, show z - 1 + 1 = z by omega]
    have hD1 : MD (upd m.1 21 (nI (z - 1)), trF m.2 r (z - 1)).1 S wd V kd := hD
    have hM1 : MR wd kd (upd m.1 21 (nI (z - 1)), trF m.2 r (z - 1)) := by
      have hk := hD.2.2.2.2.2.2.2
      rcases kd_cases hk with rfl | rfl | rfl | rfl | rfl | rfl | rfl | rfl | rfl | rfl
      · exact hM
      · exact hM
      all_goals trivial
    have hrg := plM_rng hD1 hM1 hq
    refine e_aload_n C d_M_reachRow_8 rfl ?_
    refine e_get C 0 (k := 23) in_M g767 d_M_reachRow_9 rfl rfl rfl rfl ?_
    refine e_iload_n C d_M_reachRow_12 rfl ?_
    refine e_iald C 14 0 d_M_reachRow_13 rfl rfl r rfl (by omega) (by omega) ?_
    refine e_istore C d_M_reachRow_14 rfl ?_
    refine e_aload_n C d_M_reachRow_16 rfl ?_
    refine e_get C 0 (k := 24) in_M g768 d_M_reachRow_17 rfl rfl rfl rfl ?_
    refine e_iload_n C d_M_reachRow_20 rfl ?_
    refine e_iald C 15 0 d_M_reachRow_21 rfl rfl r rfl (by omega) (by omega) ?_
    refine e_istore C d_M_reachRow_22 rfl ?_
    refine e_aload_n C d_M_reachRow_24 rfl ?_
    refine e_iload_n C d_M_reachRow_25 rfl ?_
    refine e_cVv C hR 0 (k_M_takeRow (z := z - 1) hz1 (by omega) (show r ≤ z - 1 by omega)) g927 g14 g924 g926 (gt_sel 25 (by decide +kernel) (by decide +kernel)) d_M_reachRow_26 rfl ey_M_takeRow rfl rfl rfl rfl ⟨Nat.zero_le _, Nat.zero_le _⟩ ?_
    refine e_aload_n C d_M_reachRow_29 rfl ?_
    refine e_aload_n C d_M_reachRow_30 rfl ?_
    refine e_iload_n C d_M_reachRow_31 rfl ?_
    refine e_iload C d_M_reachRow_32 rfl ?_
    refine e_iload C d_M_reachRow_34 rfl ?_
    refine e_cVi C hR 0 (k_M_place (m := (upd m.1 21 (nI (z - 1)), trF m.2 r (z - 1))) (z := z - 1) hD1 hM1 rfl (by omega) h10 (NB.sh h24 _ _) x _ _ hq (fun m1 q hq2 => ⟨(pkS_kp hD.2.2.2.2.2.2.2 hq2).1, (pkS_kp hD.2.2.2.2.2.2.2 hq2).2 10 (by omega) (by omega) (by omega) (by omega), (pkS_kp hD.2.2.2.2.2.2.2 hq2).2 24 (by omega) (by omega) (by omega) (by omega)⟩)) g931 g14 g928 g930 (gt_sel 26 (by decide +kernel) (by decide +kernel)) d_M_reachRow_36 rfl ey_M_place rfl rfl rfl rfl ⟨Nat.zero_le _, Nat.zero_le _⟩ ?_
    refine e_iload_n C d_M_reachRow_39 rfl ?_
    refine e_iload C d_M_reachRow_40 rfl ?_
    refine e_cVv C hR 0 (k_M_takeWay hrg.2.2 bit wt) g895 g14 g892 g894 (gt_sel 17 (by decide +kernel) (by decide +kernel)) d_M_reachRow_42 rfl ey_M_takeWay rfl rfl rfl rfl ⟨Nat.zero_le _, Nat.zero_le _⟩ ?_
    refine e_iconst C d_M_reachRow_45 (v := 2) (by decide) ?_
    exact e_iret C E d_M_reachRow_46 (Nat.le_refl _) (Nat.le_refl _) rfl ⟨rfl, rfl⟩
/-- the first steps of an access -/
def rh1 (m : CS) (x : Int32) : CS := cnt (pnS m x) 0 1
/-- an access, reached -/
def rhM (S wd V kd : Nat) (m : CS) (x bit wt : Int32) : Option (CS × Int32) := match lstG (hasM m.2 x) none (8 * sN S x) wd with
  | some r => some (tuS wd kd (twS (rh1 m x) r bit wt) (sN S x) (r - 8 * sN S x), if m.2 9 r &&& bit = 0 then 1 else 0)
  | none => match lstG (fun k => m.2 22 k == x) none 0 (nzM m) with
    | some r => rrM S wd V kd (rh1 m x) x r bit wt
    | none => if ¬ wt = 0 ∧ m.1 6 = 0 then some (cnt (rh1 m x) 7 1, 3)
      else if cpB S wd m x = true then (plM S wd V kd (rh1 m x) x 0 0).map (fun q => (twS q.1 q.2 bit wt, 3))
      else some (cnt (cnt (rh1 m x) 6 1) 7 (if wt = 0 then 0 else 1), 4)
theorem pnS_kp (m : CS) (x : Int32) : (∀ k, k ≠ 31 → (pnS m x).1 k = m.1 k) ∧ ∀ k, k ≠ 32 → k ≠ 33 → (pnS m x).2 k = m.2 k := by
  unfold pnS
  split
  · exact ⟨fun _ _ => rfl, fun k h1 h2 => by dsimp only; rw [up2_n _ h1, up2_n _ h2]⟩
  · refine ⟨fun k hk => ?_, fun k h1 h2 => by dsimp only; rw [up2_n _ h1, up2_n _ h2]⟩
    dsimp only
    split
    · exact pk_un hk
    · rfl
theorem rh1_kp (m : CS) (x : Int32) : (∀ k, k ≠ 31 → (rh1 m x).1 k = m.1 k) ∧ ∀ k, k ≠ 32 → k ≠ 33 → k ≠ 34 → (rh1 m x).2 k = m.2 k := by
  have h := pnS_kp m x
  exact ⟨h.1, fun k h1 h2 h3 => by show up2 (pnS m x).2 34 _ k = _; rw [up2_n _ h3]; exact h.2 k h1 h2⟩
theorem rh1_MI (h : MI S wd V kd m) (x : Int32) : MI S wd V kd (rh1 m x) := by
  obtain ⟨kv, kf⟩ := rh1_kp m x
  obtain ⟨hD, hM, ⟨z, hzV, hz⟩, ⟨hs, hs64, hh⟩, h10, h24⟩ := h
  refine ⟨hD.of (kv 1 (by omega)) (kv 2 (by omega)) (kv 3 (by omega)) (kv 4 (by omega)), ?_, ⟨z, hzV, (kv 21 (by omega)).trans hz⟩, ?_, by rw [kf 10 (by omega) (by omega) (by omega)]; exact h10, by rw [kf 24 (by omega) (by omega) (by omega)]; exact h24⟩
  · have hk := hD.2.2.2.2.2.2.2
    rcases kd_cases hk with rfl | rfl | rfl | rfl | rfl | rfl | rfl | rfl | rfl | rfl
    · show ∃ x, x < 2 ^ 31 ∧ _ = nI x
      rw [kv 20 (by omega)]
      exact hM
    · show (∀ s, s < 16 → ∃ h0, h0 < wd ∧ (rh1 m x).2 18 s = nI h0) ∧ BL ((rh1 m x).2 16) ∧ BL ((rh1 m x).2 35)
      rw [kf 18 (by omega) (by omega) (by omega), kf 16 (by omega) (by omega) (by omega), kf 35 (by omega) (by omega) (by omega)]
      exact hM
    all_goals trivial
  · show ∃ hs, hs ≤ 64 ∧ (pnS m x).1 31 = nI hs
    have hhe := nhM_eq hh (by omega)
    unfold pnS
    split
    · exact ⟨hs, hs64, hh⟩
    · dsimp only
      rw [hhe]
      split
      · exact ⟨hs + 1, by omega, rfl⟩
      · exact ⟨hs, hs64, hh⟩
theorem lb {P : Nat → Bool} {k q : Nat} (h : k + q < 2 ^ 31) : ∀ j, lstG P none k q = some j → j < 2 ^ 31 := fun j hj => by have := lstG_lt (N := k + q) (Nat.le_refl _) (fun j hj => by cases hj) hj; omega
theorem lstG_rng {P : Nat → Bool} {lo hi : Nat} : ∀ {q k : Nat} {b : Option Nat} {w : Nat}, lo ≤ k → k + q ≤ hi → (∀ j, b = some j → lo ≤ j ∧ j < hi) → lstG P b k q = some w → lo ≤ w ∧ w < hi
  | 0, _, b, w, _, _, hb, h => hb w h
  | q + 1, k, b, w, h1, h2, hb, h => by
    unfold lstG at h
    refine lstG_rng (by omega) (by omega) ?_ h
    intro j hj
    split at hj
    · cases hj; omega
    · exact hb j hj
theorem twS_1 (m : CS) (r : Nat) (bit wt : Int32) : (twS m r bit wt).1 = m.1 := by
  unfold twS tw1
  split
  · split <;> rfl
  · split
    · split <;> rfl
    · split <;> rfl
theorem cpB_of {m m' : CS} (h7 : m'.2 7 = m.2 7) (h11 : m'.2 11 = m.2 11) (S wd : Nat) (x : Int32) : cpB S wd m' x = cpB S wd m x := by
  unfold cpB
  rw [h7, h11]
set_option maxRecDepth 100000 in
theorem k_M_reach (h : MI S wd V kd m) (x : Int32) {p : Nat} (hp4 : p < 4) (wt : Int32) {m' : CS} {q : Int32} (hp : rhM S wd V kd m x (bitI p) wt = some (m', q)) : Con l G y_M_reach c_M_reach 7 (some .int) (rz 5 118) [.ref (a 40), .int x, .int (nI p), .int wt] (mF G a m.1 m.2) (DI q (mF G a m'.1 m'.2)) := by
  refine Con.of rfl rfl (fun X C E hR hl hnm => ?_)
  have h1 := rh1_MI h x
  obtain ⟨kv, kf⟩ := rh1_kp m x
  obtain ⟨hD, hM, ⟨z, hzV, hz⟩, ⟨hs, hs64, hh⟩, h10, h24⟩ := id h
  have hV := hD.2.2.2.2.2.2.1
  have hk10 := hD.2.2.2.2.2.2.2
  have hze := nzM_eq hz (by omega)
  have hS := hD.S16
  have hw8 := hD.w8
  have hsn := hD.lt x
  unfold rhM at hp
  rw [hze] at hp
  refine e_iconst C d_M_reach_0 (v := 1) (by decide) ?_
  refine e_iload_n C d_M_reach_1 rfl ?_
  refine e_ishl C d_M_reach_2 ?_
  refine e_istore C d_M_reach_3 rfl ?_
  refine e_aload_n C d_M_reach_5 rfl ?_
  refine e_iload_n C d_M_reach_6 rfl ?_
  refine e_cVi C hR 0 (k_M_find hD x) g879 g14 g876 g878 (gt_sel 13 (by decide +kernel) (by decide +kernel)) d_M_reach_7 rfl ey_M_find rfl rfl rfl rfl ⟨Nat.zero_le _, Nat.zero_le _⟩ ?_
  refine e_istore C d_M_reach_10 rfl ?_
  refine e_aload_n C d_M_reach_12 rfl ?_
  refine e_iload_n C d_M_reach_13 rfl ?_
  refine e_cVv C hR 0 (k_M_putNear hh hs64 x) g887 g14 g884 g886 (gt_sel 15 (by decide +kernel) (by decide +kernel)) d_M_reach_14 rfl ey_M_putNear rfl rfl rfl rfl ⟨Nat.zero_le _, Nat.zero_le _⟩ ?_
  refine e_aload_n C d_M_reach_17 rfl ?_
  refine e_get C 0 (k := 34) in_M g778 d_M_reach_18 rfl rfl rfl rfl ?_
  refine e_iconst C d_M_reach_21 (v := 0) (by decide) ?_
  refine e_dup2 C d_M_reach_22 rfl rfl ?_
  refine e_iald C 22 0 d_M_reach_23 rfl rfl 0 rfl (by omega) (by omega) ?_
  refine e_iconst C d_M_reach_24 (v := 1) (by decide) ?_
  refine e_iadd C d_M_reach_25 ?_
  refine e_iast C 22 0 d_M_reach_26 rfl rfl 0 rfl (by omega) (by omega) ?_
  refine e_eq (ws' := mF G a (rh1 m x).1 (rh1 m x).2) rfl ?_
  generalize rh1 m x = m1 at h1 kv kf hp ⊢
  have hz1 : m1.1 21 = nI z := (kv 21 (by omega)).trans hz
  have hD1 := h1.1
  refine e_iload C d_M_reach_27 rfl ?_
  refine e_if_lt C d_M_reach_29 (tgt := 78) (by decide) (fun h29 => ?_) (fun h29 => ?_)
  · rw [oI_lt (lb (by omega))] at h29
    rw [h29] at hp
    dsimp only at hp
    refine e_aload_n C d_M_reach_78 rfl ?_
    refine e_iload_n C d_M_reach_79 rfl ?_
    refine e_cVi C hR 0 (k_M_findRow hz1 (by omega) x) g915 g14 g912 g914 (gt_sel 22 (by decide +kernel) (by decide +kernel)) d_M_reach_80 rfl ey_M_findRow rfl rfl rfl rfl ⟨Nat.zero_le _, Nat.zero_le _⟩ ?_
    refine e_istore C d_M_reach_83 rfl ?_
    refine e_iload C d_M_reach_85 rfl ?_
    refine e_if_lt C d_M_reach_87 (tgt := 101) (by decide) (fun h87 => ?_) (fun h87 => ?_)
    · rw [oI_lt (lb (by omega)), kf 22 (by omega) (by omega) (by omega)] at h87
      rw [h87] at hp
      dsimp only at hp
      have pla : ¬ (¬ wt = 0 ∧ m.1 6 = 0) → EW X G 7 0 0 125 [(0, .ref (a 40)), (1, .int x), (3, .int wt), (4, .int (bitI p))] [] (mF G a m1.1 m1.2) := by
        intro hne
        rw [if_neg hne] at hp
        refine e_aload_n C d_M_reach_125 rfl ?_
        refine e_iload_n C d_M_reach_126 rfl ?_
        refine e_cVi C hR 0 (k_M_canPlace hD1 x) g923 g14 g920 g922 (gt_sel 24 (by decide +kernel) (by decide +kernel)) d_M_reach_127 rfl ey_M_canPlace rfl rfl rfl rfl ⟨Nat.zero_le _, Nat.zero_le _⟩ ?_
        refine e_if_ne C d_M_reach_130 (tgt := 165) (by decide) (fun h130 => ?_) (fun h130 => ?_)
        · rw [bI_n, cpB_of (kf 7 (by omega) (by omega) (by omega)) (kf 11 (by omega) (by omega) (by omega))] at h130
          rw [if_pos h130] at hp
          obtain ⟨⟨m2, r2⟩, hq, e⟩ := Option.map_eq_some_iff.mp hp
          cases e
          dsimp only at E
          have hrg := plM_rng hD1 h1.2.1 hq
          refine e_aload_n C d_M_reach_165 rfl ?_
          refine e_iload_n C d_M_reach_166 rfl ?_
          refine e_iconst C d_M_reach_167 (v := 0) (by decide) ?_
          refine e_iconst C d_M_reach_168 (v := 0) (by decide) ?_
          refine e_cVi C hR 0 (k_M_place hD1 h1.2.1 hz1 hzV h1.2.2.2.2.1 h1.2.2.2.2.2 x 0 0 hq (fun m1 q hq2 => ⟨(pkS_kp hk10 hq2).1, (pkS_kp hk10 hq2).2 10 (by omega) (by omega) (by omega) (by omega), (pkS_kp hk10 hq2).2 24 (by omega) (by omega) (by omega) (by omega)⟩)) g931 g14 g928 g930 (gt_sel 26 (by decide +kernel) (by decide +kernel)) d_M_reach_169 rfl ey_M_place rfl rfl rfl rfl ⟨Nat.zero_le _, Nat.zero_le _⟩ ?_
          refine e_istore C d_M_reach_172 rfl ?_
          refine e_aload_n C d_M_reach_174 rfl ?_
          refine e_iload C d_M_reach_175 rfl ?_
          refine e_iload C d_M_reach_177 rfl ?_
          refine e_iload_n C d_M_reach_179 rfl ?_
          refine e_cVv C hR 0 (k_M_takeWay hrg.2.2 (bitI p) wt) g895 g14 g892 g894 (gt_sel 17 (by decide +kernel) (by decide +kernel)) d_M_reach_180 rfl ey_M_takeWay rfl rfl rfl rfl ⟨Nat.zero_le _, Nat.zero_le _⟩ ?_
          refine e_iconst C d_M_reach_183 (v := 3) (by decide) ?_
          exact e_iret C E d_M_reach_184 (Nat.le_refl _) (Nat.le_refl _) rfl ⟨rfl, rfl⟩
        · rw [bI_0, cpB_of (kf 7 (by omega) (by omega) (by omega)) (kf 11 (by omega) (by omega) (by omega))] at h130
          rw [if_neg (by rw [h130]; decide)] at hp
          cases hp
          refine e_aload_n C d_M_reach_133 rfl ?_
          refine e_get C 0 (k := 34) in_M g778 d_M_reach_134 rfl rfl rfl rfl ?_
          refine e_bipush C d_M_reach_137 (v := 6) (by decide) ?_
          refine e_dup2 C d_M_reach_139 rfl rfl ?_
          refine e_iald C 22 0 d_M_reach_140 rfl rfl 6 rfl (by omega) (by omega) ?_
          refine e_iconst C d_M_reach_141 (v := 1) (by decide) ?_
          refine e_iadd C d_M_reach_142 ?_
          refine e_iast C 22 0 d_M_reach_143 rfl rfl 6 rfl (by omega) (by omega) ?_
          refine e_aload_n C d_M_reach_144 rfl ?_
          refine e_get C 0 (k := 34) in_M g778 d_M_reach_145 rfl rfl rfl rfl ?_
          refine e_bipush C d_M_reach_148 (v := 7) (by decide) ?_
          refine e_dup2 C d_M_reach_150 rfl rfl ?_
          refine e_iald C 22 0 d_M_reach_151 rfl rfl 7 rfl (by omega) (by omega) ?_
          refine e_iload_n C d_M_reach_152 rfl ?_
          refine e_if_eq C d_M_reach_153 (tgt := 160) (by decide) (fun h153 => ?_) (fun h153 => ?_)
          · rw [if_pos h153] at E
            refine e_iconst C d_M_reach_160 (v := 0) (by decide) ?_
            refine e_iadd C d_M_reach_161 ?_
            refine e_iast C 22 0 d_M_reach_162 rfl rfl 7 rfl (by omega) (by omega) ?_
            refine e_iconst C d_M_reach_163 (v := 4) (by decide) ?_
            exact e_iret C E d_M_reach_164 (Nat.le_refl _) (Nat.le_refl _) rfl ⟨rfl, rfl⟩
          · rw [if_neg h153] at E
            refine e_iconst C d_M_reach_156 (v := 1) (by decide) ?_
            refine e_goto C d_M_reach_157 (tgt := 161) (by decide) ?_
            refine e_iadd C d_M_reach_161 ?_
            refine e_iast C 22 0 d_M_reach_162 rfl rfl 7 rfl (by omega) (by omega) ?_
            refine e_iconst C d_M_reach_163 (v := 4) (by decide) ?_
            exact e_iret C E d_M_reach_164 (Nat.le_refl _) (Nat.le_refl _) rfl ⟨rfl, rfl⟩
      refine e_iload_n C d_M_reach_101 rfl ?_
      refine e_if_eq C d_M_reach_102 (tgt := 125) (by decide) (fun h102 => ?_) (fun h102 => ?_)
      · exact e_lv2 (pla (fun w => w.1 h102)) rfl
      · skip
        refine e_aload_n C d_M_reach_105 rfl ?_
        refine e_get C 0 (k := 6) in_M g750 d_M_reach_106 rfl rfl rfl rfl ?_
        refine e_if_ne C d_M_reach_109 (tgt := 125) (by decide) (fun h109 => ?_) (fun h109 => ?_)
        · exact e_lv2 (pla (fun w => h109 ((kv 6 (by omega)).trans w.2))) rfl
        · rw [if_pos ⟨h102, (kv 6 (by omega)).symm.trans h109⟩] at hp
          cases hp
          refine e_aload_n C d_M_reach_112 rfl ?_
          refine e_get C 0 (k := 34) in_M g778 d_M_reach_113 rfl rfl rfl rfl ?_
          refine e_bipush C d_M_reach_116 (v := 7) (by decide) ?_
          refine e_dup2 C d_M_reach_118 rfl rfl ?_
          refine e_iald C 22 0 d_M_reach_119 rfl rfl 7 rfl (by omega) (by omega) ?_
          refine e_iconst C d_M_reach_120 (v := 1) (by decide) ?_
          refine e_iadd C d_M_reach_121 ?_
          refine e_iast C 22 0 d_M_reach_122 rfl rfl 7 rfl (by omega) (by omega) ?_
          refine e_iconst C d_M_reach_123 (v := 3) (by decide) ?_
          exact e_iret C E d_M_reach_124 (Nat.le_refl _) (Nat.le_refl _) rfl ⟨rfl, rfl⟩
    · rw [oI_lt (lb (by omega)), kf 22 (by omega) (by omega) (by omega)] at h87
      obtain ⟨r, hr⟩ := Option.ne_none_iff_exists'.mp h87
      have hr2 := lstG_rng (lo := 0) (hi := z) (Nat.le_refl _) (by omega) (fun j hj => by cases hj) hr
      rw [hr] at hp
      rw [kf 22 (by omega) (by omega) (by omega), hr]
      refine e_aload_n C d_M_reach_90 rfl ?_
      refine e_iload_n C d_M_reach_91 rfl ?_
      refine e_iload C d_M_reach_92 rfl ?_
      refine e_iload C d_M_reach_94 rfl ?_
      refine e_iload_n C d_M_reach_96 rfl ?_
      refine e_cVi C hR 0 (k_M_reachRow h1 x (by rw [nzM_eq hz1 (by omega)]; exact hr2.2) (bitI p) wt hp) g919 g14 g916 g918 (gt_sel 23 (by decide +kernel) (by decide +kernel)) d_M_reach_97 rfl ey_M_reachRow rfl rfl rfl rfl ⟨Nat.zero_le _, Nat.zero_le _⟩ ?_
      exact e_iret C E d_M_reach_100 (Nat.le_refl _) (Nat.le_refl _) rfl ⟨rfl, rfl⟩
  · rw [oI_lt (lb (by omega))] at h29
    obtain ⟨r, hr⟩ := Option.ne_none_iff_exists'.mp h29
    have hr2 := lstG_rng (lo := 8 * sN S x) (hi := 8 * sN S x + wd) (Nat.le_refl _) (Nat.le_refl _) (fun j hj => by cases hj) hr
    rw [hr] at hp ⊢
    cases hp
    obtain ⟨w, rfl⟩ : ∃ w, r = 8 * sN S x + w := ⟨r - 8 * sN S x, by omega⟩
    rw [show 8 * sN S x + w - 8 * sN S x = w by omega] at E
    have e9 : m1.2 9 (8 * sN S x + w) = m.2 9 (8 * sN S x + w) := by rw [kf 9 (by omega) (by omega) (by omega)]
    have hD2 : MD (twS m1 (8 * sN S x + w) (bitI p) wt).1 S wd V kd := by rw [twS_1]; exact hD1
    have tail : ∀ b : Bool, b = !(m.2 9 (8 * sN S x + w) &&& bitI p == 0) → EW X G 7 0 0 52 [(0, .ref (a 40)), (3, .int wt), (4, .int (bitI p)), (5, .int (nI (8 * sN S x + w))), (6, .int (bI b))] [] (mF G a m1.1 m1.2) := by
      intro b hb
      refine e_aload_n C d_M_reach_52 rfl ?_
      refine e_iload C d_M_reach_53 rfl ?_
      refine e_iload C d_M_reach_55 rfl ?_
      refine e_iload_n C d_M_reach_57 rfl ?_
      refine e_cVv C hR 0 (k_M_takeWay (show 8 * sN S x + w < 128 by omega) (bitI p) wt) g895 g14 g892 g894 (gt_sel 17 (by decide +kernel) (by decide +kernel)) d_M_reach_58 rfl ey_M_takeWay rfl rfl rfl rfl ⟨Nat.zero_le _, Nat.zero_le _⟩ ?_
      refine e_aload_n C d_M_reach_61 rfl ?_
      refine e_iload C d_M_reach_62 rfl ?_
      refine e_cVv C hR 0 (k_M_tellUse hD2 (show sN S x < 16 by omega) (show w < wd by omega)) g899 g14 g896 g898 (gt_sel 18 (by decide +kernel) (by decide +kernel)) d_M_reach_64 rfl ey_M_tellUse rfl rfl rfl rfl ⟨Nat.zero_le _, Nat.zero_le _⟩ ?_
      refine e_iload C d_M_reach_67 rfl ?_
      refine e_if_eq C d_M_reach_69 (tgt := 76) (by decide) (fun h69 => ?_) (fun h69 => ?_)
      · rw [bI_0] at h69
        rw [h69] at hb
        rw [if_pos (by simpa using hb.symm)] at E
        refine e_iconst C d_M_reach_76 (v := 1) (by decide) ?_
        exact e_iret C E d_M_reach_77 (Nat.le_refl _) (Nat.le_refl _) rfl ⟨rfl, rfl⟩
      · rw [bI_n] at h69
        rw [h69] at hb
        rw [if_neg (by simpa using hb.symm)] at E
        refine e_iconst C d_M_reach_72 (v := 0) (by decide) ?_
        refine e_goto C d_M_reach_73 (tgt := 77) (by decide) ?_
        exact e_iret C E d_M_reach_77 (Nat.le_refl _) (Nat.le_refl _) rfl ⟨rfl, rfl⟩
    refine e_aload_n C d_M_reach_32 rfl ?_
    refine e_get C 0 (k := 9) in_M g753 d_M_reach_33 rfl rfl rfl rfl ?_
    refine e_iload C d_M_reach_36 rfl ?_
    refine e_iald C 3 0 d_M_reach_38 rfl rfl (8 * sN S x + w) rfl (by omega) (by omega) ?_
    refine e_top e9 ?_
    refine e_iload C d_M_reach_39 rfl ?_
    refine e_iand C d_M_reach_41 ?_
    refine e_if_eq C d_M_reach_42 (tgt := 49) (by decide) (fun h42 => ?_) (fun h42 => ?_)
    · skip
      refine e_iconst C d_M_reach_49 (v := 0) (by decide) ?_
      refine e_istore C d_M_reach_50 rfl ?_
      exact e_lv2 (tail false (by simp; exact h42)) rfl
    · skip
      refine e_iconst C d_M_reach_45 (v := 1) (by decide) ?_
      refine e_goto C d_M_reach_46 (tgt := 50) (by decide) ?_
      refine e_istore C d_M_reach_50 rfl ?_
      exact e_lv2 (tail true (by simp; exact h42)) rfl
end M4
