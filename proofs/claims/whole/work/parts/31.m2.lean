/-! THE REFERENCE: its picks -/
theorem ey_M_byChance : eY y_M_byChance 2 = true := by decide +kernel
theorem d_M_byChance_0 : decode c_M_byChance 0 = .ok (.iconst 0, 1) := by decide +kernel
theorem d_M_byChance_1 : decode c_M_byChance 1 = .ok (.istore_n 3, 1) := by decide +kernel
theorem d_M_byChance_2 : decode c_M_byChance 2 = .ok (.iload_n 1, 1) := by decide +kernel
theorem d_M_byChance_3 : decode c_M_byChance 3 = .ok (.istore 4, 2) := by decide +kernel
theorem d_M_byChance_5 : decode c_M_byChance 5 = .ok (.iload 4, 2) := by decide +kernel
theorem d_M_byChance_7 : decode c_M_byChance 7 = .ok (.iload_n 1, 1) := by decide +kernel
theorem d_M_byChance_8 : decode c_M_byChance 8 = .ok (.aload_n 0, 1) := by decide +kernel
theorem d_M_byChance_9 : decode c_M_byChance 9 = .ok (.getfield 95, 3) := by decide +kernel
theorem d_M_byChance_12 : decode c_M_byChance 12 = .ok (.iadd, 1) := by decide +kernel
theorem d_M_byChance_13 : decode c_M_byChance 13 = .ok (.if_icmp .ge 27, 3) := by decide +kernel
theorem d_M_byChance_16 : decode c_M_byChance 16 = .ok (.iload_n 3, 1) := by decide +kernel
theorem d_M_byChance_17 : decode c_M_byChance 17 = .ok (.aload_n 0, 1) := by decide +kernel
theorem d_M_byChance_18 : decode c_M_byChance 18 = .ok (.getfield 27, 3) := by decide +kernel
theorem d_M_byChance_21 : decode c_M_byChance 21 = .ok (.iload 4, 2) := by decide +kernel
theorem d_M_byChance_23 : decode c_M_byChance 23 = .ok (.baload, 1) := by decide +kernel
theorem d_M_byChance_24 : decode c_M_byChance 24 = .ok (.ifCond .eq 7, 3) := by decide +kernel
theorem d_M_byChance_27 : decode c_M_byChance 27 = .ok (.iconst 0, 1) := by decide +kernel
theorem d_M_byChance_28 : decode c_M_byChance 28 = .ok (.goto 4, 3) := by decide +kernel
theorem d_M_byChance_31 : decode c_M_byChance 31 = .ok (.iconst 1, 1) := by decide +kernel
theorem d_M_byChance_32 : decode c_M_byChance 32 = .ok (.iadd, 1) := by decide +kernel
theorem d_M_byChance_33 : decode c_M_byChance 33 = .ok (.istore_n 3, 1) := by decide +kernel
theorem d_M_byChance_34 : decode c_M_byChance 34 = .ok (.iinc 4 1, 3) := by decide +kernel
theorem d_M_byChance_37 : decode c_M_byChance 37 = .ok (.goto (-32), 3) := by decide +kernel
theorem d_M_byChance_40 : decode c_M_byChance 40 = .ok (.aload_n 0, 1) := by decide +kernel
theorem d_M_byChance_41 : decode c_M_byChance 41 = .ok (.getfield 51, 3) := by decide +kernel
theorem d_M_byChance_44 : decode c_M_byChance 44 = .ok (.ldc 135, 2) := by decide +kernel
theorem d_M_byChance_46 : decode c_M_byChance 46 = .ok (.idiv, 1) := by decide +kernel
theorem d_M_byChance_47 : decode c_M_byChance 47 = .ok (.iload_n 3, 1) := by decide +kernel
theorem d_M_byChance_48 : decode c_M_byChance 48 = .ok (.irem, 1) := by decide +kernel
theorem d_M_byChance_49 : decode c_M_byChance 49 = .ok (.istore 4, 2) := by decide +kernel
theorem d_M_byChance_51 : decode c_M_byChance 51 = .ok (.iload_n 2, 1) := by decide +kernel
theorem d_M_byChance_52 : decode c_M_byChance 52 = .ok (.ifCond .eq 21, 3) := by decide +kernel
theorem d_M_byChance_55 : decode c_M_byChance 55 = .ok (.aload_n 0, 1) := by decide +kernel
theorem d_M_byChance_56 : decode c_M_byChance 56 = .ok (.ldc 136, 2) := by decide +kernel
theorem d_M_byChance_58 : decode c_M_byChance 58 = .ok (.aload_n 0, 1) := by decide +kernel
theorem d_M_byChance_59 : decode c_M_byChance 59 = .ok (.getfield 51, 3) := by decide +kernel
theorem d_M_byChance_62 : decode c_M_byChance 62 = .ok (.imul, 1) := by decide +kernel
theorem d_M_byChance_63 : decode c_M_byChance 63 = .ok (.sipush 12345, 3) := by decide +kernel
theorem d_M_byChance_66 : decode c_M_byChance 66 = .ok (.iadd, 1) := by decide +kernel
theorem d_M_byChance_67 : decode c_M_byChance 67 = .ok (.ldc 137, 2) := by decide +kernel
theorem d_M_byChance_69 : decode c_M_byChance 69 = .ok (.iand, 1) := by decide +kernel
theorem d_M_byChance_70 : decode c_M_byChance 70 = .ok (.putfield 51, 3) := by decide +kernel
theorem d_M_byChance_73 : decode c_M_byChance 73 = .ok (.iload_n 1, 1) := by decide +kernel
theorem d_M_byChance_74 : decode c_M_byChance 74 = .ok (.istore 5, 2) := by decide +kernel
theorem d_M_byChance_76 : decode c_M_byChance 76 = .ok (.aload_n 0, 1) := by decide +kernel
theorem d_M_byChance_77 : decode c_M_byChance 77 = .ok (.getfield 27, 3) := by decide +kernel
theorem d_M_byChance_80 : decode c_M_byChance 80 = .ok (.iload 5, 2) := by decide +kernel
theorem d_M_byChance_82 : decode c_M_byChance 82 = .ok (.baload, 1) := by decide +kernel
theorem d_M_byChance_83 : decode c_M_byChance 83 = .ok (.ifCond .ne 8, 3) := by decide +kernel
theorem d_M_byChance_86 : decode c_M_byChance 86 = .ok (.iload 4, 2) := by decide +kernel
theorem d_M_byChance_88 : decode c_M_byChance 88 = .ok (.ifCond .le 29, 3) := by decide +kernel
theorem d_M_byChance_91 : decode c_M_byChance 91 = .ok (.iload 4, 2) := by decide +kernel
theorem d_M_byChance_93 : decode c_M_byChance 93 = .ok (.aload_n 0, 1) := by decide +kernel
theorem d_M_byChance_94 : decode c_M_byChance 94 = .ok (.getfield 27, 3) := by decide +kernel
theorem d_M_byChance_97 : decode c_M_byChance 97 = .ok (.iload 5, 2) := by decide +kernel
theorem d_M_byChance_99 : decode c_M_byChance 99 = .ok (.baload, 1) := by decide +kernel
theorem d_M_byChance_100 : decode c_M_byChance 100 = .ok (.ifCond .eq 7, 3) := by decide +kernel
theorem d_M_byChance_103 : decode c_M_byChance 103 = .ok (.iconst 0, 1) := by decide +kernel
theorem d_M_byChance_104 : decode c_M_byChance 104 = .ok (.goto 4, 3) := by decide +kernel
theorem d_M_byChance_107 : decode c_M_byChance 107 = .ok (.iconst 1, 1) := by decide +kernel
theorem d_M_byChance_108 : decode c_M_byChance 108 = .ok (.isub, 1) := by decide +kernel
theorem d_M_byChance_109 : decode c_M_byChance 109 = .ok (.istore 4, 2) := by decide +kernel
theorem d_M_byChance_111 : decode c_M_byChance 111 = .ok (.iinc 5 1, 3) := by decide +kernel
theorem d_M_byChance_114 : decode c_M_byChance 114 = .ok (.goto (-38), 3) := by decide +kernel
theorem d_M_byChance_117 : decode c_M_byChance 117 = .ok (.iload 5, 2) := by decide +kernel
theorem d_M_byChance_119 : decode c_M_byChance 119 = .ok (.ireturn, 1) := by decide +kernel
theorem ey_M_byHand : eY y_M_byHand 2 = true := by decide +kernel
theorem d_M_byHand_0 : decode c_M_byHand 0 = .ok (.iconst 0, 1) := by decide +kernel
theorem d_M_byHand_1 : decode c_M_byHand 1 = .ok (.istore_n 3, 1) := by decide +kernel
theorem d_M_byHand_2 : decode c_M_byHand 2 = .ok (.iload_n 3, 1) := by decide +kernel
theorem d_M_byHand_3 : decode c_M_byHand 3 = .ok (.aload_n 0, 1) := by decide +kernel
theorem d_M_byHand_4 : decode c_M_byHand 4 = .ok (.getfield 95, 3) := by decide +kernel
theorem d_M_byHand_7 : decode c_M_byHand 7 = .ok (.if_icmp .ge 23, 3) := by decide +kernel
theorem d_M_byHand_10 : decode c_M_byHand 10 = .ok (.aload_n 0, 1) := by decide +kernel
theorem d_M_byHand_11 : decode c_M_byHand 11 = .ok (.getfield 85, 3) := by decide +kernel
theorem d_M_byHand_14 : decode c_M_byHand 14 = .ok (.iload_n 3, 1) := by decide +kernel
theorem d_M_byHand_15 : decode c_M_byHand 15 = .ok (.aload_n 0, 1) := by decide +kernel
theorem d_M_byHand_16 : decode c_M_byHand 16 = .ok (.getfield 39, 3) := by decide +kernel
theorem d_M_byHand_19 : decode c_M_byHand 19 = .ok (.iload_n 1, 1) := by decide +kernel
theorem d_M_byHand_20 : decode c_M_byHand 20 = .ok (.iload_n 3, 1) := by decide +kernel
theorem d_M_byHand_21 : decode c_M_byHand 21 = .ok (.iadd, 1) := by decide +kernel
theorem d_M_byHand_22 : decode c_M_byHand 22 = .ok (.baload, 1) := by decide +kernel
theorem d_M_byHand_23 : decode c_M_byHand 23 = .ok (.bastore, 1) := by decide +kernel
theorem d_M_byHand_24 : decode c_M_byHand 24 = .ok (.iinc 3 1, 3) := by decide +kernel
theorem d_M_byHand_27 : decode c_M_byHand 27 = .ok (.goto (-25), 3) := by decide +kernel
theorem d_M_byHand_30 : decode c_M_byHand 30 = .ok (.aload_n 0, 1) := by decide +kernel
theorem d_M_byHand_31 : decode c_M_byHand 31 = .ok (.getfield 45, 3) := by decide +kernel
theorem d_M_byHand_34 : decode c_M_byHand 34 = .ok (.iload_n 1, 1) := by decide +kernel
theorem d_M_byHand_35 : decode c_M_byHand 35 = .ok (.bipush 8, 2) := by decide +kernel
theorem d_M_byHand_37 : decode c_M_byHand 37 = .ok (.idiv, 1) := by decide +kernel
theorem d_M_byHand_38 : decode c_M_byHand 38 = .ok (.iaload, 1) := by decide +kernel
theorem d_M_byHand_39 : decode c_M_byHand 39 = .ok (.istore_n 3, 1) := by decide +kernel
theorem d_M_byHand_40 : decode c_M_byHand 40 = .ok (.aload_n 0, 1) := by decide +kernel
theorem d_M_byHand_41 : decode c_M_byHand 41 = .ok (.getfield 27, 3) := by decide +kernel
theorem d_M_byHand_44 : decode c_M_byHand 44 = .ok (.iload_n 1, 1) := by decide +kernel
theorem d_M_byHand_45 : decode c_M_byHand 45 = .ok (.iload_n 3, 1) := by decide +kernel
theorem d_M_byHand_46 : decode c_M_byHand 46 = .ok (.iadd, 1) := by decide +kernel
theorem d_M_byHand_47 : decode c_M_byHand 47 = .ok (.baload, 1) := by decide +kernel
theorem d_M_byHand_48 : decode c_M_byHand 48 = .ok (.ifCond .ne 12, 3) := by decide +kernel
theorem d_M_byHand_51 : decode c_M_byHand 51 = .ok (.aload_n 0, 1) := by decide +kernel
theorem d_M_byHand_52 : decode c_M_byHand 52 = .ok (.getfield 85, 3) := by decide +kernel
theorem d_M_byHand_55 : decode c_M_byHand 55 = .ok (.iload_n 3, 1) := by decide +kernel
theorem d_M_byHand_56 : decode c_M_byHand 56 = .ok (.baload, 1) := by decide +kernel
theorem d_M_byHand_57 : decode c_M_byHand 57 = .ok (.ifCond .eq 33, 3) := by decide +kernel
theorem d_M_byHand_60 : decode c_M_byHand 60 = .ok (.aload_n 0, 1) := by decide +kernel
theorem d_M_byHand_61 : decode c_M_byHand 61 = .ok (.getfield 27, 3) := by decide +kernel
theorem d_M_byHand_64 : decode c_M_byHand 64 = .ok (.iload_n 1, 1) := by decide +kernel
theorem d_M_byHand_65 : decode c_M_byHand 65 = .ok (.iload_n 3, 1) := by decide +kernel
theorem d_M_byHand_66 : decode c_M_byHand 66 = .ok (.iadd, 1) := by decide +kernel
theorem d_M_byHand_67 : decode c_M_byHand 67 = .ok (.baload, 1) := by decide +kernel
theorem d_M_byHand_68 : decode c_M_byHand 68 = .ok (.ifCond .ne 10, 3) := by decide +kernel
theorem d_M_byHand_71 : decode c_M_byHand 71 = .ok (.aload_n 0, 1) := by decide +kernel
theorem d_M_byHand_72 : decode c_M_byHand 72 = .ok (.getfield 85, 3) := by decide +kernel
theorem d_M_byHand_75 : decode c_M_byHand 75 = .ok (.iload_n 3, 1) := by decide +kernel
theorem d_M_byHand_76 : decode c_M_byHand 76 = .ok (.iconst 0, 1) := by decide +kernel
theorem d_M_byHand_77 : decode c_M_byHand 77 = .ok (.bastore, 1) := by decide +kernel
theorem d_M_byHand_78 : decode c_M_byHand 78 = .ok (.iload_n 3, 1) := by decide +kernel
theorem d_M_byHand_79 : decode c_M_byHand 79 = .ok (.iconst 1, 1) := by decide +kernel
theorem d_M_byHand_80 : decode c_M_byHand 80 = .ok (.iadd, 1) := by decide +kernel
theorem d_M_byHand_81 : decode c_M_byHand 81 = .ok (.aload_n 0, 1) := by decide +kernel
theorem d_M_byHand_82 : decode c_M_byHand 82 = .ok (.getfield 95, 3) := by decide +kernel
theorem d_M_byHand_85 : decode c_M_byHand 85 = .ok (.irem, 1) := by decide +kernel
theorem d_M_byHand_86 : decode c_M_byHand 86 = .ok (.istore_n 3, 1) := by decide +kernel
theorem d_M_byHand_87 : decode c_M_byHand 87 = .ok (.goto (-47), 3) := by decide +kernel
theorem d_M_byHand_90 : decode c_M_byHand 90 = .ok (.iload_n 2, 1) := by decide +kernel
theorem d_M_byHand_91 : decode c_M_byHand 91 = .ok (.ifCond .eq 54, 3) := by decide +kernel
theorem d_M_byHand_94 : decode c_M_byHand 94 = .ok (.iconst 0, 1) := by decide +kernel
theorem d_M_byHand_95 : decode c_M_byHand 95 = .ok (.istore 4, 2) := by decide +kernel
theorem d_M_byHand_97 : decode c_M_byHand 97 = .ok (.iload 4, 2) := by decide +kernel
theorem d_M_byHand_99 : decode c_M_byHand 99 = .ok (.aload_n 0, 1) := by decide +kernel
theorem d_M_byHand_100 : decode c_M_byHand 100 = .ok (.getfield 95, 3) := by decide +kernel
theorem d_M_byHand_103 : decode c_M_byHand 103 = .ok (.if_icmp .ge 25, 3) := by decide +kernel
theorem d_M_byHand_106 : decode c_M_byHand 106 = .ok (.aload_n 0, 1) := by decide +kernel
theorem d_M_byHand_107 : decode c_M_byHand 107 = .ok (.getfield 39, 3) := by decide +kernel
theorem d_M_byHand_110 : decode c_M_byHand 110 = .ok (.iload_n 1, 1) := by decide +kernel
theorem d_M_byHand_111 : decode c_M_byHand 111 = .ok (.iload 4, 2) := by decide +kernel
theorem d_M_byHand_113 : decode c_M_byHand 113 = .ok (.iadd, 1) := by decide +kernel
theorem d_M_byHand_114 : decode c_M_byHand 114 = .ok (.aload_n 0, 1) := by decide +kernel
theorem d_M_byHand_115 : decode c_M_byHand 115 = .ok (.getfield 85, 3) := by decide +kernel
theorem d_M_byHand_118 : decode c_M_byHand 118 = .ok (.iload 4, 2) := by decide +kernel
theorem d_M_byHand_120 : decode c_M_byHand 120 = .ok (.baload, 1) := by decide +kernel
theorem d_M_byHand_121 : decode c_M_byHand 121 = .ok (.bastore, 1) := by decide +kernel
theorem d_M_byHand_122 : decode c_M_byHand 122 = .ok (.iinc 4 1, 3) := by decide +kernel
theorem d_M_byHand_125 : decode c_M_byHand 125 = .ok (.goto (-28), 3) := by decide +kernel
theorem d_M_byHand_128 : decode c_M_byHand 128 = .ok (.aload_n 0, 1) := by decide +kernel
theorem d_M_byHand_129 : decode c_M_byHand 129 = .ok (.getfield 45, 3) := by decide +kernel
theorem d_M_byHand_132 : decode c_M_byHand 132 = .ok (.iload_n 1, 1) := by decide +kernel
theorem d_M_byHand_133 : decode c_M_byHand 133 = .ok (.bipush 8, 2) := by decide +kernel
theorem d_M_byHand_135 : decode c_M_byHand 135 = .ok (.idiv, 1) := by decide +kernel
theorem d_M_byHand_136 : decode c_M_byHand 136 = .ok (.iload_n 3, 1) := by decide +kernel
theorem d_M_byHand_137 : decode c_M_byHand 137 = .ok (.iconst 1, 1) := by decide +kernel
theorem d_M_byHand_138 : decode c_M_byHand 138 = .ok (.iadd, 1) := by decide +kernel
theorem d_M_byHand_139 : decode c_M_byHand 139 = .ok (.aload_n 0, 1) := by decide +kernel
theorem d_M_byHand_140 : decode c_M_byHand 140 = .ok (.getfield 95, 3) := by decide +kernel
theorem d_M_byHand_143 : decode c_M_byHand 143 = .ok (.irem, 1) := by decide +kernel
theorem d_M_byHand_144 : decode c_M_byHand 144 = .ok (.iastore, 1) := by decide +kernel
theorem d_M_byHand_145 : decode c_M_byHand 145 = .ok (.iload_n 1, 1) := by decide +kernel
theorem d_M_byHand_146 : decode c_M_byHand 146 = .ok (.iload_n 3, 1) := by decide +kernel
theorem d_M_byHand_147 : decode c_M_byHand 147 = .ok (.iadd, 1) := by decide +kernel
theorem d_M_byHand_148 : decode c_M_byHand 148 = .ok (.ireturn, 1) := by decide +kernel
theorem ey_M_byTree : eY y_M_byTree 1 = true := by decide +kernel
theorem d_M_byTree_0 : decode c_M_byTree 0 = .ok (.aload_n 0, 1) := by decide +kernel
theorem d_M_byTree_1 : decode c_M_byTree 1 = .ok (.invokevirtual 117, 3) := by decide +kernel
theorem d_M_byTree_4 : decode c_M_byTree 4 = .ok (.istore_n 2, 1) := by decide +kernel
theorem d_M_byTree_5 : decode c_M_byTree 5 = .ok (.iconst 1, 1) := by decide +kernel
theorem d_M_byTree_6 : decode c_M_byTree 6 = .ok (.istore_n 3, 1) := by decide +kernel
theorem d_M_byTree_7 : decode c_M_byTree 7 = .ok (.iload_n 3, 1) := by decide +kernel
theorem d_M_byTree_8 : decode c_M_byTree 8 = .ok (.iload_n 2, 1) := by decide +kernel
theorem d_M_byTree_9 : decode c_M_byTree 9 = .ok (.if_icmp .ge 27, 3) := by decide +kernel
theorem d_M_byTree_12 : decode c_M_byTree 12 = .ok (.iconst 2, 1) := by decide +kernel
theorem d_M_byTree_13 : decode c_M_byTree 13 = .ok (.iload_n 3, 1) := by decide +kernel
theorem d_M_byTree_14 : decode c_M_byTree 14 = .ok (.imul, 1) := by decide +kernel
theorem d_M_byTree_15 : decode c_M_byTree 15 = .ok (.aload_n 0, 1) := by decide +kernel
theorem d_M_byTree_16 : decode c_M_byTree 16 = .ok (.getfield 48, 3) := by decide +kernel
theorem d_M_byTree_19 : decode c_M_byTree 19 = .ok (.iload_n 1, 1) := by decide +kernel
theorem d_M_byTree_20 : decode c_M_byTree 20 = .ok (.iload_n 3, 1) := by decide +kernel
theorem d_M_byTree_21 : decode c_M_byTree 21 = .ok (.iadd, 1) := by decide +kernel
theorem d_M_byTree_22 : decode c_M_byTree 22 = .ok (.baload, 1) := by decide +kernel
theorem d_M_byTree_23 : decode c_M_byTree 23 = .ok (.ifCond .eq 7, 3) := by decide +kernel
theorem d_M_byTree_26 : decode c_M_byTree 26 = .ok (.iconst 1, 1) := by decide +kernel
theorem d_M_byTree_27 : decode c_M_byTree 27 = .ok (.goto 4, 3) := by decide +kernel
theorem d_M_byTree_30 : decode c_M_byTree 30 = .ok (.iconst 0, 1) := by decide +kernel
theorem d_M_byTree_31 : decode c_M_byTree 31 = .ok (.iadd, 1) := by decide +kernel
theorem d_M_byTree_32 : decode c_M_byTree 32 = .ok (.istore_n 3, 1) := by decide +kernel
theorem d_M_byTree_33 : decode c_M_byTree 33 = .ok (.goto (-26), 3) := by decide +kernel
theorem d_M_byTree_36 : decode c_M_byTree 36 = .ok (.iload_n 3, 1) := by decide +kernel
theorem d_M_byTree_37 : decode c_M_byTree 37 = .ok (.iload_n 2, 1) := by decide +kernel
theorem d_M_byTree_38 : decode c_M_byTree 38 = .ok (.isub, 1) := by decide +kernel
theorem d_M_byTree_39 : decode c_M_byTree 39 = .ok (.istore 4, 2) := by decide +kernel
theorem d_M_byTree_41 : decode c_M_byTree 41 = .ok (.iload 4, 2) := by decide +kernel
theorem d_M_byTree_43 : decode c_M_byTree 43 = .ok (.aload_n 0, 1) := by decide +kernel
theorem d_M_byTree_44 : decode c_M_byTree 44 = .ok (.getfield 95, 3) := by decide +kernel
theorem d_M_byTree_47 : decode c_M_byTree 47 = .ok (.if_icmp .ge 15, 3) := by decide +kernel
theorem d_M_byTree_50 : decode c_M_byTree 50 = .ok (.aload_n 0, 1) := by decide +kernel
theorem d_M_byTree_51 : decode c_M_byTree 51 = .ok (.getfield 27, 3) := by decide +kernel
theorem d_M_byTree_54 : decode c_M_byTree 54 = .ok (.iload_n 1, 1) := by decide +kernel
theorem d_M_byTree_55 : decode c_M_byTree 55 = .ok (.iload 4, 2) := by decide +kernel
theorem d_M_byTree_57 : decode c_M_byTree 57 = .ok (.iadd, 1) := by decide +kernel
theorem d_M_byTree_58 : decode c_M_byTree 58 = .ok (.baload, 1) := by decide +kernel
theorem d_M_byTree_59 : decode c_M_byTree 59 = .ok (.ifCond .eq 14, 3) := by decide +kernel
theorem d_M_byTree_62 : decode c_M_byTree 62 = .ok (.iload 4, 2) := by decide +kernel
theorem d_M_byTree_64 : decode c_M_byTree 64 = .ok (.iconst 1, 1) := by decide +kernel
theorem d_M_byTree_65 : decode c_M_byTree 65 = .ok (.iadd, 1) := by decide +kernel
theorem d_M_byTree_66 : decode c_M_byTree 66 = .ok (.iload_n 2, 1) := by decide +kernel
theorem d_M_byTree_67 : decode c_M_byTree 67 = .ok (.irem, 1) := by decide +kernel
theorem d_M_byTree_68 : decode c_M_byTree 68 = .ok (.istore 4, 2) := by decide +kernel
theorem d_M_byTree_70 : decode c_M_byTree 70 = .ok (.goto (-29), 3) := by decide +kernel
theorem d_M_byTree_73 : decode c_M_byTree 73 = .ok (.iload_n 1, 1) := by decide +kernel
theorem d_M_byTree_74 : decode c_M_byTree 74 = .ok (.iload 4, 2) := by decide +kernel
theorem d_M_byTree_76 : decode c_M_byTree 76 = .ok (.iadd, 1) := by decide +kernel
theorem d_M_byTree_77 : decode c_M_byTree 77 = .ok (.ireturn, 1) := by decide +kernel
theorem ey_M_unmarked : eY y_M_unmarked 1 = true := by decide +kernel
theorem d_M_unmarked_0 : decode c_M_unmarked 0 = .ok (.iconst (-1), 1) := by decide +kernel
theorem d_M_unmarked_1 : decode c_M_unmarked 1 = .ok (.istore_n 2, 1) := by decide +kernel
theorem d_M_unmarked_2 : decode c_M_unmarked 2 = .ok (.iload_n 1, 1) := by decide +kernel
theorem d_M_unmarked_3 : decode c_M_unmarked 3 = .ok (.aload_n 0, 1) := by decide +kernel
theorem d_M_unmarked_4 : decode c_M_unmarked 4 = .ok (.getfield 95, 3) := by decide +kernel
theorem d_M_unmarked_7 : decode c_M_unmarked 7 = .ok (.iadd, 1) := by decide +kernel
theorem d_M_unmarked_8 : decode c_M_unmarked 8 = .ok (.iconst 1, 1) := by decide +kernel
theorem d_M_unmarked_9 : decode c_M_unmarked 9 = .ok (.isub, 1) := by decide +kernel
theorem d_M_unmarked_10 : decode c_M_unmarked 10 = .ok (.istore_n 3, 1) := by decide +kernel
theorem d_M_unmarked_11 : decode c_M_unmarked 11 = .ok (.iload_n 3, 1) := by decide +kernel
theorem d_M_unmarked_12 : decode c_M_unmarked 12 = .ok (.iload_n 1, 1) := by decide +kernel
theorem d_M_unmarked_13 : decode c_M_unmarked 13 = .ok (.if_icmp .lt 24, 3) := by decide +kernel
theorem d_M_unmarked_16 : decode c_M_unmarked 16 = .ok (.aload_n 0, 1) := by decide +kernel
theorem d_M_unmarked_17 : decode c_M_unmarked 17 = .ok (.getfield 27, 3) := by decide +kernel
theorem d_M_unmarked_20 : decode c_M_unmarked 20 = .ok (.iload_n 3, 1) := by decide +kernel
theorem d_M_unmarked_21 : decode c_M_unmarked 21 = .ok (.baload, 1) := by decide +kernel
theorem d_M_unmarked_22 : decode c_M_unmarked 22 = .ok (.ifCond .eq 7, 3) := by decide +kernel
theorem d_M_unmarked_25 : decode c_M_unmarked 25 = .ok (.iload_n 2, 1) := by decide +kernel
theorem d_M_unmarked_26 : decode c_M_unmarked 26 = .ok (.goto 4, 3) := by decide +kernel
theorem d_M_unmarked_29 : decode c_M_unmarked 29 = .ok (.iload_n 3, 1) := by decide +kernel
theorem d_M_unmarked_30 : decode c_M_unmarked 30 = .ok (.istore_n 2, 1) := by decide +kernel
theorem d_M_unmarked_31 : decode c_M_unmarked 31 = .ok (.iinc 3 (-1), 3) := by decide +kernel
theorem d_M_unmarked_34 : decode c_M_unmarked 34 = .ok (.goto (-23), 3) := by decide +kernel
theorem d_M_unmarked_37 : decode c_M_unmarked 37 = .ok (.iload_n 1, 1) := by decide +kernel
theorem d_M_unmarked_38 : decode c_M_unmarked 38 = .ok (.istore_n 3, 1) := by decide +kernel
theorem d_M_unmarked_39 : decode c_M_unmarked 39 = .ok (.iload_n 3, 1) := by decide +kernel
theorem d_M_unmarked_40 : decode c_M_unmarked 40 = .ok (.iload_n 1, 1) := by decide +kernel
theorem d_M_unmarked_41 : decode c_M_unmarked 41 = .ok (.aload_n 0, 1) := by decide +kernel
theorem d_M_unmarked_42 : decode c_M_unmarked 42 = .ok (.getfield 95, 3) := by decide +kernel
theorem d_M_unmarked_45 : decode c_M_unmarked 45 = .ok (.iadd, 1) := by decide +kernel
theorem d_M_unmarked_46 : decode c_M_unmarked 46 = .ok (.if_icmp .ge 29, 3) := by decide +kernel
theorem d_M_unmarked_49 : decode c_M_unmarked 49 = .ok (.aload_n 0, 1) := by decide +kernel
theorem d_M_unmarked_50 : decode c_M_unmarked 50 = .ok (.getfield 27, 3) := by decide +kernel
theorem d_M_unmarked_53 : decode c_M_unmarked 53 = .ok (.iload_n 3, 1) := by decide +kernel
theorem d_M_unmarked_54 : decode c_M_unmarked 54 = .ok (.baload, 1) := by decide +kernel
theorem d_M_unmarked_55 : decode c_M_unmarked 55 = .ok (.ifCond .ne 14, 3) := by decide +kernel
theorem d_M_unmarked_58 : decode c_M_unmarked 58 = .ok (.aload_n 0, 1) := by decide +kernel
theorem d_M_unmarked_59 : decode c_M_unmarked 59 = .ok (.getfield 39, 3) := by decide +kernel
theorem d_M_unmarked_62 : decode c_M_unmarked 62 = .ok (.iload_n 3, 1) := by decide +kernel
theorem d_M_unmarked_63 : decode c_M_unmarked 63 = .ok (.baload, 1) := by decide +kernel
theorem d_M_unmarked_64 : decode c_M_unmarked 64 = .ok (.ifCond .ne 5, 3) := by decide +kernel
theorem d_M_unmarked_67 : decode c_M_unmarked 67 = .ok (.iload_n 3, 1) := by decide +kernel
theorem d_M_unmarked_68 : decode c_M_unmarked 68 = .ok (.ireturn, 1) := by decide +kernel
theorem d_M_unmarked_69 : decode c_M_unmarked 69 = .ok (.iinc 3 1, 3) := by decide +kernel
theorem d_M_unmarked_72 : decode c_M_unmarked 72 = .ok (.goto (-33), 3) := by decide +kernel
theorem d_M_unmarked_75 : decode c_M_unmarked 75 = .ok (.iload_n 2, 1) := by decide +kernel
theorem d_M_unmarked_76 : decode c_M_unmarked 76 = .ok (.ireturn, 1) := by decide +kernel
theorem ey_M_byAge : eY y_M_byAge 2 = true := by decide +kernel
theorem d_M_byAge_0 : decode c_M_byAge 0 = .ok (.iconst 0, 1) := by decide +kernel
theorem d_M_byAge_1 : decode c_M_byAge 1 = .ok (.istore_n 3, 1) := by decide +kernel
theorem d_M_byAge_2 : decode c_M_byAge 2 = .ok (.iload_n 1, 1) := by decide +kernel
theorem d_M_byAge_3 : decode c_M_byAge 3 = .ok (.istore 4, 2) := by decide +kernel
theorem d_M_byAge_5 : decode c_M_byAge 5 = .ok (.iload 4, 2) := by decide +kernel
theorem d_M_byAge_7 : decode c_M_byAge 7 = .ok (.iload_n 1, 1) := by decide +kernel
theorem d_M_byAge_8 : decode c_M_byAge 8 = .ok (.aload_n 0, 1) := by decide +kernel
theorem d_M_byAge_9 : decode c_M_byAge 9 = .ok (.getfield 95, 3) := by decide +kernel
theorem d_M_byAge_12 : decode c_M_byAge 12 = .ok (.iadd, 1) := by decide +kernel
theorem d_M_byAge_13 : decode c_M_byAge 13 = .ok (.if_icmp .ge 42, 3) := by decide +kernel
theorem d_M_byAge_16 : decode c_M_byAge 16 = .ok (.aload_n 0, 1) := by decide +kernel
theorem d_M_byAge_17 : decode c_M_byAge 17 = .ok (.getfield 27, 3) := by decide +kernel
theorem d_M_byAge_20 : decode c_M_byAge 20 = .ok (.iload 4, 2) := by decide +kernel
theorem d_M_byAge_22 : decode c_M_byAge 22 = .ok (.baload, 1) := by decide +kernel
theorem d_M_byAge_23 : decode c_M_byAge 23 = .ok (.ifCond .ne 24, 3) := by decide +kernel
theorem d_M_byAge_26 : decode c_M_byAge 26 = .ok (.aload_n 0, 1) := by decide +kernel
theorem d_M_byAge_27 : decode c_M_byAge 27 = .ok (.getfield 42, 3) := by decide +kernel
theorem d_M_byAge_30 : decode c_M_byAge 30 = .ok (.iload 4, 2) := by decide +kernel
theorem d_M_byAge_32 : decode c_M_byAge 32 = .ok (.iaload, 1) := by decide +kernel
theorem d_M_byAge_33 : decode c_M_byAge 33 = .ok (.iload_n 3, 1) := by decide +kernel
theorem d_M_byAge_34 : decode c_M_byAge 34 = .ok (.if_icmp .le 13, 3) := by decide +kernel
theorem d_M_byAge_37 : decode c_M_byAge 37 = .ok (.aload_n 0, 1) := by decide +kernel
theorem d_M_byAge_38 : decode c_M_byAge 38 = .ok (.getfield 42, 3) := by decide +kernel
theorem d_M_byAge_41 : decode c_M_byAge 41 = .ok (.iload 4, 2) := by decide +kernel
theorem d_M_byAge_43 : decode c_M_byAge 43 = .ok (.iaload, 1) := by decide +kernel
theorem d_M_byAge_44 : decode c_M_byAge 44 = .ok (.goto 4, 3) := by decide +kernel
theorem d_M_byAge_47 : decode c_M_byAge 47 = .ok (.iload_n 3, 1) := by decide +kernel
theorem d_M_byAge_48 : decode c_M_byAge 48 = .ok (.istore_n 3, 1) := by decide +kernel
theorem d_M_byAge_49 : decode c_M_byAge 49 = .ok (.iinc 4 1, 3) := by decide +kernel
theorem d_M_byAge_52 : decode c_M_byAge 52 = .ok (.goto (-47), 3) := by decide +kernel
theorem d_M_byAge_55 : decode c_M_byAge 55 = .ok (.iload_n 1, 1) := by decide +kernel
theorem d_M_byAge_56 : decode c_M_byAge 56 = .ok (.istore 4, 2) := by decide +kernel
theorem d_M_byAge_58 : decode c_M_byAge 58 = .ok (.iload 4, 2) := by decide +kernel
theorem d_M_byAge_60 : decode c_M_byAge 60 = .ok (.iload_n 1, 1) := by decide +kernel
theorem d_M_byAge_61 : decode c_M_byAge 61 = .ok (.aload_n 0, 1) := by decide +kernel
theorem d_M_byAge_62 : decode c_M_byAge 62 = .ok (.getfield 95, 3) := by decide +kernel
theorem d_M_byAge_65 : decode c_M_byAge 65 = .ok (.iadd, 1) := by decide +kernel
theorem d_M_byAge_66 : decode c_M_byAge 66 = .ok (.if_icmp .ge 40, 3) := by decide +kernel
theorem d_M_byAge_69 : decode c_M_byAge 69 = .ok (.iload_n 2, 1) := by decide +kernel
theorem d_M_byAge_70 : decode c_M_byAge 70 = .ok (.ifCond .eq 36, 3) := by decide +kernel
theorem d_M_byAge_73 : decode c_M_byAge 73 = .ok (.aload_n 0, 1) := by decide +kernel
theorem d_M_byAge_74 : decode c_M_byAge 74 = .ok (.getfield 42, 3) := by decide +kernel
theorem d_M_byAge_77 : decode c_M_byAge 77 = .ok (.iload 4, 2) := by decide +kernel
theorem d_M_byAge_79 : decode c_M_byAge 79 = .ok (.dup2, 1) := by decide +kernel
theorem d_M_byAge_80 : decode c_M_byAge 80 = .ok (.iaload, 1) := by decide +kernel
theorem d_M_byAge_81 : decode c_M_byAge 81 = .ok (.aload_n 0, 1) := by decide +kernel
theorem d_M_byAge_82 : decode c_M_byAge 82 = .ok (.getfield 27, 3) := by decide +kernel
theorem d_M_byAge_85 : decode c_M_byAge 85 = .ok (.iload 4, 2) := by decide +kernel
theorem d_M_byAge_87 : decode c_M_byAge 87 = .ok (.baload, 1) := by decide +kernel
theorem d_M_byAge_88 : decode c_M_byAge 88 = .ok (.ifCond .eq 7, 3) := by decide +kernel
theorem d_M_byAge_91 : decode c_M_byAge 91 = .ok (.iconst 0, 1) := by decide +kernel
theorem d_M_byAge_92 : decode c_M_byAge 92 = .ok (.goto 6, 3) := by decide +kernel
theorem d_M_byAge_95 : decode c_M_byAge 95 = .ok (.iconst 3, 1) := by decide +kernel
theorem d_M_byAge_96 : decode c_M_byAge 96 = .ok (.iload_n 3, 1) := by decide +kernel
theorem d_M_byAge_97 : decode c_M_byAge 97 = .ok (.isub, 1) := by decide +kernel
theorem d_M_byAge_98 : decode c_M_byAge 98 = .ok (.iadd, 1) := by decide +kernel
theorem d_M_byAge_99 : decode c_M_byAge 99 = .ok (.iastore, 1) := by decide +kernel
theorem d_M_byAge_100 : decode c_M_byAge 100 = .ok (.iinc 4 1, 3) := by decide +kernel
theorem d_M_byAge_103 : decode c_M_byAge 103 = .ok (.goto (-45), 3) := by decide +kernel
theorem d_M_byAge_106 : decode c_M_byAge 106 = .ok (.iload_n 2, 1) := by decide +kernel
theorem d_M_byAge_107 : decode c_M_byAge 107 = .ok (.ifCond .eq 7, 3) := by decide +kernel
theorem d_M_byAge_110 : decode c_M_byAge 110 = .ok (.iconst 3, 1) := by decide +kernel
theorem d_M_byAge_111 : decode c_M_byAge 111 = .ok (.goto 4, 3) := by decide +kernel
theorem d_M_byAge_114 : decode c_M_byAge 114 = .ok (.iload_n 3, 1) := by decide +kernel
theorem d_M_byAge_115 : decode c_M_byAge 115 = .ok (.istore 4, 2) := by decide +kernel
theorem d_M_byAge_117 : decode c_M_byAge 117 = .ok (.iload_n 1, 1) := by decide +kernel
theorem d_M_byAge_118 : decode c_M_byAge 118 = .ok (.istore 5, 2) := by decide +kernel
theorem d_M_byAge_120 : decode c_M_byAge 120 = .ok (.aload_n 0, 1) := by decide +kernel
theorem d_M_byAge_121 : decode c_M_byAge 121 = .ok (.getfield 27, 3) := by decide +kernel
theorem d_M_byAge_124 : decode c_M_byAge 124 = .ok (.iload 5, 2) := by decide +kernel
theorem d_M_byAge_126 : decode c_M_byAge 126 = .ok (.baload, 1) := by decide +kernel
theorem d_M_byAge_127 : decode c_M_byAge 127 = .ok (.ifCond .ne 15, 3) := by decide +kernel
theorem d_M_byAge_130 : decode c_M_byAge 130 = .ok (.aload_n 0, 1) := by decide +kernel
theorem d_M_byAge_131 : decode c_M_byAge 131 = .ok (.getfield 42, 3) := by decide +kernel
theorem d_M_byAge_134 : decode c_M_byAge 134 = .ok (.iload 5, 2) := by decide +kernel
theorem d_M_byAge_136 : decode c_M_byAge 136 = .ok (.iaload, 1) := by decide +kernel
theorem d_M_byAge_137 : decode c_M_byAge 137 = .ok (.iload 4, 2) := by decide +kernel
theorem d_M_byAge_139 : decode c_M_byAge 139 = .ok (.if_icmp .eq 9, 3) := by decide +kernel
theorem d_M_byAge_142 : decode c_M_byAge 142 = .ok (.iinc 5 1, 3) := by decide +kernel
theorem d_M_byAge_145 : decode c_M_byAge 145 = .ok (.goto (-25), 3) := by decide +kernel
theorem d_M_byAge_148 : decode c_M_byAge 148 = .ok (.iload 5, 2) := by decide +kernel
theorem d_M_byAge_150 : decode c_M_byAge 150 = .ok (.ireturn, 1) := by decide +kernel
theorem ey_M_pick : eY y_M_pick 2 = true := by decide +kernel
theorem d_M_pick_0 : decode c_M_pick 0 = .ok (.aload_n 0, 1) := by decide +kernel
theorem d_M_pick_1 : decode c_M_pick 1 = .ok (.getfield 98, 3) := by decide +kernel
theorem d_M_pick_4 : decode c_M_pick 4 = .ok (.tableswitch 73 3 8 #[40, 73, 47, 54, 60, 66], 40) := by decide +kernel
theorem d_M_pick_44 : decode c_M_pick 44 = .ok (.aload_n 0, 1) := by decide +kernel
theorem d_M_pick_45 : decode c_M_pick 45 = .ok (.iload_n 1, 1) := by decide +kernel
theorem d_M_pick_46 : decode c_M_pick 46 = .ok (.iload_n 2, 1) := by decide +kernel
theorem d_M_pick_47 : decode c_M_pick 47 = .ok (.invokevirtual 138, 3) := by decide +kernel
theorem d_M_pick_50 : decode c_M_pick 50 = .ok (.ireturn, 1) := by decide +kernel
theorem d_M_pick_51 : decode c_M_pick 51 = .ok (.aload_n 0, 1) := by decide +kernel
theorem d_M_pick_52 : decode c_M_pick 52 = .ok (.iload_n 1, 1) := by decide +kernel
theorem d_M_pick_53 : decode c_M_pick 53 = .ok (.iload_n 2, 1) := by decide +kernel
theorem d_M_pick_54 : decode c_M_pick 54 = .ok (.invokevirtual 142, 3) := by decide +kernel
theorem d_M_pick_57 : decode c_M_pick 57 = .ok (.ireturn, 1) := by decide +kernel
theorem d_M_pick_58 : decode c_M_pick 58 = .ok (.aload_n 0, 1) := by decide +kernel
theorem d_M_pick_59 : decode c_M_pick 59 = .ok (.iload_n 1, 1) := by decide +kernel
theorem d_M_pick_60 : decode c_M_pick 60 = .ok (.invokevirtual 145, 3) := by decide +kernel
theorem d_M_pick_63 : decode c_M_pick 63 = .ok (.ireturn, 1) := by decide +kernel
theorem d_M_pick_64 : decode c_M_pick 64 = .ok (.aload_n 0, 1) := by decide +kernel
theorem d_M_pick_65 : decode c_M_pick 65 = .ok (.iload_n 1, 1) := by decide +kernel
theorem d_M_pick_66 : decode c_M_pick 66 = .ok (.invokevirtual 148, 3) := by decide +kernel
theorem d_M_pick_69 : decode c_M_pick 69 = .ok (.ireturn, 1) := by decide +kernel
theorem d_M_pick_70 : decode c_M_pick 70 = .ok (.aload_n 0, 1) := by decide +kernel
theorem d_M_pick_71 : decode c_M_pick 71 = .ok (.iload_n 1, 1) := by decide +kernel
theorem d_M_pick_72 : decode c_M_pick 72 = .ok (.iload_n 2, 1) := by decide +kernel
theorem d_M_pick_73 : decode c_M_pick 73 = .ok (.invokevirtual 151, 3) := by decide +kernel
theorem d_M_pick_76 : decode c_M_pick 76 = .ok (.ireturn, 1) := by decide +kernel
theorem d_M_pick_77 : decode c_M_pick 77 = .ok (.aload_n 0, 1) := by decide +kernel
theorem d_M_pick_78 : decode c_M_pick 78 = .ok (.iload_n 1, 1) := by decide +kernel
theorem d_M_pick_79 : decode c_M_pick 79 = .ok (.invokevirtual 154, 3) := by decide +kernel
theorem d_M_pick_82 : decode c_M_pick 82 = .ok (.ireturn, 1) := by decide +kernel
def lcg (x : Int32) : Int32 := (1103515245 * x + 12345) &&& 2147483647
/-- by hand: marks and hand behind the loop, if it ends within t steps -/
def hndO (lk : Nat → Bool) (wd : Nat) : Nat → (Nat → Int32) → Nat → Option ((Nat → Int32) × Nat)
  | 0, _, _ => none
  | t + 1, g, h => if lk h = false ∧ g h = 0 then some (g, h) else hndO lk wd t (if lk h then g else upd g h 0) ((h + 1) % wd)
/-- the next one that is right, going up and round, if it comes within t steps -/
def twO (lk : Nat → Bool) (wd P : Nat) : Nat → Nat → Option Nat
  | 0, _ => none
  | t + 1, w => if w < wd ∧ lk w = false then some w else twO lk wd P t ((w + 1) % P)
/-- where the bits point -/
def trM (g : Nat → Int32) (b0 P : Nat) : Nat → Nat → Nat
  | 0, node => node
  | t + 1, node => if node < P then trM g b0 P t (2 * node + (if g (b0 + node) = 0 then 0 else 1)) else node
/-- the greatest age of those that are free -/
def mxA (lk : Nat → Bool) (g : Nat → Int32) : Int32 → Nat → Nat → Int32
  | y, _, 0 => y
  | y, k, q + 1 => mxA lk g (if lk k = false ∧ ¬ g k ≤ y then g k else y) (k + 1) q
/-- all that are free grow older by y, from slot lo up to hi -/
def agM (lk : Nat → Bool) (g : Nat → Int32) (y : Int32) (lo hi : Nat) : Nat → Int32 := fun j => if lo ≤ j ∧ j < hi ∧ lk j = false then g j + y else g j
theorem agM_0 (lk : Nat → Bool) (g : Nat → Int32) (y : Int32) (lo : Nat) : agM lk g y lo lo = g := by
  funext j
  unfold agM
  rw [if_neg (by omega)]
theorem agM_l {lk : Nat → Bool} {g : Nat → Int32} {y : Int32} {lo k : Nat} (h : lk k = true) : agM lk g y lo (k + 1) = upd (agM lk g y lo k) k (agM lk g y lo k k + 0) := by
  funext j
  by_cases hj : j = k
  · subst hj
    rw [pk_us]
    unfold agM
    rw [if_neg (fun z => by rw [h] at z; exact absurd z.2.2 (by decide)), if_neg (by omega), Int32.add_zero]
  · rw [pk_un hj]
    unfold agM
    by_cases h2 : lo ≤ j ∧ j < k ∧ lk j = false
    · rw [if_pos ⟨h2.1, by omega, h2.2.2⟩, if_pos h2]
    · rw [if_neg (fun z => h2 ⟨z.1, by omega, z.2.2⟩), if_neg h2]
theorem agM_s {lk : Nat → Bool} {g : Nat → Int32} {y : Int32} {lo k : Nat} (hk : lo ≤ k) (h : lk k = false) : agM lk g y lo (k + 1) = upd (agM lk g y lo k) k (agM lk g y lo k k + y) := by
  funext j
  by_cases hj : j = k
  · subst hj
    rw [pk_us]
    unfold agM
    rw [if_pos ⟨hk, by omega, h⟩, if_neg (by omega)]
  · rw [pk_un hj]
    unfold agM
    by_cases h2 : lo ≤ j ∧ j < k ∧ lk j = false
    · rw [if_pos ⟨h2.1, by omega, h2.2.2⟩, if_pos h2]
    · rw [if_neg (fun z => h2 ⟨z.1, by omega, z.2.2⟩), if_neg h2]
/-- marks copied -/
def cpM (g : Nat → Int32) (b0 : Nat) (o : Nat → Int32) (k : Nat) : Nat → Int32 := fun j => if j < k then g (b0 + j) else o j
theorem cpM_0 (g : Nat → Int32) (b0 : Nat) (o : Nat → Int32) : cpM g b0 o 0 = o := by
  funext j
  simp [cpM]
theorem cpM_s (g : Nat → Int32) (b0 : Nat) (o : Nat → Int32) (k : Nat) : cpM g b0 o (k + 1) = upd (cpM g b0 o k) k (g (b0 + k)) := by
  funext j
  by_cases hj : j = k
  · subst hj
    rw [pk_us]
    simp [cpM]
  · rw [pk_un hj]
    unfold cpM
    by_cases h2 : j < k
    · rw [if_pos (by omega), if_pos h2]
    · rw [if_neg (by omega), if_neg h2]
/-- marks copied back -/
def cbM (g : Nat → Int32) (b0 : Nat) (o : Nat → Int32) (k : Nat) : Nat → Int32 := fun j => if b0 ≤ j ∧ j < b0 + k then g (j - b0) else o j
theorem cbM_0 (g : Nat → Int32) (b0 : Nat) (o : Nat → Int32) : cbM g b0 o 0 = o := by
  funext j
  unfold cbM
  rw [if_neg (by omega)]
theorem cbM_s (g : Nat → Int32) (b0 : Nat) (o : Nat → Int32) (k : Nat) : cbM g b0 o (k + 1) = upd (cbM g b0 o k) (b0 + k) (g k) := by
  funext j
  by_cases hj : j = b0 + k
  · subst hj
    rw [pk_us]
    unfold cbM
    rw [if_pos (by omega), show b0 + k - b0 = k by omega]
  · rw [pk_un hj]
    unfold cbM
    by_cases h2 : b0 ≤ j ∧ j < b0 + k
    · rw [if_pos (by omega), if_pos h2]
    · rw [if_neg (by omega), if_neg h2]
def BL (g : Nat → Int32) : Prop := ∀ j, g j = 0 ∨ g j = 1
theorem BL.nar {g : Nat → Int32} (h : BL g) (j : Nat) : vp_nar .boolean (g j) = g j := by
  rcases h j with e | e <;> rw [e] <;> rfl
theorem BL.up {g : Nat → Int32} (h : BL g) (k : Nat) {x : Int32} (hx : x = 0 ∨ x = 1) : BL (upd g k x) := by
  intro j
  by_cases hj : j = k
  · subst hj
    rw [pk_us]
    exact hx
  · rw [pk_un hj]
    exact h j
section M2
variable {l : Launch} {G : EG} {a : Nat → Nat} {m : CS} {S wd V kd s w : Nat} {ws : va_W}
set_option maxRecDepth 100000 in
theorem k_M_byChance (h : MD m.1 S wd V kd) (hs : s < 16) (mv : Bool) {x r : Nat} (hx : x < 2 ^ 31) (h20 : m.1 20 = nI x) (hn : cntU (lkM m.2) 0 (8 * s) wd ≠ 0) (hr : nthU (lkM m.2) (x / 65536 % cntU (lkM m.2) 0 (8 * s) wd) (8 * s) wd = some r) :
    Con l G y_M_byChance c_M_byChance 6 (some .int) (rz 0 0) [.ref (a 40), .int (nI (8 * s)), .int (bI mv)] (mF G a m.1 m.2) (DI (nI r) (mF G a (if mv then upd m.1 20 (lcg (m.1 20)) else m.1) m.2)) := by
  refine Con.of rfl rfl (fun X C E hR hl hnm => ?_)
  have hw8 := h.w8
  have hb0 : 8 * s + 8 ≤ 128 := by omega
  refine e_iconst C d_M_byChance_0 (v := 0) (by decide) ?_
  refine e_istore_n C d_M_byChance_1 rfl ?_
  refine e_iload_n C d_M_byChance_2 rfl ?_
  refine e_istore C d_M_byChance_3 rfl ?_
  generalize 8 * s = b0 at E hb0 hn hr ⊢
  have fin : ∀ (v : Nat → Int32) (c : Nat), v = (if mv then upd m.1 20 (lcg (m.1 20)) else m.1) → c < 2 ^ 20 → nthU (lkM m.2) c b0 wd = some r → EW X G 6 0 0 73 [(0, .ref (a 40)), (1, .int (nI b0)), (4, .int (nI c))] [] (mF G a v m.2) := by
    intro v c hv hc hr
    rw [← hv] at E
    refine e_iload_n C d_M_byChance_73 rfl ?_
    refine e_istore C d_M_byChance_74 rfl ?_
    have L2 : ∀ (q k t : Nat), k + q = b0 + wd → t < 2 ^ 20 → nthU (lkM m.2) t k q = some r → EW X G 6 0 0 76 [(0, .ref (a 40)), (4, .int (nI t)), (5, .int (nI k))] [] (mF G a v m.2) := by
      intro q
      induction q with
      | zero => intro k t hk ht hf; cases hf
      | succ q ih =>
        intro k t hk ht hf
        rw [nthU] at hf
        refine e_aload_n C d_M_byChance_76 rfl ?_
        refine e_get C 0 (k := 11) in_M g755 d_M_byChance_77 rfl rfl rfl rfl ?_
        refine e_iload C d_M_byChance_80 rfl ?_
        refine e_zald C 5 1 d_M_byChance_82 rfl rfl k rfl (by omega) (by omega) ?_
        refine e_if_ne C d_M_byChance_83 (tgt := 91) (by decide) (fun h83 => ?_) (fun h83 => ?_)
        · have hh : lkM m.2 k = true := by simp [lkM]; exact h83
          rw [if_pos hh] at hf
          refine e_iload C d_M_byChance_91 rfl ?_
          refine e_aload_n C d_M_byChance_93 rfl ?_
          refine e_get C 0 (k := 11) in_M g755 d_M_byChance_94 rfl rfl rfl rfl ?_
          refine e_iload C d_M_byChance_97 rfl ?_
          refine e_zald C 5 1 d_M_byChance_99 rfl rfl k rfl (by omega) (by omega) ?_
          refine e_if_eq C d_M_byChance_100 (tgt := 107) (by decide) (fun h100 => ?_) (fun h100 => ?_)
          · exact absurd h100 h83
          · skip
            refine e_iconst C d_M_byChance_103 (v := 0) (by decide) ?_
            refine e_goto C d_M_byChance_104 (tgt := 108) (by decide) ?_
            refine e_isub C d_M_byChance_108 ?_
            refine e_top (y := nI t) (by rw [Int32.sub_zero]) ?_
            refine e_istore C d_M_byChance_109 rfl ?_
            refine e_iinc C d_M_byChance_111 rfl (nI_1 k) rfl ?_
            refine e_goto C d_M_byChance_114 (tgt := 76) (by decide) ?_
            exact e_lv2 (ih (k + 1) t (by omega) ht hf) rfl
        · have hh : lkM m.2 k = false := by simp [lkM]; exact h83
          rw [if_neg (by rw [hh]; decide)] at hf
          refine e_iload C d_M_byChance_86 rfl ?_
          refine e_if_le C d_M_byChance_88 (tgt := 117) (by decide) (fun h88 => ?_) (fun h88 => ?_)
          · have ht0 : t = 0 := by
              rcases Nat.eq_zero_or_pos t with z | z
              · exact z
              · exact absurd h88 (nI_nle z (by omega))
            rw [if_pos ht0] at hf
            cases hf
            refine e_iload C d_M_byChance_117 rfl ?_
            exact e_iret C E d_M_byChance_119 (Nat.le_refl _) (Nat.le_refl _) rfl ⟨rfl, rfl⟩
          · have ht0 : ¬ t = 0 := fun z => h88 (by rw [z]; decide)
            rw [if_neg ht0] at hf
            obtain ⟨t', rfl⟩ : ∃ t', t = t' + 1 := ⟨t - 1, by omega⟩
            refine e_iload C d_M_byChance_91 rfl ?_
            refine e_aload_n C d_M_byChance_93 rfl ?_
            refine e_get C 0 (k := 11) in_M g755 d_M_byChance_94 rfl rfl rfl rfl ?_
            refine e_iload C d_M_byChance_97 rfl ?_
            refine e_zald C 5 1 d_M_byChance_99 rfl rfl k rfl (by omega) (by omega) ?_
            refine e_if_eq C d_M_byChance_100 (tgt := 107) (by decide) (fun h100 => ?_) (fun h100 => ?_)
            · skip
              refine e_iconst C d_M_byChance_107 (v := 1) (by decide) ?_
              refine e_isub C d_M_byChance_108 ?_
              refine e_top (nI_pred t') ?_
              refine e_istore C d_M_byChance_109 rfl ?_
              refine e_iinc C d_M_byChance_111 rfl (nI_1 k) rfl ?_
              refine e_goto C d_M_byChance_114 (tgt := 76) (by decide) ?_
              exact e_lv2 (ih (k + 1) t' (by omega) (by omega) hf) rfl
            · exact absurd h83 h100
    exact e_lv2 (L2 wd b0 c rfl hc hr) rfl
  have L : ∀ (q k c : Nat), k + q = b0 + wd → c ≤ k → cntU (lkM m.2) c k q = cntU (lkM m.2) 0 b0 wd → EW X G 6 0 0 5 [(0, .ref (a 40)), (1, .int (nI b0)), (2, .int (bI mv)), (3, .int (nI c)), (4, .int (nI k))] [] (mF G a m.1 m.2) := by
    intro q
    induction q with
    | zero =>
      intro k c hk hck hf
      have hf : c = _ := hf
      rw [← hf] at hn hr
      refine e_iload C d_M_byChance_5 rfl ?_
      refine e_iload_n C d_M_byChance_7 rfl ?_
      refine e_aload_n C d_M_byChance_8 rfl ?_
      refine e_get C 0 (k := 2) in_M g746 d_M_byChance_9 rfl rfl rfl rfl ?_
      refine e_top h.2.1 ?_
      refine e_iadd C d_M_byChance_12 ?_
      refine e_top (nI_add _ _) ?_
      refine e_icmp_ge C d_M_byChance_13 (tgt := 40) (by decide) (fun h13 => ?_) (fun h13 => ?_)
      · have hlt : x / 65536 % c < c := Nat.mod_lt _ (by omega)
        refine e_aload_n C d_M_byChance_40 rfl ?_
        refine e_get C 0 (k := 20) in_M g764 d_M_byChance_41 rfl rfl rfl rfl ?_
        refine e_top h20 ?_
        refine e_ldc C g940 d_M_byChance_44 ?_
        refine e_top (y := nI 65536) rfl ?_
        refine e_idiv C d_M_byChance_46 (nI_ne0 (by omega) (by omega)) ?_
        refine e_top (pk_div hx (by omega) (by omega)) ?_
        refine e_iload_n C d_M_byChance_47 rfl ?_
        refine e_irem C d_M_byChance_48 (nI_ne0 (by omega) (by omega)) ?_
        refine e_top (pk_rem (by omega) (by omega) (by omega)) ?_
        refine e_istore C d_M_byChance_49 rfl ?_
        refine e_iload_n C d_M_byChance_51 rfl ?_
        refine e_if_eq C d_M_byChance_52 (tgt := 73) (by decide) (fun h52 => ?_) (fun h52 => ?_)
        · rw [bI_0] at h52
          exact e_lv2 (fin m.1 _ (by rw [h52]; rfl) (by omega) hr) rfl
        · rw [bI_n] at h52
          refine e_aload_n C d_M_byChance_55 rfl ?_
          refine e_ldc C g941 d_M_byChance_56 ?_
          refine e_aload_n C d_M_byChance_58 rfl ?_
          refine e_get C 0 (k := 20) in_M g764 d_M_byChance_59 rfl rfl rfl rfl ?_
          refine e_imul C d_M_byChance_62 ?_
          refine e_sipush C d_M_byChance_63 (v := 12345) (by decide) ?_
          refine e_iadd C d_M_byChance_66 ?_
          refine e_ldc C g942 d_M_byChance_67 ?_
          refine e_iand C d_M_byChance_69 ?_
          refine e_put C 0 (k := 20) in_M tk_M nm_M g764 d_M_byChance_70 rfl rfl rfl rfl rfl rfl rfl rfl ?_
          refine e_eq (ws' := mF G a (upd m.1 20 (lcg (m.1 20))) m.2) rfl ?_
          exact e_lv2 (fin _ _ (by rw [h52]; rfl) (by omega) hr) rfl
      · exact absurd (nI_le (by omega) (by omega)) h13
    | succ q ih =>
      intro k c hk hck hf
      refine e_iload C d_M_byChance_5 rfl ?_
      refine e_iload_n C d_M_byChance_7 rfl ?_
      refine e_aload_n C d_M_byChance_8 rfl ?_
      refine e_get C 0 (k := 2) in_M g746 d_M_byChance_9 rfl rfl rfl rfl ?_
      refine e_top h.2.1 ?_
      refine e_iadd C d_M_byChance_12 ?_
      refine e_top (nI_add _ _) ?_
      refine e_icmp_ge C d_M_byChance_13 (tgt := 40) (by decide) (fun h13 => ?_) (fun h13 => ?_)
      · exact absurd h13 (nI_ge (by omega) (by omega))
      · skip
        refine e_iload_n C d_M_byChance_16 rfl ?_
        refine e_aload_n C d_M_byChance_17 rfl ?_
        refine e_get C 0 (k := 11) in_M g755 d_M_byChance_18 rfl rfl rfl rfl ?_
        refine e_iload C d_M_byChance_21 rfl ?_
        refine e_zald C 5 1 d_M_byChance_23 rfl rfl k rfl (by omega) (by omega) ?_
        refine e_if_eq C d_M_byChance_24 (tgt := 31) (by decide) (fun h24 => ?_) (fun h24 => ?_)
        · have hh : lkM m.2 k = false := by simp [lkM]; exact h24
          refine e_iconst C d_M_byChance_31 (v := 1) (by decide) ?_
          refine e_iadd C d_M_byChance_32 ?_
          refine e_top (nI_1 c) ?_
          refine e_istore_n C d_M_byChance_33 rfl ?_
          refine e_iinc C d_M_byChance_34 rfl (nI_1 k) rfl ?_
          refine e_goto C d_M_byChance_37 (tgt := 5) (by decide) ?_
          exact e_lv2 (ih (k + 1) (c + 1) (by omega) (by omega) (by rw [← hf]; simp [cntU, hh])) rfl
        · have hh : lkM m.2 k = true := by simp [lkM]; exact h24
          refine e_iconst C d_M_byChance_27 (v := 0) (by decide) ?_
          refine e_goto C d_M_byChance_28 (tgt := 32) (by decide) ?_
          refine e_iadd C d_M_byChance_32 ?_
          refine e_top (y := nI c) (by rw [Int32.add_zero]) ?_
          refine e_istore_n C d_M_byChance_33 rfl ?_
          refine e_iinc C d_M_byChance_34 rfl (nI_1 k) rfl ?_
          refine e_goto C d_M_byChance_37 (tgt := 5) (by decide) ?_
          exact e_lv2 (ih (k + 1) c (by omega) (by omega) (by rw [← hf]; simp [cntU, hh])) rfl
  exact e_lv2 (L wd b0 0 rfl (by omega) rfl) rfl
set_option maxRecDepth 100000 in
theorem k_M_byTree (h : MD m.1 S wd V kd) (hs : s < 16) {r : Nat} (hr : twO (fun w => lkM m.2 (8 * s + w)) wd (lvN wd) 16 (trM (m.2 19) (8 * s) (lvN wd) 4 1 - lvN wd) = some r) : Con l G y_M_byTree c_M_byTree 5 (some .int) (rz 1 20) [.ref (a 40), .int (nI (8 * s))] (mF G a m.1 m.2) (DI (nI (8 * s + r)) (mF G a m.1 m.2)) := by
  refine Con.of rfl rfl (fun X C E hR hl hnm => ?_)
  have hw8 := h.w8
  have hP := lvN_8 wd
  have hb0 : 8 * s + 8 ≤ 128 := by omega
  refine e_aload_n C d_M_byTree_0 rfl ?_
  refine e_cVi C hR 0 (k_M_treeSize h) g907 g14 g904 g906 (gt_sel 20 (by decide +kernel) (by decide +kernel)) d_M_byTree_1 rfl ey_M_treeSize rfl rfl rfl rfl ⟨Nat.zero_le _, Nat.zero_le _⟩ ?_
  refine e_istore_n C d_M_byTree_4 rfl ?_
  refine e_iconst C d_M_byTree_5 (v := 1) (by decide) ?_
  refine e_istore_n C d_M_byTree_6 rfl ?_
  generalize lvN wd = P at hP hr ⊢
  generalize 8 * s = b0 at E hb0 hr ⊢
  have fin : ∀ (t w0 : Nat), w0 < 8 → twO (fun w => lkM m.2 (b0 + w)) wd P t w0 = some r → EW X G 5 0 0 41 [(0, .ref (a 40)), (1, .int (nI b0)), (2, .int (nI P)), (4, .int (nI w0))] [] (mF G a m.1 m.2) := by
    intro t
    induction t with
    | zero => intro w0 hw0 hf; cases hf
    | succ t ih =>
      intro w0 hw0 hf
      rw [twO] at hf
      have nxt : ¬ (w0 < wd ∧ lkM m.2 (b0 + w0) = false) → EW X G 5 0 0 62 [(0, .ref (a 40)), (1, .int (nI b0)), (2, .int (nI P)), (4, .int (nI w0))] [] (mF G a m.1 m.2) := by
        intro hne
        rw [if_neg hne] at hf
        have hml : (w0 + 1) % P < P := Nat.mod_lt _ (by omega)
        refine e_iload C d_M_byTree_62 rfl ?_
        refine e_iconst C d_M_byTree_64 (v := 1) (by decide) ?_
        refine e_iadd C d_M_byTree_65 ?_
        refine e_top (nI_1 w0) ?_
        refine e_iload_n C d_M_byTree_66 rfl ?_
        refine e_irem C d_M_byTree_67 (nI_ne0 (by omega) (by omega)) ?_
        refine e_top (pk_rem (by omega) (by omega) (by omega)) ?_
        refine e_istore C d_M_byTree_68 rfl ?_
        refine e_goto C d_M_byTree_70 (tgt := 41) (by decide) ?_
        exact e_lv2 (ih _ (by omega) hf) rfl
      refine e_iload C d_M_byTree_41 rfl ?_
      refine e_aload_n C d_M_byTree_43 rfl ?_
      refine e_get C 0 (k := 2) in_M g746 d_M_byTree_44 rfl rfl rfl rfl ?_
      refine e_top h.2.1 ?_
      refine e_icmp_ge C d_M_byTree_47 (tgt := 62) (by decide) (fun h47 => ?_) (fun h47 => ?_)
      · rw [nI_leI (by omega) (by omega)] at h47
        exact e_lv2 (nxt (fun z => by omega)) rfl
      · rw [nI_leI (by omega) (by omega)] at h47
        refine e_aload_n C d_M_byTree_50 rfl ?_
        refine e_get C 0 (k := 11) in_M g755 d_M_byTree_51 rfl rfl rfl rfl ?_
        refine e_iload_n C d_M_byTree_54 rfl ?_
        refine e_iload C d_M_byTree_55 rfl ?_
        refine e_iadd C d_M_byTree_57 ?_
        refine e_zald C 5 1 d_M_byTree_58 rfl rfl (b0 + w0) (nI_add _ _) (by omega) (by omega) ?_
        refine e_if_eq C d_M_byTree_59 (tgt := 73) (by decide) (fun h59 => ?_) (fun h59 => ?_)
        · have hh : lkM m.2 (b0 + w0) = false := by simp [lkM]; exact h59
          rw [if_pos ⟨by omega, hh⟩] at hf
          cases hf
          refine e_iload_n C d_M_byTree_73 rfl ?_
          refine e_iload C d_M_byTree_74 rfl ?_
          refine e_iadd C d_M_byTree_76 ?_
          refine e_top (nI_add _ _) ?_
          exact e_iret C E d_M_byTree_77 (Nat.le_refl _) (Nat.le_refl _) rfl ⟨rfl, rfl⟩
        · have hh : lkM m.2 (b0 + w0) = true := by simp [lkM]; exact h59
          exact e_lv2 (nxt (fun z => by rw [hh] at z; exact absurd z.2 (by decide))) rfl
  have L : ∀ (q node : Nat), node * 2 ^ q ≥ P → node < 2 * P → 1 ≤ node → trM (m.2 19) b0 P q node = trM (m.2 19) b0 P 4 1 → EW X G 5 0 0 7 [(0, .ref (a 40)), (1, .int (nI b0)), (2, .int (nI P)), (3, .int (nI node))] [] (mF G a m.1 m.2) := by
    have go : ∀ node : Nat, P ≤ node → node < 2 * P → node = trM (m.2 19) b0 P 4 1 → EW X G 5 0 0 36 [(0, .ref (a 40)), (1, .int (nI b0)), (2, .int (nI P)), (3, .int (nI node))] [] (mF G a m.1 m.2) := by
      intro node h1 h2 hf
      rw [← hf] at hr
      refine e_iload_n C d_M_byTree_36 rfl ?_
      refine e_iload_n C d_M_byTree_37 rfl ?_
      refine e_isub C d_M_byTree_38 ?_
      refine e_top (pk_sub h1) ?_
      refine e_istore C d_M_byTree_39 rfl ?_
      exact e_lv2 (fin 16 (node - P) (by omega) hr) rfl
    intro q
    induction q with
    | zero =>
      intro node h1 h2 h3 hf
      have hf : node = _ := hf
      refine e_iload_n C d_M_byTree_7 rfl ?_
      refine e_iload_n C d_M_byTree_8 rfl ?_
      refine e_icmp_ge C d_M_byTree_9 (tgt := 36) (by decide) (fun h9 => ?_) (fun h9 => ?_)
      · exact go node (by omega) h2 hf
      · exact absurd (nI_le (by omega) (by omega)) h9
    | succ q ih =>
      intro node h1 h2 h3 hf
      refine e_iload_n C d_M_byTree_7 rfl ?_
      refine e_iload_n C d_M_byTree_8 rfl ?_
      refine e_icmp_ge C d_M_byTree_9 (tgt := 36) (by decide) (fun h9 => ?_) (fun h9 => ?_)
      · rw [nI_leI (by omega) (by omega)] at h9
        exact go node h9 h2 (by rw [← hf]; simp only [trM, if_neg (show ¬ node < P by omega)])
      · rw [nI_leI (by omega) (by omega)] at h9
        rw [trM, if_pos (show node < P by omega)] at hf
        have hq : ∀ d : Nat, P ≤ (2 * node + d) * 2 ^ q := by
          intro d
          calc P ≤ node * 2 ^ (q + 1) := h1
            _ = 2 * node * 2 ^ q := by rw [Nat.pow_succ]; ac_rfl
            _ ≤ (2 * node + d) * 2 ^ q := Nat.mul_le_mul_right _ (by omega)
        refine e_iconst C d_M_byTree_12 (v := nI 2) (by decide) ?_
        refine e_iload_n C d_M_byTree_13 rfl ?_
        refine e_imul C d_M_byTree_14 ?_
        refine e_top (pk_mul _ _) ?_
        refine e_aload_n C d_M_byTree_15 rfl ?_
        refine e_get C 0 (k := 19) in_M g763 d_M_byTree_16 rfl rfl rfl rfl ?_
        refine e_iload_n C d_M_byTree_19 rfl ?_
        refine e_iload_n C d_M_byTree_20 rfl ?_
        refine e_iadd C d_M_byTree_21 ?_
        refine e_zald C 12 1 d_M_byTree_22 rfl rfl (b0 + node) (nI_add _ _) (by omega) (by omega) ?_
        refine e_if_eq C d_M_byTree_23 (tgt := 30) (by decide) (fun h23 => ?_) (fun h23 => ?_)
        · rw [if_pos h23] at hf
          refine e_iconst C d_M_byTree_30 (v := 0) (by decide) ?_
          refine e_iadd C d_M_byTree_31 ?_
          refine e_top (y := nI (2 * node + 0)) (by rw [Int32.add_zero]; rfl) ?_
          refine e_istore_n C d_M_byTree_32 rfl ?_
          refine e_goto C d_M_byTree_33 (tgt := 7) (by decide) ?_
          exact e_lv2 (ih (2 * node + 0) (hq 0) (by omega) (by omega) hf) rfl
        · rw [if_neg h23] at hf
          refine e_iconst C d_M_byTree_26 (v := 1) (by decide) ?_
          refine e_goto C d_M_byTree_27 (tgt := 31) (by decide) ?_
          refine e_iadd C d_M_byTree_31 ?_
          refine e_top (nI_1 _) ?_
          refine e_istore_n C d_M_byTree_32 rfl ?_
          refine e_goto C d_M_byTree_33 (tgt := 7) (by decide) ?_
          exact e_lv2 (ih (2 * node + 1) (hq 1) (by omega) (by omega) hf) rfl
  exact e_lv2 (L 4 1 (by omega) (by omega) (Nat.le_refl _) rfl) rfl
/-- the first without a mark, or the first one -/
def umO (lk mk : Nat → Bool) (b0 wd : Nat) : Option Nat := match fst1 (fun k => !lk k && !mk k) b0 wd with
  | some k => some k
  | none => fst1 (fun k => !lk k) b0 wd
def mkM (f : Nat → Nat → Int32) (j : Nat) : Bool := !(f 16 j == 0)
theorem pred_lt {b : Nat} (h : b < 2 ^ 20) : nI b - 1 < nI b := by
  cases b with
  | zero => decide
  | succ b => rw [nI_pred]; exact nI_lt (by omega) (by omega)
set_option maxRecDepth 100000 in
theorem k_M_unmarked (h : MD m.1 S wd V kd) (hs : s < 16) : Con l G y_M_unmarked c_M_unmarked 4 (some .int) (rz 0 0) [.ref (a 40), .int (nI (8 * s))] (mF G a m.1 m.2) (DI (oI (umO (lkM m.2) (mkM m.2) (8 * s) wd)) (mF G a m.1 m.2)) := by
  refine Con.of rfl rfl (fun X C E hR hl hnm => ?_)
  have hw8 := h.w8
  have hb0 : 8 * s + 8 ≤ 128 := by omega
  unfold umO at E
  refine e_iconst C d_M_unmarked_0 (v := (-1)) (by decide) ?_
  refine e_istore_n C d_M_unmarked_1 rfl ?_
  refine e_iload_n C d_M_unmarked_2 rfl ?_
  refine e_aload_n C d_M_unmarked_3 rfl ?_
  refine e_get C 0 (k := 2) in_M g746 d_M_unmarked_4 rfl rfl rfl rfl ?_
  refine e_top h.2.1 ?_
  refine e_iadd C d_M_unmarked_7 ?_
  refine e_top (nI_add _ _) ?_
  refine e_iconst C d_M_unmarked_8 (v := 1) (by decide) ?_
  refine e_isub C d_M_unmarked_9 ?_
  refine e_istore_n C d_M_unmarked_10 rfl ?_
  generalize 8 * s = b0 at E hb0 ⊢
  have fin : EW X G 4 0 0 37 [(0, .ref (a 40)), (1, .int (nI b0)), (2, .int (oI (fst1 (fun k => !lkM m.2 k) b0 wd)))] [] (mF G a m.1 m.2) := by
    refine e_iload_n C d_M_unmarked_37 rfl ?_
    refine e_istore_n C d_M_unmarked_38 rfl ?_
    have L2 : ∀ (q k : Nat), k + q = b0 + wd → fst1 (fun k => !lkM m.2 k && !mkM m.2 k) k q = fst1 (fun k => !lkM m.2 k && !mkM m.2 k) b0 wd → EW X G 4 0 0 39 [(0, .ref (a 40)), (1, .int (nI b0)), (2, .int (oI (fst1 (fun k => !lkM m.2 k) b0 wd))), (3, .int (nI k))] [] (mF G a m.1 m.2) := by
      intro q
      induction q with
      | zero =>
        intro k hk hf
        rw [← hf] at E
        refine e_iload_n C d_M_unmarked_39 rfl ?_
        refine e_iload_n C d_M_unmarked_40 rfl ?_
        refine e_aload_n C d_M_unmarked_41 rfl ?_
        refine e_get C 0 (k := 2) in_M g746 d_M_unmarked_42 rfl rfl rfl rfl ?_
        refine e_top h.2.1 ?_
        refine e_iadd C d_M_unmarked_45 ?_
        refine e_top (nI_add _ _) ?_
        refine e_icmp_ge C d_M_unmarked_46 (tgt := 75) (by decide) (fun h46 => ?_) (fun h46 => ?_)
        · skip
          refine e_iload_n C d_M_unmarked_75 rfl ?_
          exact e_iret C E d_M_unmarked_76 (Nat.le_refl _) (Nat.le_refl _) rfl ⟨rfl, rfl⟩
        · exact absurd (nI_le (by omega) (by omega)) h46
      | succ q ih =>
        intro k hk hf
        refine e_iload_n C d_M_unmarked_39 rfl ?_
        refine e_iload_n C d_M_unmarked_40 rfl ?_
        refine e_aload_n C d_M_unmarked_41 rfl ?_
        refine e_get C 0 (k := 2) in_M g746 d_M_unmarked_42 rfl rfl rfl rfl ?_
        refine e_top h.2.1 ?_
        refine e_iadd C d_M_unmarked_45 ?_
        refine e_top (nI_add _ _) ?_
        refine e_icmp_ge C d_M_unmarked_46 (tgt := 75) (by decide) (fun h46 => ?_) (fun h46 => ?_)
        · exact absurd h46 (nI_ge (by omega) (by omega))
        · skip
          refine e_aload_n C d_M_unmarked_49 rfl ?_
          refine e_get C 0 (k := 11) in_M g755 d_M_unmarked_50 rfl rfl rfl rfl ?_
          refine e_iload_n C d_M_unmarked_53 rfl ?_
          refine e_zald C 5 1 d_M_unmarked_54 rfl rfl k rfl (by omega) (by omega) ?_
          refine e_if_ne C d_M_unmarked_55 (tgt := 69) (by decide) (fun h55 => ?_) (fun h55 => ?_)
          · have hh : lkM m.2 k = true := by simp [lkM]; exact h55
            refine e_iinc C d_M_unmarked_69 rfl (nI_1 k) rfl ?_
            refine e_goto C d_M_unmarked_72 (tgt := 39) (by decide) ?_
            exact e_lv2 (ih (k + 1) (by omega) (by rw [← hf]; simp [fst1, hh])) rfl
          · have hh : lkM m.2 k = false := by simp [lkM]; exact h55
            refine e_aload_n C d_M_unmarked_58 rfl ?_
            refine e_get C 0 (k := 16) in_M g760 d_M_unmarked_59 rfl rfl rfl rfl ?_
            refine e_iload_n C d_M_unmarked_62 rfl ?_
            refine e_zald C 9 1 d_M_unmarked_63 rfl rfl k rfl (by omega) (by omega) ?_
            refine e_if_ne C d_M_unmarked_64 (tgt := 69) (by decide) (fun h64 => ?_) (fun h64 => ?_)
            · have hm : mkM m.2 k = true := by simp [mkM]; exact h64
              refine e_iinc C d_M_unmarked_69 rfl (nI_1 k) rfl ?_
              refine e_goto C d_M_unmarked_72 (tgt := 39) (by decide) ?_
              exact e_lv2 (ih (k + 1) (by omega) (by rw [← hf]; simp [fst1, hm])) rfl
            · have hm : mkM m.2 k = false := by simp [mkM]; exact h64
              rw [← hf, fst1, if_pos (by rw [hh, hm]; rfl)] at E
              refine e_iload_n C d_M_unmarked_67 rfl ?_
              exact e_iret C E d_M_unmarked_68 (Nat.le_refl _) (Nat.le_refl _) rfl ⟨rfl, rfl⟩
    exact e_lv2 (L2 wd b0 rfl rfl) rfl
  have L : ∀ (q : Nat) (y : Int32), q ≤ wd → y = nI (b0 + q) - 1 → EW X G 4 0 0 11 [(0, .ref (a 40)), (1, .int (nI b0)), (2, .int (oI (fst1 (fun k => !lkM m.2 k) (b0 + q) (wd - q)))), (3, .int y)] [] (mF G a m.1 m.2) := by
    intro q
    induction q with
    | zero =>
      intro y hq hy
      subst hy
      refine e_iload_n C d_M_unmarked_11 rfl ?_
      refine e_iload_n C d_M_unmarked_12 rfl ?_
      refine e_icmp_lt C d_M_unmarked_13 (tgt := 37) (by decide) (fun h13 => ?_) (fun h13 => ?_)
      · exact e_lv2 fin rfl
      · exact absurd (pred_lt (by omega)) h13
    | succ q ih =>
      intro y hq hy
      obtain rfl : y = nI (b0 + q) := hy.trans (nI_pred _)
      have hst : fst1 (fun k => !lkM m.2 k) (b0 + q) (wd - q) = if lkM m.2 (b0 + q) = false then some (b0 + q) else fst1 (fun k => !lkM m.2 k) (b0 + (q + 1)) (wd - (q + 1)) := by
        rw [show wd - q = (wd - (q + 1)) + 1 by omega, fst1]
        cases lkM m.2 (b0 + q) <;> rfl
      have ih := ih (nI (b0 + q) - 1) (by omega) rfl
      rw [hst] at ih
      refine e_iload_n C d_M_unmarked_11 rfl ?_
      refine e_iload_n C d_M_unmarked_12 rfl ?_
      refine e_icmp_lt C d_M_unmarked_13 (tgt := 37) (by decide) (fun h13 => ?_) (fun h13 => ?_)
      · exact absurd h13 (nI_nlt (by omega) (by omega))
      · skip
        refine e_aload_n C d_M_unmarked_16 rfl ?_
        refine e_get C 0 (k := 11) in_M g755 d_M_unmarked_17 rfl rfl rfl rfl ?_
        refine e_iload_n C d_M_unmarked_20 rfl ?_
        refine e_zald C 5 1 d_M_unmarked_21 rfl rfl (b0 + q) rfl (by omega) (by omega) ?_
        refine e_if_eq C d_M_unmarked_22 (tgt := 29) (by decide) (fun h22 => ?_) (fun h22 => ?_)
        · have hh : lkM m.2 (b0 + q) = false := by simp [lkM]; exact h22
          rw [if_pos hh] at ih
          refine e_iload_n C d_M_unmarked_29 rfl ?_
          refine e_istore_n C d_M_unmarked_30 rfl ?_
          refine e_iinc C d_M_unmarked_31 rfl (show nI (b0 + q) + Int32.ofInt (-1) = nI (b0 + q) - 1 by rw [Int32.sub_eq_add_neg]; rfl) rfl ?_
          refine e_goto C d_M_unmarked_34 (tgt := 11) (by decide) ?_
          exact e_lv2 ih rfl
        · have hh : lkM m.2 (b0 + q) = true := by simp [lkM]; exact h22
          rw [if_neg (by rw [hh]; decide)] at ih
          refine e_iload_n C d_M_unmarked_25 rfl ?_
          refine e_goto C d_M_unmarked_26 (tgt := 30) (by decide) ?_
          refine e_istore_n C d_M_unmarked_30 rfl ?_
          refine e_iinc C d_M_unmarked_31 rfl (show nI (b0 + q) + Int32.ofInt (-1) = nI (b0 + q) - 1 by rw [Int32.sub_eq_add_neg]; rfl) rfl ?_
          refine e_goto C d_M_unmarked_34 (tgt := 11) (by decide) ?_
          exact e_lv2 ih rfl
  have L0 := L wd (nI (b0 + wd) - 1) (Nat.le_refl _) rfl
  rw [Nat.sub_self] at L0
  exact e_lv2 L0 rfl
set_option maxRecDepth 100000 in
theorem k_M_byAge (h : MD m.1 S wd V kd) (hs : s < 16) (mv : Bool) {g : Nat → Int32} {y : Int32} {r : Nat} (hg : g = if mv then agM (lkM m.2) (m.2 17) (3 - mxA (lkM m.2) (m.2 17) 0 (8 * s) wd) (8 * s) (8 * s + wd) else m.2 17) (hy : y = if mv then 3 else mxA (lkM m.2) (m.2 17) 0 (8 * s) wd) (hr : fst1 (fun k => !lkM m.2 k && (g k == y)) (8 * s) wd = some r) :
    Con l G y_M_byAge c_M_byAge 6 (some .int) (rz 0 0) [.ref (a 40), .int (nI (8 * s)), .int (bI mv)] (mF G a m.1 m.2) (DI (nI r) (mF G a m.1 (up2 m.2 17 g))) := by
  refine Con.of rfl rfl (fun X C E hR hl hnm => ?_)
  have hw8 := h.w8
  have hb0 : 8 * s + 8 ≤ 128 := by omega
  refine e_iconst C d_M_byAge_0 (v := 0) (by decide) ?_
  refine e_istore_n C d_M_byAge_1 rfl ?_
  refine e_iload_n C d_M_byAge_2 rfl ?_
  refine e_istore C d_M_byAge_3 rfl ?_
  generalize 8 * s = b0 at E hb0 hg hy hr ⊢
  generalize hmx : mxA (lkM m.2) (m.2 17) 0 b0 wd = mx at hg hy
  have fin : EW X G 6 0 0 117 [(0, .ref (a 40)), (1, .int (nI b0)), (4, .int y)] [] (mF G a m.1 (up2 m.2 17 g)) := by
    refine e_iload_n C d_M_byAge_117 rfl ?_
    refine e_istore C d_M_byAge_118 rfl ?_
    have L3 : ∀ (q k : Nat), k + q = b0 + wd → fst1 (fun k => !lkM m.2 k && (g k == y)) k q = some r → EW X G 6 0 0 120 [(0, .ref (a 40)), (4, .int y), (5, .int (nI k))] [] (mF G a m.1 (up2 m.2 17 g)) := by
      intro q
      induction q with
      | zero => intro k hk hf; cases hf
      | succ q ih =>
        intro k hk hf
        rw [fst1] at hf
        refine e_aload_n C d_M_byAge_120 rfl ?_
        refine e_get C 0 (k := 11) in_M g755 d_M_byAge_121 rfl rfl rfl rfl ?_
        refine e_iload C d_M_byAge_124 rfl ?_
        refine e_zald C 5 1 d_M_byAge_126 rfl rfl k rfl (by omega) (by omega) ?_
        refine e_if_ne C d_M_byAge_127 (tgt := 142) (by decide) (fun h127 => ?_) (fun h127 => ?_)
        · have hh : lkM m.2 k = true := by simp [lkM]; exact h127
          rw [if_neg (by rw [hh]; simp)] at hf
          refine e_iinc C d_M_byAge_142 rfl (nI_1 k) rfl ?_
          refine e_goto C d_M_byAge_145 (tgt := 120) (by decide) ?_
          exact e_lv2 (ih (k + 1) (by omega) hf) rfl
        · have hh : lkM m.2 k = false := by simp [lkM]; exact h127
          refine e_aload_n C d_M_byAge_130 rfl ?_
          refine e_get C 0 (k := 17) in_M g761 d_M_byAge_131 rfl rfl rfl rfl ?_
          refine e_iload C d_M_byAge_134 rfl ?_
          refine e_iald C 10 0 d_M_byAge_136 rfl rfl k rfl (by omega) (by omega) ?_
          refine e_iload C d_M_byAge_137 rfl ?_
          refine e_icmp_eq C d_M_byAge_139 (tgt := 148) (by decide) (fun h139 => ?_) (fun h139 => ?_)
          · have h139 : g k = y := h139
            rw [if_pos (by rw [hh]; simp [h139])] at hf
            cases hf
            refine e_iload C d_M_byAge_148 rfl ?_
            exact e_iret C E d_M_byAge_150 (Nat.le_refl _) (Nat.le_refl _) rfl ⟨rfl, rfl⟩
          · have h139 : ¬ g k = y := h139
            rw [if_neg (by rw [hh]; simp [h139])] at hf
            refine e_iinc C d_M_byAge_142 rfl (nI_1 k) rfl ?_
            refine e_goto C d_M_byAge_145 (tgt := 120) (by decide) ?_
            exact e_lv2 (ih (k + 1) (by omega) hf) rfl
    exact e_lv2 (L3 wd b0 rfl hr) rfl
  have mid : EW X G 6 0 0 106 [(0, .ref (a 40)), (1, .int (nI b0)), (2, .int (bI mv)), (3, .int mx)] [] (mF G a m.1 (up2 m.2 17 g)) := by
    refine e_iload_n C d_M_byAge_106 rfl ?_
    refine e_if_eq C d_M_byAge_107 (tgt := 114) (by decide) (fun h107 => ?_) (fun h107 => ?_)
    · rw [bI_0] at h107
      rw [h107] at hy
      have hy : y = mx := hy
      subst hy
      refine e_iload_n C d_M_byAge_114 rfl ?_
      refine e_istore C d_M_byAge_115 rfl ?_
      exact e_lv2 fin rfl
    · rw [bI_n] at h107
      rw [h107] at hy
      have hy : y = 3 := hy
      subst hy
      refine e_iconst C d_M_byAge_110 (v := 3) (by decide) ?_
      refine e_goto C d_M_byAge_111 (tgt := 115) (by decide) ?_
      refine e_istore C d_M_byAge_115 rfl ?_
      exact e_lv2 fin rfl
  have two : EW X G 6 0 0 55 [(0, .ref (a 40)), (1, .int (nI b0)), (2, .int (bI mv)), (3, .int mx)] [] (mF G a m.1 m.2) := by
    refine e_iload_n C d_M_byAge_55 rfl ?_
    refine e_istore C d_M_byAge_56 rfl ?_
    cases mv with
    | false =>
      have hg : g = m.2 17 := hg
      refine e_eq (ws' := mF G a m.1 (up2 m.2 17 g)) (by rw [hg]; rfl) ?_
      refine e_iload C d_M_byAge_58 rfl ?_
      refine e_iload_n C d_M_byAge_60 rfl ?_
      refine e_aload_n C d_M_byAge_61 rfl ?_
      refine e_get C 0 (k := 2) in_M g746 d_M_byAge_62 rfl rfl rfl rfl ?_
      refine e_top h.2.1 ?_
      refine e_iadd C d_M_byAge_65 ?_
      refine e_top (nI_add _ _) ?_
      refine e_icmp_ge C d_M_byAge_66 (tgt := 106) (by decide) (fun h66 => ?_) (fun h66 => ?_)
      · exact e_lv2 mid rfl
      · skip
        refine e_iload_n C d_M_byAge_69 rfl ?_
        refine e_if_eq C d_M_byAge_70 (tgt := 106) (by decide) (fun h70 => ?_) (fun h70 => ?_)
        · exact e_lv2 mid rfl
        · exact absurd rfl h70
    | true =>
      have hg : g = agM (lkM m.2) (m.2 17) (3 - mx) b0 (b0 + wd) := hg
      have L2 : ∀ (q k : Nat), k + q = b0 + wd → b0 ≤ k → EW X G 6 0 0 58 [(0, .ref (a 40)), (1, .int (nI b0)), (2, .int 1), (3, .int mx), (4, .int (nI k))] [] (mF G a m.1 (up2 m.2 17 (agM (lkM m.2) (m.2 17) (3 - mx) b0 k))) := by
        intro q
        induction q with
        | zero =>
          intro k hk hk2
          obtain rfl : k = b0 + wd := by omega
          refine e_iload C d_M_byAge_58 rfl ?_
          refine e_iload_n C d_M_byAge_60 rfl ?_
          refine e_aload_n C d_M_byAge_61 rfl ?_
          refine e_get C 0 (k := 2) in_M g746 d_M_byAge_62 rfl rfl rfl rfl ?_
          refine e_top h.2.1 ?_
          refine e_iadd C d_M_byAge_65 ?_
          refine e_top (nI_add _ _) ?_
          refine e_icmp_ge C d_M_byAge_66 (tgt := 106) (by decide) (fun h66 => ?_) (fun h66 => ?_)
          · rw [hg] at mid
            exact e_lv2 mid rfl
          · exact absurd (nI_le (Nat.le_refl _) (by omega)) h66
        | succ q ih =>
          intro k hk hk2
          have ih := ih (k + 1) (by omega) (by omega)
          refine e_iload C d_M_byAge_58 rfl ?_
          refine e_iload_n C d_M_byAge_60 rfl ?_
          refine e_aload_n C d_M_byAge_61 rfl ?_
          refine e_get C 0 (k := 2) in_M g746 d_M_byAge_62 rfl rfl rfl rfl ?_
          refine e_top h.2.1 ?_
          refine e_iadd C d_M_byAge_65 ?_
          refine e_top (nI_add _ _) ?_
          refine e_icmp_ge C d_M_byAge_66 (tgt := 106) (by decide) (fun h66 => ?_) (fun h66 => ?_)
          · exact absurd h66 (nI_ge (by omega) (by omega))
          · skip
            refine e_iload_n C d_M_byAge_69 rfl ?_
            refine e_if_eq C d_M_byAge_70 (tgt := 106) (by decide) (fun h70 => ?_) (fun h70 => ?_)
            · exact absurd h70 (by decide)
            · skip
              refine e_aload_n C d_M_byAge_73 rfl ?_
              refine e_get C 0 (k := 17) in_M g761 d_M_byAge_74 rfl rfl rfl rfl ?_
              refine e_iload C d_M_byAge_77 rfl ?_
              refine e_dup2 C d_M_byAge_79 rfl rfl ?_
              refine e_iald C 10 0 d_M_byAge_80 rfl rfl k rfl (by omega) (by omega) ?_
              refine e_aload_n C d_M_byAge_81 rfl ?_
              refine e_get C 0 (k := 11) in_M g755 d_M_byAge_82 rfl rfl rfl rfl ?_
              refine e_iload C d_M_byAge_85 rfl ?_
              refine e_zald C 5 1 d_M_byAge_87 rfl rfl k rfl (by omega) (by omega) ?_
              refine e_if_eq C d_M_byAge_88 (tgt := 95) (by decide) (fun h88 => ?_) (fun h88 => ?_)
              · have hh : lkM m.2 k = false := by simp [lkM]; exact h88
                rw [agM_s hk2 hh] at ih
                refine e_iconst C d_M_byAge_95 (v := 3) (by decide) ?_
                refine e_iload_n C d_M_byAge_96 rfl ?_
                refine e_isub C d_M_byAge_97 ?_
                refine e_iadd C d_M_byAge_98 ?_
                refine e_iast C 10 0 d_M_byAge_99 rfl rfl k rfl (by omega) (by omega) ?_
                refine e_iinc C d_M_byAge_100 rfl (nI_1 k) rfl ?_
                refine e_goto C d_M_byAge_103 (tgt := 58) (by decide) ?_
                exact e_lv2 ih rfl
              · have hh : lkM m.2 k = true := by simp [lkM]; exact h88
                rw [agM_l hh] at ih
                refine e_iconst C d_M_byAge_91 (v := 0) (by decide) ?_
                refine e_goto C d_M_byAge_92 (tgt := 98) (by decide) ?_
                refine e_iadd C d_M_byAge_98 ?_
                refine e_iast C 10 0 d_M_byAge_99 rfl rfl k rfl (by omega) (by omega) ?_
                refine e_iinc C d_M_byAge_100 rfl (nI_1 k) rfl ?_
                refine e_goto C d_M_byAge_103 (tgt := 58) (by decide) ?_
                exact e_lv2 ih rfl
      refine e_eq (ws' := mF G a m.1 (up2 m.2 17 (agM (lkM m.2) (m.2 17) (3 - mx) b0 b0))) (by rw [agM_0]; rfl) ?_
      exact e_lv2 (L2 wd b0 rfl (Nat.le_refl _)) rfl
  have L : ∀ (q k : Nat) (z : Int32), k + q = b0 + wd → mxA (lkM m.2) (m.2 17) z k q = mx → EW X G 6 0 0 5 [(0, .ref (a 40)), (1, .int (nI b0)), (2, .int (bI mv)), (3, .int z), (4, .int (nI k))] [] (mF G a m.1 m.2) := by
    intro q
    induction q with
    | zero =>
      intro k z hk hf
      have hf : z = mx := hf
      subst hf
      refine e_iload C d_M_byAge_5 rfl ?_
      refine e_iload_n C d_M_byAge_7 rfl ?_
      refine e_aload_n C d_M_byAge_8 rfl ?_
      refine e_get C 0 (k := 2) in_M g746 d_M_byAge_9 rfl rfl rfl rfl ?_
      refine e_top h.2.1 ?_
      refine e_iadd C d_M_byAge_12 ?_
      refine e_top (nI_add _ _) ?_
      refine e_icmp_ge C d_M_byAge_13 (tgt := 55) (by decide) (fun h13 => ?_) (fun h13 => ?_)
      · exact e_lv2 two rfl
      · exact absurd (nI_le (by omega) (by omega)) h13
    | succ q ih =>
      intro k z hk hf
      rw [mxA] at hf
      refine e_iload C d_M_byAge_5 rfl ?_
      refine e_iload_n C d_M_byAge_7 rfl ?_
      refine e_aload_n C d_M_byAge_8 rfl ?_
      refine e_get C 0 (k := 2) in_M g746 d_M_byAge_9 rfl rfl rfl rfl ?_
      refine e_top h.2.1 ?_
      refine e_iadd C d_M_byAge_12 ?_
      refine e_top (nI_add _ _) ?_
      refine e_icmp_ge C d_M_byAge_13 (tgt := 55) (by decide) (fun h13 => ?_) (fun h13 => ?_)
      · exact absurd h13 (nI_ge (by omega) (by omega))
      · skip
        refine e_aload_n C d_M_byAge_16 rfl ?_
        refine e_get C 0 (k := 11) in_M g755 d_M_byAge_17 rfl rfl rfl rfl ?_
        refine e_iload C d_M_byAge_20 rfl ?_
        refine e_zald C 5 1 d_M_byAge_22 rfl rfl k rfl (by omega) (by omega) ?_
        refine e_if_ne C d_M_byAge_23 (tgt := 47) (by decide) (fun h23 => ?_) (fun h23 => ?_)
        · have hh : lkM m.2 k = true := by simp [lkM]; exact h23
          rw [if_neg (fun w => by rw [hh] at w; exact absurd w.1 (by decide))] at hf
          refine e_iload_n C d_M_byAge_47 rfl ?_
          refine e_istore_n C d_M_byAge_48 rfl ?_
          refine e_iinc C d_M_byAge_49 rfl (nI_1 k) rfl ?_
          refine e_goto C d_M_byAge_52 (tgt := 5) (by decide) ?_
          exact e_lv2 (ih (k + 1) z (by omega) hf) rfl
        · have hh : lkM m.2 k = false := by simp [lkM]; exact h23
          refine e_aload_n C d_M_byAge_26 rfl ?_
          refine e_get C 0 (k := 17) in_M g761 d_M_byAge_27 rfl rfl rfl rfl ?_
          refine e_iload C d_M_byAge_30 rfl ?_
          refine e_iald C 10 0 d_M_byAge_32 rfl rfl k rfl (by omega) (by omega) ?_
          refine e_iload_n C d_M_byAge_33 rfl ?_
          refine e_icmp_le C d_M_byAge_34 (tgt := 47) (by decide) (fun h34 => ?_) (fun h34 => ?_)
          · have h34 : m.2 17 k ≤ z := h34
            rw [if_neg (fun w => w.2 h34)] at hf
            refine e_iload_n C d_M_byAge_47 rfl ?_
            refine e_istore_n C d_M_byAge_48 rfl ?_
            refine e_iinc C d_M_byAge_49 rfl (nI_1 k) rfl ?_
            refine e_goto C d_M_byAge_52 (tgt := 5) (by decide) ?_
            exact e_lv2 (ih (k + 1) z (by omega) hf) rfl
          · have h34 : ¬ m.2 17 k ≤ z := h34
            rw [if_pos ⟨hh, h34⟩] at hf
            refine e_aload_n C d_M_byAge_37 rfl ?_
            refine e_get C 0 (k := 17) in_M g761 d_M_byAge_38 rfl rfl rfl rfl ?_
            refine e_iload C d_M_byAge_41 rfl ?_
            refine e_iald C 10 0 d_M_byAge_43 rfl rfl k rfl (by omega) (by omega) ?_
            refine e_goto C d_M_byAge_44 (tgt := 48) (by decide) ?_
            refine e_istore_n C d_M_byAge_48 rfl ?_
            refine e_iinc C d_M_byAge_49 rfl (nI_1 k) rfl ?_
            refine e_goto C d_M_byAge_52 (tgt := 5) (by decide) ?_
            exact e_lv2 (ih (k + 1) _ (by omega) hf) rfl
  exact e_lv2 (L wd b0 0 rfl hmx) rfl
set_option maxRecDepth 100000 in
theorem k_M_byHand (h : MD m.1 S wd V kd) (hs : s < 16) (mv : Bool) {h0 r : Nat} {g : Nat → Int32} (hh0 : h0 < wd) (hh : m.2 18 s = nI h0) (hB : BL (m.2 16)) (hBg : BL g) (hr : hndO (fun w => lkM m.2 (8 * s + w)) wd 17 (cpM (m.2 16) (8 * s) (m.2 35) wd) h0 = some (g, r)) (hr8 : r < wd) :
    Con l G y_M_byHand c_M_byHand 5 (some .int) (rz 0 0) [.ref (a 40), .int (nI (8 * s)), .int (bI mv)] (mF G a m.1 m.2) (DI (nI (8 * s + r)) (mF G a m.1 (if mv then up2 (up2 (up2 m.2 35 g) 16 (cbM g (8 * s) (m.2 16) wd)) 18 (upd (m.2 18) s (nI ((r + 1) % wd))) else up2 m.2 35 g))) := by
  refine Con.of rfl rfl (fun X C E hR hl hnm => ?_)
  have hw8 := h.w8
  have hb0 : 8 * s + 8 ≤ 128 := by omega
  refine e_iconst C d_M_byHand_0 (v := 0) (by decide) ?_
  refine e_istore_n C d_M_byHand_1 rfl ?_
  have fin : EW X G 5 0 0 90 [(0, .ref (a 40)), (1, .int (nI (8 * s))), (2, .int (bI mv)), (3, .int (nI r))] [] (mF G a m.1 (up2 m.2 35 g)) := by
    refine e_iload_n C d_M_byHand_90 rfl ?_
    refine e_if_eq C d_M_byHand_91 (tgt := 145) (by decide) (fun h91 => ?_) (fun h91 => ?_)
    · rw [bI_0] at h91
      rw [h91] at E
      refine e_iload_n C d_M_byHand_145 rfl ?_
      refine e_iload_n C d_M_byHand_146 rfl ?_
      refine e_iadd C d_M_byHand_147 ?_
      refine e_top (nI_add _ _) ?_
      exact e_iret C E d_M_byHand_148 (Nat.le_refl _) (Nat.le_refl _) rfl ⟨rfl, rfl⟩
    · rw [bI_n] at h91
      rw [h91] at E
      refine e_iconst C d_M_byHand_94 (v := 0) (by decide) ?_
      refine e_istore C d_M_byHand_95 rfl ?_
      have L3 : ∀ (q k : Nat), k + q = wd → EW X G 5 0 0 97 [(0, .ref (a 40)), (1, .int (nI (8 * s))), (3, .int (nI r)), (4, .int (nI k))] [] (mF G a m.1 (up2 (up2 m.2 35 g) 16 (cbM g (8 * s) (m.2 16) k))) := by
        intro q
        induction q with
        | zero =>
          intro k hk
          obtain rfl : k = wd := by omega
          refine e_iload C d_M_byHand_97 rfl ?_
          refine e_aload_n C d_M_byHand_99 rfl ?_
          refine e_get C 0 (k := 2) in_M g746 d_M_byHand_100 rfl rfl rfl rfl ?_
          refine e_top h.2.1 ?_
          refine e_icmp_ge C d_M_byHand_103 (tgt := 128) (by decide) (fun h103 => ?_) (fun h103 => ?_)
          · have hm8 : (r + 1) % k < k := Nat.mod_lt _ (by omega)
            refine e_aload_n C d_M_byHand_128 rfl ?_
            refine e_get C 0 (k := 18) in_M g762 d_M_byHand_129 rfl rfl rfl rfl ?_
            refine e_iload_n C d_M_byHand_132 rfl ?_
            refine e_bipush C d_M_byHand_133 (v := nI 8) (by decide) ?_
            refine e_idiv C d_M_byHand_135 (nI_ne0 (by omega) (by omega)) ?_
            refine e_top (y := nI s) (by rw [pk_div (by omega) (by omega) (by omega)]; congr 1; omega) ?_
            refine e_iload_n C d_M_byHand_136 rfl ?_
            refine e_iconst C d_M_byHand_137 (v := 1) (by decide) ?_
            refine e_iadd C d_M_byHand_138 ?_
            refine e_top (nI_1 r) ?_
            refine e_aload_n C d_M_byHand_139 rfl ?_
            refine e_get C 0 (k := 2) in_M g746 d_M_byHand_140 rfl rfl rfl rfl ?_
            refine e_top h.2.1 ?_
            refine e_irem C d_M_byHand_143 (nI_ne0 (by omega) (by omega)) ?_
            refine e_top (pk_rem (by omega) (by omega) (by omega)) ?_
            refine e_iast C 11 0 d_M_byHand_144 rfl rfl s rfl (by omega) (by omega) ?_
            refine e_iload_n C d_M_byHand_145 rfl ?_
            refine e_iload_n C d_M_byHand_146 rfl ?_
            refine e_iadd C d_M_byHand_147 ?_
            refine e_top (nI_add _ _) ?_
            exact e_iret C E d_M_byHand_148 (Nat.le_refl _) (Nat.le_refl _) rfl ⟨rfl, rfl⟩
          · exact absurd (nI_le (Nat.le_refl _) (by omega)) h103
        | succ q ih =>
          intro k hk
          have ih := ih (k + 1) (by omega)
          rw [cbM_s] at ih
          refine e_iload C d_M_byHand_97 rfl ?_
          refine e_aload_n C d_M_byHand_99 rfl ?_
          refine e_get C 0 (k := 2) in_M g746 d_M_byHand_100 rfl rfl rfl rfl ?_
          refine e_top h.2.1 ?_
          refine e_icmp_ge C d_M_byHand_103 (tgt := 128) (by decide) (fun h103 => ?_) (fun h103 => ?_)
          · exact absurd h103 (nI_ge (by omega) (by omega))
          · skip
            refine e_aload_n C d_M_byHand_106 rfl ?_
            refine e_get C 0 (k := 16) in_M g760 d_M_byHand_107 rfl rfl rfl rfl ?_
            refine e_iload_n C d_M_byHand_110 rfl ?_
            refine e_iload C d_M_byHand_111 rfl ?_
            refine e_iadd C d_M_byHand_113 ?_
            refine e_aload_n C d_M_byHand_114 rfl ?_
            refine e_get C 0 (k := 35) in_M g779 d_M_byHand_115 rfl rfl rfl rfl ?_
            refine e_iload C d_M_byHand_118 rfl ?_
            refine e_zald C 23 1 d_M_byHand_120 rfl rfl k rfl (by omega) (by omega) ?_
            refine e_zast C 9 1 d_M_byHand_121 rfl rfl (8 * s + k) (nI_add _ _) (by omega) (by omega) (hBg.nar k) ?_
            refine e_iinc C d_M_byHand_122 rfl (nI_1 k) rfl ?_
            refine e_goto C d_M_byHand_125 (tgt := 97) (by decide) ?_
            exact e_lv2 ih rfl
      refine e_eq (ws' := mF G a m.1 (up2 (up2 m.2 35 g) 16 (cbM g (8 * s) (m.2 16) 0))) (by rw [cbM_0]; rfl) ?_
      exact e_lv2 (L3 wd 0 (by omega)) rfl
  have two : EW X G 5 0 0 30 [(0, .ref (a 40)), (1, .int (nI (8 * s))), (2, .int (bI mv))] [] (mF G a m.1 (up2 m.2 35 (cpM (m.2 16) (8 * s) (m.2 35) wd))) := by
    refine e_aload_n C d_M_byHand_30 rfl ?_
    refine e_get C 0 (k := 18) in_M g762 d_M_byHand_31 rfl rfl rfl rfl ?_
    refine e_iload_n C d_M_byHand_34 rfl ?_
    refine e_bipush C d_M_byHand_35 (v := nI 8) (by decide) ?_
    refine e_idiv C d_M_byHand_37 (nI_ne0 (by omega) (by omega)) ?_
    refine e_top (y := nI s) (by rw [pk_div (by omega) (by omega) (by omega)]; congr 1; omega) ?_
    refine e_iald C 11 0 d_M_byHand_38 rfl rfl s rfl (by omega) (by omega) ?_
    refine e_top hh ?_
    refine e_istore_n C d_M_byHand_39 rfl ?_
    have L2 : ∀ (t h1 : Nat) (g1 : Nat → Int32), h1 < wd → hndO (fun w => lkM m.2 (8 * s + w)) wd t g1 h1 = some (g, r) → EW X G 5 0 0 40 [(0, .ref (a 40)), (1, .int (nI (8 * s))), (2, .int (bI mv)), (3, .int (nI h1))] [] (mF G a m.1 (up2 m.2 35 g1)) := by
      intro t
      induction t with
      | zero => intro h1 g1 hh1 hf; cases hf
      | succ t ih =>
        intro h1 g1 hh1 hf
        rw [hndO] at hf
        have hm8 : (h1 + 1) % wd < wd := Nat.mod_lt _ (by omega)
        have nx : ∀ g2 : Nat → Int32, hndO (fun w => lkM m.2 (8 * s + w)) wd t g2 ((h1 + 1) % wd) = some (g, r) → EW X G 5 0 0 78 [(0, .ref (a 40)), (1, .int (nI (8 * s))), (2, .int (bI mv)), (3, .int (nI h1))] [] (mF G a m.1 (up2 m.2 35 g2)) := by
          intro g2 hf2
          refine e_iload_n C d_M_byHand_78 rfl ?_
          refine e_iconst C d_M_byHand_79 (v := 1) (by decide) ?_
          refine e_iadd C d_M_byHand_80 ?_
          refine e_top (nI_1 h1) ?_
          refine e_aload_n C d_M_byHand_81 rfl ?_
          refine e_get C 0 (k := 2) in_M g746 d_M_byHand_82 rfl rfl rfl rfl ?_
          refine e_top h.2.1 ?_
          refine e_irem C d_M_byHand_85 (nI_ne0 (by omega) (by omega)) ?_
          refine e_top (pk_rem (by omega) (by omega) (by omega)) ?_
          refine e_istore_n C d_M_byHand_86 rfl ?_
          refine e_goto C d_M_byHand_87 (tgt := 40) (by decide) ?_
          exact e_lv2 (ih _ g2 hm8 hf2) rfl
        refine e_aload_n C d_M_byHand_40 rfl ?_
        refine e_get C 0 (k := 11) in_M g755 d_M_byHand_41 rfl rfl rfl rfl ?_
        refine e_iload_n C d_M_byHand_44 rfl ?_
        refine e_iload_n C d_M_byHand_45 rfl ?_
        refine e_iadd C d_M_byHand_46 ?_
        refine e_zald C 5 1 d_M_byHand_47 rfl rfl (8 * s + h1) (nI_add _ _) (by omega) (by omega) ?_
        refine e_if_ne C d_M_byHand_48 (tgt := 60) (by decide) (fun h48 => ?_) (fun h48 => ?_)
        · have hl : lkM m.2 (8 * s + h1) = true := by simp [lkM]; exact h48
          rw [if_neg (fun z => by rw [hl] at z; exact absurd z.1 (by decide)), if_pos hl] at hf
          refine e_aload_n C d_M_byHand_60 rfl ?_
          refine e_get C 0 (k := 11) in_M g755 d_M_byHand_61 rfl rfl rfl rfl ?_
          refine e_iload_n C d_M_byHand_64 rfl ?_
          refine e_iload_n C d_M_byHand_65 rfl ?_
          refine e_iadd C d_M_byHand_66 ?_
          refine e_zald C 5 1 d_M_byHand_67 rfl rfl (8 * s + h1) (nI_add _ _) (by omega) (by omega) ?_
          refine e_if_ne C d_M_byHand_68 (tgt := 78) (by decide) (fun h68 => ?_) (fun h68 => ?_)
          · exact e_lv2 (nx g1 hf) rfl
          · exact absurd h68 h48
        · have hl : lkM m.2 (8 * s + h1) = false := by simp [lkM]; exact h48
          refine e_aload_n C d_M_byHand_51 rfl ?_
          refine e_get C 0 (k := 35) in_M g779 d_M_byHand_52 rfl rfl rfl rfl ?_
          refine e_iload_n C d_M_byHand_55 rfl ?_
          refine e_zald C 23 1 d_M_byHand_56 rfl rfl h1 rfl (by omega) (by omega) ?_
          refine e_if_eq C d_M_byHand_57 (tgt := 90) (by decide) (fun h57 => ?_) (fun h57 => ?_)
          · rw [if_pos ⟨hl, h57⟩] at hf
            cases hf
            exact e_lv2 fin rfl
          · rw [if_neg (fun z => h57 z.2), if_neg (by rw [hl]; decide)] at hf
            refine e_aload_n C d_M_byHand_60 rfl ?_
            refine e_get C 0 (k := 11) in_M g755 d_M_byHand_61 rfl rfl rfl rfl ?_
            refine e_iload_n C d_M_byHand_64 rfl ?_
            refine e_iload_n C d_M_byHand_65 rfl ?_
            refine e_iadd C d_M_byHand_66 ?_
            refine e_zald C 5 1 d_M_byHand_67 rfl rfl (8 * s + h1) (nI_add _ _) (by omega) (by omega) ?_
            refine e_if_ne C d_M_byHand_68 (tgt := 78) (by decide) (fun h68 => ?_) (fun h68 => ?_)
            · exact absurd h48 h68
            · skip
              refine e_aload_n C d_M_byHand_71 rfl ?_
              refine e_get C 0 (k := 35) in_M g779 d_M_byHand_72 rfl rfl rfl rfl ?_
              refine e_iload_n C d_M_byHand_75 rfl ?_
              refine e_iconst C d_M_byHand_76 (v := 0) (by decide) ?_
              refine e_zast C 23 1 d_M_byHand_77 rfl rfl h1 rfl (by omega) (by omega) rfl ?_
              exact e_lv2 (nx _ hf) rfl
    exact e_lv2 (L2 17 h0 _ hh0 hr) rfl
  have L : ∀ (q k : Nat), k + q = wd → EW X G 5 0 0 2 [(0, .ref (a 40)), (1, .int (nI (8 * s))), (2, .int (bI mv)), (3, .int (nI k))] [] (mF G a m.1 (up2 m.2 35 (cpM (m.2 16) (8 * s) (m.2 35) k))) := by
    intro q
    induction q with
    | zero =>
      intro k hk
      obtain rfl : k = wd := by omega
      refine e_iload_n C d_M_byHand_2 rfl ?_
      refine e_aload_n C d_M_byHand_3 rfl ?_
      refine e_get C 0 (k := 2) in_M g746 d_M_byHand_4 rfl rfl rfl rfl ?_
      refine e_top h.2.1 ?_
      refine e_icmp_ge C d_M_byHand_7 (tgt := 30) (by decide) (fun h7 => ?_) (fun h7 => ?_)
      · exact e_lv2 two rfl
      · exact absurd (nI_le (Nat.le_refl _) (by omega)) h7
    | succ q ih =>
      intro k hk
      have ih := ih (k + 1) (by omega)
      rw [cpM_s] at ih
      refine e_iload_n C d_M_byHand_2 rfl ?_
      refine e_aload_n C d_M_byHand_3 rfl ?_
      refine e_get C 0 (k := 2) in_M g746 d_M_byHand_4 rfl rfl rfl rfl ?_
      refine e_top h.2.1 ?_
      refine e_icmp_ge C d_M_byHand_7 (tgt := 30) (by decide) (fun h7 => ?_) (fun h7 => ?_)
      · exact absurd h7 (nI_ge (by omega) (by omega))
      · skip
        refine e_aload_n C d_M_byHand_10 rfl ?_
        refine e_get C 0 (k := 35) in_M g779 d_M_byHand_11 rfl rfl rfl rfl ?_
        refine e_iload_n C d_M_byHand_14 rfl ?_
        refine e_aload_n C d_M_byHand_15 rfl ?_
        refine e_get C 0 (k := 16) in_M g760 d_M_byHand_16 rfl rfl rfl rfl ?_
        refine e_iload_n C d_M_byHand_19 rfl ?_
        refine e_iload_n C d_M_byHand_20 rfl ?_
        refine e_iadd C d_M_byHand_21 ?_
        refine e_zald C 9 1 d_M_byHand_22 rfl rfl (8 * s + k) (nI_add _ _) (by omega) (by omega) ?_
        refine e_zast C 23 1 d_M_byHand_23 rfl rfl k rfl (by omega) (by omega) (hB.nar (8 * s + k)) ?_
        refine e_iinc C d_M_byHand_24 rfl (nI_1 k) rfl ?_
        refine e_goto C d_M_byHand_27 (tgt := 2) (by decide) ?_
        exact e_lv2 ih rfl
  refine e_eq (ws' := mF G a m.1 (up2 m.2 35 (cpM (m.2 16) (8 * s) (m.2 35) 0))) (by rw [cpM_0]; rfl) ?_
  exact e_lv2 (L wd 0 (by omega)) rfl
/-- the pick of the rule in set s, whether it moves: the state behind it and the slot -/
def pkS (wd kd : Nat) (m : CS) (s : Nat) (mv : Bool) : Option (CS × Nat) := match kd with
  | 3 => if cntU (lkM m.2) 0 (8 * s) wd = 0 then none else (nthU (lkM m.2) ((m.1 20).toNatClampNeg / 65536 % cntU (lkM m.2) 0 (8 * s) wd) (8 * s) wd).map (fun r => ((if mv then upd m.1 20 (lcg (m.1 20)) else m.1, m.2), r))
  | 5 => (hndO (fun w => lkM m.2 (8 * s + w)) wd 17 (cpM (m.2 16) (8 * s) (m.2 35) wd) (m.2 18 s).toNatClampNeg).map (fun q => ((m.1, if mv then up2 (up2 (up2 m.2 35 q.1) 16 (cbM q.1 (8 * s) (m.2 16) wd)) 18 (upd (m.2 18) s (nI ((q.2 + 1) % wd))) else up2 m.2 35 q.1), 8 * s + q.2))
  | 6 => (twO (fun w => lkM m.2 (8 * s + w)) wd (lvN wd) 16 (trM (m.2 19) (8 * s) (lvN wd) 4 1 - lvN wd)).map (fun r => (m, 8 * s + r))
  | 7 => (umO (lkM m.2) (mkM m.2) (8 * s) wd).map (fun r => (m, r))
  | 8 => (fst1 (fun k => !lkM m.2 k && ((if mv then agM (lkM m.2) (m.2 17) (3 - mxA (lkM m.2) (m.2 17) 0 (8 * s) wd) (8 * s) (8 * s + wd) else m.2 17) k == (if mv then 3 else mxA (lkM m.2) (m.2 17) 0 (8 * s) wd))) (8 * s) wd).map (fun r => ((m.1, up2 m.2 17 (if mv then agM (lkM m.2) (m.2 17) (3 - mxA (lkM m.2) (m.2 17) 0 (8 * s) wd) (8 * s) (8 * s + wd) else m.2 17)), r))
  | _ => (pickB (lkM m.2) (gsG (m.1 3) (m.2 13) (m.2 14) (m.2 15)) none (8 * s) wd).map (fun r => (m, r))
/-- what the picks ask -/
def MR (wd kd : Nat) (m : CS) : Prop := match kd with
  | 3 => ∃ x, x < 2 ^ 31 ∧ m.1 20 = nI x
  | 5 => (∀ s, s < 16 → ∃ h0, h0 < wd ∧ m.2 18 s = nI h0) ∧ BL (m.2 16) ∧ BL (m.2 35)
  | _ => True
theorem cpM_BL {g o : Nat → Int32} (hg : BL g) (ho : BL o) (b0 k : Nat) : BL (cpM g b0 o k) := by
  intro j
  unfold cpM
  split
  · exact hg _
  · exact ho _
theorem hndO_BL {lk : Nat → Bool} {wd : Nat} (hwd : 1 ≤ wd) : ∀ {t : Nat} {g : Nat → Int32} {h : Nat} {q : (Nat → Int32) × Nat}, BL g → h < wd → hndO lk wd t g h = some q → BL q.1 ∧ q.2 < wd
  | 0, _, _, _, _, _, hf => by cases hf
  | t + 1, g, h, q, hg, hh, hf => by
    rw [hndO] at hf
    split at hf
    · cases hf
      exact ⟨hg, hh⟩
    · refine hndO_BL hwd ?_ (Nat.mod_lt _ hwd) hf
      split
      · exact hg
      · exact hg.up _ (Or.inl rfl)
set_option maxRecDepth 100000 in
theorem k_M_pick (h : MD m.1 S wd V kd) (hM : MR wd kd m) (hs : s < 16) (mv : Bool) {m' : CS} {r : Nat} (hr : pkS wd kd m s mv = some (m', r)) : Con l G y_M_pick c_M_pick 3 (some .int) (rz 2 45) [.ref (a 40), .int (nI (8 * s)), .int (bI mv)] (mF G a m.1 m.2) (DI (nI r) (mF G a m'.1 m'.2)) := by
  refine Con.of rfl rfl (fun X C E hR hl hnm => ?_)
  have hw8 := h.w8
  have hk := h.2.2.2.2.2.2.2
  have hbest : ∀ {kd0 : Nat}, (pickB (lkM m.2) (gsG (m.1 3) (m.2 13) (m.2 14) (m.2 15)) none (8 * s) wd).map (fun r => (m, r)) = some (m', r) → EW X G 3 0 0 77 [(0, .ref (a 40)), (1, .int (nI (8 * s))), (2, .int (bI mv))] [] (mF G a m.1 m.2) := by
    intro _ hr
    obtain ⟨w, hw, e⟩ := Option.map_eq_some_iff.mp hr
    cases e
    refine e_aload_n C d_M_pick_77 rfl ?_
    refine e_iload_n C d_M_pick_78 rfl ?_
    refine e_cVi C hR 0 (k_M_best h hs) g962 g14 g959 g961 (gt_sel 33 (by decide +kernel) (by decide +kernel)) d_M_pick_79 rfl ey_M_best rfl rfl rfl rfl ⟨Nat.zero_le _, Nat.zero_le _⟩ ?_
    rw [hw]
    exact e_iret C E d_M_pick_82 (Nat.le_refl _) (Nat.le_refl _) rfl ⟨rfl, rfl⟩
  rcases kd_cases hk with rfl | rfl | rfl | rfl | rfl | rfl | rfl | rfl | rfl | rfl
  · obtain ⟨x, hx, ex⟩ := hM
    simp only [pkS, ex, nI_clamp hx] at hr
    split at hr
    · cases hr
    · rename_i hn
      obtain ⟨w, hw, e⟩ := Option.map_eq_some_iff.mp hr
      cases e
      rw [← ex] at E
      refine e_aload_n C d_M_pick_0 rfl ?_
      refine e_get C 0 (k := 3) in_M g747 d_M_pick_1 rfl rfl rfl rfl ?_
      refine e_top h.2.2.1 ?_
      refine e_tableIn C d_M_pick_4 (off := 40) (by decide) (by decide) (by decide) (tgt := 44) (by decide) ?_
      refine e_aload_n C d_M_pick_44 rfl ?_
      refine e_iload_n C d_M_pick_45 rfl ?_
      refine e_iload_n C d_M_pick_46 rfl ?_
      refine e_cVi C hR 0 (k_M_byChance h hs mv hx ex hn hw) g939 g14 g936 g938 (gt_sel 28 (by decide +kernel) (by decide +kernel)) d_M_pick_47 rfl ey_M_byChance rfl rfl rfl rfl ⟨Nat.zero_le _, Nat.zero_le _⟩ ?_
      exact e_iret C E d_M_pick_50 (Nat.le_refl _) (Nat.le_refl _) rfl ⟨rfl, rfl⟩
  · obtain ⟨hh, hB, hB2⟩ := hM
    obtain ⟨h0, hh0, e0⟩ := hh s hs
    simp only [pkS, e0, nI_clamp (show h0 < 2 ^ 31 by omega)] at hr
    obtain ⟨q, hq, e⟩ := Option.map_eq_some_iff.mp hr
    cases e
    have hb := hndO_BL hw8.1 (cpM_BL hB hB2 _ _) hh0 hq
    refine e_aload_n C d_M_pick_0 rfl ?_
    refine e_get C 0 (k := 3) in_M g747 d_M_pick_1 rfl rfl rfl rfl ?_
    refine e_top h.2.2.1 ?_
    refine e_tableIn C d_M_pick_4 (off := 47) (by decide) (by decide) (by decide) (tgt := 51) (by decide) ?_
    refine e_aload_n C d_M_pick_51 rfl ?_
    refine e_iload_n C d_M_pick_52 rfl ?_
    refine e_iload_n C d_M_pick_53 rfl ?_
    refine e_cVi C hR 0 (k_M_byHand h hs mv hh0 e0 hB hb.1 hq hb.2) g946 g14 g943 g945 (gt_sel 29 (by decide +kernel) (by decide +kernel)) d_M_pick_54 rfl ey_M_byHand rfl rfl rfl rfl ⟨Nat.zero_le _, Nat.zero_le _⟩ ?_
    exact e_iret C E d_M_pick_57 (Nat.le_refl _) (Nat.le_refl _) rfl ⟨rfl, rfl⟩
  · obtain ⟨w, hw, e⟩ := Option.map_eq_some_iff.mp hr
    cases e
    refine e_aload_n C d_M_pick_0 rfl ?_
    refine e_get C 0 (k := 3) in_M g747 d_M_pick_1 rfl rfl rfl rfl ?_
    refine e_top h.2.2.1 ?_
    refine e_tableIn C d_M_pick_4 (off := 54) (by decide) (by decide) (by decide) (tgt := 58) (by decide) ?_
    refine e_aload_n C d_M_pick_58 rfl ?_
    refine e_iload_n C d_M_pick_59 rfl ?_
    refine e_cVi C hR 0 (k_M_byTree h hs hw) g950 g14 g947 g949 (gt_sel 30 (by decide +kernel) (by decide +kernel)) d_M_pick_60 rfl ey_M_byTree rfl rfl rfl rfl ⟨Nat.zero_le _, Nat.zero_le _⟩ ?_
    exact e_iret C E d_M_pick_63 (Nat.le_refl _) (Nat.le_refl _) rfl ⟨rfl, rfl⟩
  · obtain ⟨w, hw, e⟩ := Option.map_eq_some_iff.mp hr
    cases e
    refine e_aload_n C d_M_pick_0 rfl ?_
    refine e_get C 0 (k := 3) in_M g747 d_M_pick_1 rfl rfl rfl rfl ?_
    refine e_top h.2.2.1 ?_
    refine e_tableIn C d_M_pick_4 (off := 60) (by decide) (by decide) (by decide) (tgt := 64) (by decide) ?_
    refine e_aload_n C d_M_pick_64 rfl ?_
    refine e_iload_n C d_M_pick_65 rfl ?_
    refine e_cVi C hR 0 (k_M_unmarked h hs) g954 g14 g951 g953 (gt_sel 31 (by decide +kernel) (by decide +kernel)) d_M_pick_66 rfl ey_M_unmarked rfl rfl rfl rfl ⟨Nat.zero_le _, Nat.zero_le _⟩ ?_
    rw [hw]
    exact e_iret C E d_M_pick_69 (Nat.le_refl _) (Nat.le_refl _) rfl ⟨rfl, rfl⟩
  · obtain ⟨w, hw, e⟩ := Option.map_eq_some_iff.mp hr
    cases e
    refine e_aload_n C d_M_pick_0 rfl ?_
    refine e_get C 0 (k := 3) in_M g747 d_M_pick_1 rfl rfl rfl rfl ?_
    refine e_top h.2.2.1 ?_
    refine e_tableIn C d_M_pick_4 (off := 66) (by decide) (by decide) (by decide) (tgt := 70) (by decide) ?_
    refine e_aload_n C d_M_pick_70 rfl ?_
    refine e_iload_n C d_M_pick_71 rfl ?_
    refine e_iload_n C d_M_pick_72 rfl ?_
    refine e_cVi C hR 0 (k_M_byAge h hs mv rfl rfl hw) g958 g14 g955 g957 (gt_sel 32 (by decide +kernel) (by decide +kernel)) d_M_pick_73 rfl ey_M_byAge rfl rfl rfl rfl ⟨Nat.zero_le _, Nat.zero_le _⟩ ?_
    exact e_iret C E d_M_pick_76 (Nat.le_refl _) (Nat.le_refl _) rfl ⟨rfl, rfl⟩
  · skip
    refine e_aload_n C d_M_pick_0 rfl ?_
    refine e_get C 0 (k := 3) in_M g747 d_M_pick_1 rfl rfl rfl rfl ?_
    refine e_top h.2.2.1 ?_
    refine e_tableOut C d_M_pick_4 (by decide) (tgt := 77) (by decide) ?_
    exact e_lv2 (hbest (kd0 := 0) hr) rfl
  · skip
    refine e_aload_n C d_M_pick_0 rfl ?_
    refine e_get C 0 (k := 3) in_M g747 d_M_pick_1 rfl rfl rfl rfl ?_
    refine e_top h.2.2.1 ?_
    refine e_tableOut C d_M_pick_4 (by decide) (tgt := 77) (by decide) ?_
    exact e_lv2 (hbest (kd0 := 0) hr) rfl
  · skip
    refine e_aload_n C d_M_pick_0 rfl ?_
    refine e_get C 0 (k := 3) in_M g747 d_M_pick_1 rfl rfl rfl rfl ?_
    refine e_top h.2.2.1 ?_
    refine e_tableOut C d_M_pick_4 (by decide) (tgt := 77) (by decide) ?_
    exact e_lv2 (hbest (kd0 := 0) hr) rfl
  · skip
    refine e_aload_n C d_M_pick_0 rfl ?_
    refine e_get C 0 (k := 3) in_M g747 d_M_pick_1 rfl rfl rfl rfl ?_
    refine e_top h.2.2.1 ?_
    refine e_tableIn C d_M_pick_4 (off := 73) (by decide) (by decide) (by decide) (tgt := 77) (by decide) ?_
    exact e_lv2 (hbest (kd0 := 0) hr) rfl
  · skip
    refine e_aload_n C d_M_pick_0 rfl ?_
    refine e_get C 0 (k := 3) in_M g747 d_M_pick_1 rfl rfl rfl rfl ?_
    refine e_top h.2.2.1 ?_
    refine e_tableOut C d_M_pick_4 (by decide) (tgt := 77) (by decide) ?_
    exact e_lv2 (hbest (kd0 := 0) hr) rfl
end M2
