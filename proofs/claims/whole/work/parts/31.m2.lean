/-! THE REFERENCE: its picks -/
theorem ey_M_byChance : eY y_M_byChance 2 = true := by decide +kernel
theorem d_M_byChance_0 : decode c_M_byChance 0 = .ok (.iconst 0, 1) := by decide +kernel
theorem d_M_byChance_1 : decode c_M_byChance 1 = .ok (.istore_n 3, 1) := by decide +kernel
theorem d_M_byChance_2 : decode c_M_byChance 2 = .ok (.iload_n 1, 1) := by decide +kernel
theorem d_M_byChance_3 : decode c_M_byChance 3 = .ok (.istore 4, 2) := by decide +kernel
theorem d_M_byChance_5 : decode c_M_byChance 5 = .ok (.iload 4, 2) := by decide +kernel
theorem d_M_byChance_7 : decode c_M_byChance 7 = .ok (.iload_n 1, 1) := by decide +kernel
theorem d_M_byChance_8 : decode c_M_byChance 8 = .ok (.aload_n 0, 1) := by decide +kernel
theorem d_M_byChance_9 : decode c_M_byChance 9 = .ok (.getfield 95, 3) := by decide +kernel
theorem d_M_byChance_12 : decode c_M_byChance 12 = .ok (.iadd, 1) := by decide +kernel
theorem d_M_byChance_13 : decode c_M_byChance 13 = .ok (.if_icmp .ge 27, 3) := by decide +kernel
theorem d_M_byChance_16 : decode c_M_byChance 16 = .ok (.iload_n 3, 1) := by decide +kernel
theorem d_M_byChance_17 : decode c_M_byChance 17 = .ok (.aload_n 0, 1) := by decide +kernel
theorem d_M_byChance_18 : decode c_M_byChance 18 = .ok (.getfield 27, 3) := by decide +kernel
theorem d_M_byChance_21 : decode c_M_byChance 21 = .ok (.iload 4, 2) := by decide +kernel
theorem d_M_byChance_23 : decode c_M_byChance 23 = .ok (.baload, 1) := by decide +kernel
theorem d_M_byChance_24 : decode c_M_byChance 24 = .ok (.ifCond .eq 7, 3) := by decide +kernel
theorem d_M_byChance_27 : decode c_M_byChance 27 = .ok (.iconst 0, 1) := by decide +kernel
theorem d_M_byChance_28 : decode c_M_byChance 28 = .ok (.goto 4, 3) := by decide +kernel
theorem d_M_byChance_31 : decode c_M_byChance 31 = .ok (.iconst 1, 1) := by decide +kernel
theorem d_M_byChance_32 : decode c_M_byChance 32 = .ok (.iadd, 1) := by decide +kernel
theorem d_M_byChance_33 : decode c_M_byChance 33 = .ok (.istore_n 3, 1) := by decide +kernel
theorem d_M_byChance_34 : decode c_M_byChance 34 = .ok (.iinc 4 1, 3) := by decide +kernel
theorem d_M_byChance_37 : decode c_M_byChance 37 = .ok (.goto (-32), 3) := by decide +kernel
theorem d_M_byChance_40 : decode c_M_byChance 40 = .ok (.aload_n 0, 1) := by decide +kernel
theorem d_M_byChance_41 : decode c_M_byChance 41 = .ok (.getfield 51, 3) := by decide +kernel
theorem d_M_byChance_44 : decode c_M_byChance 44 = .ok (.ldc 135, 2) := by decide +kernel
theorem d_M_byChance_46 : decode c_M_byChance 46 = .ok (.idiv, 1) := by decide +kernel
theorem d_M_byChance_47 : decode c_M_byChance 47 = .ok (.iload_n 3, 1) := by decide +kernel
theorem d_M_byChance_48 : decode c_M_byChance 48 = .ok (.irem, 1) := by decide +kernel
theorem d_M_byChance_49 : decode c_M_byChance 49 = .ok (.istore 4, 2) := by decide +kernel
theorem d_M_byChance_51 : decode c_M_byChance 51 = .ok (.iload_n 2, 1) := by decide +kernel
theorem d_M_byChance_52 : decode c_M_byChance 52 = .ok (.ifCond .eq 21, 3) := by decide +kernel
theorem d_M_byChance_55 : decode c_M_byChance 55 = .ok (.aload_n 0, 1) := by decide +kernel
theorem d_M_byChance_56 : decode c_M_byChance 56 = .ok (.ldc 136, 2) := by decide +kernel
theorem d_M_byChance_58 : decode c_M_byChance 58 = .ok (.aload_n 0, 1) := by decide +kernel
theorem d_M_byChance_59 : decode c_M_byChance 59 = .ok (.getfield 51, 3) := by decide +kernel
theorem d_M_byChance_62 : decode c_M_byChance 62 = .ok (.imul, 1) := by decide +kernel
theorem d_M_byChance_63 : decode c_M_byChance 63 = .ok (.sipush 12345, 3) := by decide +kernel
theorem d_M_byChance_66 : decode c_M_byChance 66 = .ok (.iadd, 1) := by decide +kernel
theorem d_M_byChance_67 : decode c_M_byChance 67 = .ok (.ldc 137, 2) := by decide +kernel
theorem d_M_byChance_69 : decode c_M_byChance 69 = .ok (.iand, 1) := by decide +kernel
theorem d_M_byChance_70 : decode c_M_byChance 70 = .ok (.putfield 51, 3) := by decide +kernel
theorem d_M_byChance_73 : decode c_M_byChance 73 = .ok (.iload_n 1, 1) := by decide +kernel
theorem d_M_byChance_74 : decode c_M_byChance 74 = .ok (.istore 5, 2) := by decide +kernel
theorem d_M_byChance_76 : decode c_M_byChance 76 = .ok (.aload_n 0, 1) := by decide +kernel
theorem d_M_byChance_77 : decode c_M_byChance 77 = .ok (.getfield 27, 3) := by decide +kernel
theorem d_M_byChance_80 : decode c_M_byChance 80 = .ok (.iload 5, 2) := by decide +kernel
theorem d_M_byChance_82 : decode c_M_byChance 82 = .ok (.baload, 1) := by decide +kernel
theorem d_M_byChance_83 : decode c_M_byChance 83 = .ok (.ifCond .ne 8, 3) := by decide +kernel
theorem d_M_byChance_86 : decode c_M_byChance 86 = .ok (.iload 4, 2) := by decide +kernel
theorem d_M_byChance_88 : decode c_M_byChance 88 = .ok (.ifCond .le 29, 3) := by decide +kernel
theorem d_M_byChance_91 : decode c_M_byChance 91 = .ok (.iload 4, 2) := by decide +kernel
theorem d_M_byChance_93 : decode c_M_byChance 93 = .ok (.aload_n 0, 1) := by decide +kernel
theorem d_M_byChance_94 : decode c_M_byChance 94 = .ok (.getfield 27, 3) := by decide +kernel
theorem d_M_byChance_97 : decode c_M_byChance 97 = .ok (.iload 5, 2) := by decide +kernel
theorem d_M_byChance_99 : decode c_M_byChance 99 = .ok (.baload, 1) := by decide +kernel
theorem d_M_byChance_100 : decode c_M_byChance 100 = .ok (.ifCond .eq 7, 3) := by decide +kernel
theorem d_M_byChance_103 : decode c_M_byChance 103 = .ok (.iconst 0, 1) := by decide +kernel
theorem d_M_byChance_104 : decode c_M_byChance 104 = .ok (.goto 4, 3) := by decide +kernel
theorem d_M_byChance_107 : decode c_M_byChance 107 = .ok (.iconst 1, 1) := by decide +kernel
theorem d_M_byChance_108 : decode c_M_byChance 108 = .ok (.isub, 1) := by decide +kernel
theorem d_M_byChance_109 : decode c_M_byChance 109 = .ok (.istore 4, 2) := by decide +kernel
theorem d_M_byChance_111 : decode c_M_byChance 111 = .ok (.iinc 5 1, 3) := by decide +kernel
theorem d_M_byChance_114 : decode c_M_byChance 114 = .ok (.goto (-38), 3) := by decide +kernel
theorem d_M_byChance_117 : decode c_M_byChance 117 = .ok (.iload 5, 2) := by decide +kernel
theorem d_M_byChance_119 : decode c_M_byChance 119 = .ok (.ireturn, 1) := by decide +kernel
theorem ey_M_byHand : eY y_M_byHand 2 = true := by decide +kernel
theorem d_M_byHand_0 : decode c_M_byHand 0 = .ok (.iconst 0, 1) := by decide +kernel
theorem d_M_byHand_1 : decode c_M_byHand 1 = .ok (.istore_n 3, 1) := by decide +kernel
theorem d_M_byHand_2 : decode c_M_byHand 2 = .ok (.iload_n 3, 1) := by decide +kernel
theorem d_M_byHand_3 : decode c_M_byHand 3 = .ok (.aload_n 0, 1) := by decide +kernel
theorem d_M_byHand_4 : decode c_M_byHand 4 = .ok (.getfield 95, 3) := by decide +kernel
theorem d_M_byHand_7 : decode c_M_byHand 7 = .ok (.if_icmp .ge 23, 3) := by decide +kernel
theorem d_M_byHand_10 : decode c_M_byHand 10 = .ok (.aload_n 0, 1) := by decide +kernel
theorem d_M_byHand_11 : decode c_M_byHand 11 = .ok (.getfield 85, 3) := by decide +kernel
theorem d_M_byHand_14 : decode c_M_byHand 14 = .ok (.iload_n 3, 1) := by decide +kernel
theorem d_M_byHand_15 : decode c_M_byHand 15 = .ok (.aload_n 0, 1) := by decide +kernel
theorem d_M_byHand_16 : decode c_M_byHand 16 = .ok (.getfield 39, 3) := by decide +kernel
theorem d_M_byHand_19 : decode c_M_byHand 19 = .ok (.iload_n 1, 1) := by decide +kernel
theorem d_M_byHand_20 : decode c_M_byHand 20 = .ok (.iload_n 3, 1) := by decide +kernel
theorem d_M_byHand_21 : decode c_M_byHand 21 = .ok (.iadd, 1) := by decide +kernel
theorem d_M_byHand_22 : decode c_M_byHand 22 = .ok (.baload, 1) := by decide +kernel
theorem d_M_byHand_23 : decode c_M_byHand 23 = .ok (.bastore, 1) := by decide +kernel
theorem d_M_byHand_24 : decode c_M_byHand 24 = .ok (.iinc 3 1, 3) := by decide +kernel
theorem d_M_byHand_27 : decode c_M_byHand 27 = .ok (.goto (-25), 3) := by decide +kernel
theorem d_M_byHand_30 : decode c_M_byHand 30 = .ok (.aload_n 0, 1) := by decide +kernel
theorem d_M_byHand_31 : decode c_M_byHand 31 = .ok (.getfield 45, 3) := by decide +kernel
theorem d_M_byHand_34 : decode c_M_byHand 34 = .ok (.iload_n 1, 1) := by decide +kernel
theorem d_M_byHand_35 : decode c_M_byHand 35 = .ok (.bipush 8, 2) := by decide +kernel
theorem d_M_byHand_37 : decode c_M_byHand 37 = .ok (.idiv, 1) := by decide +kernel
theorem d_M_byHand_38 : decode c_M_byHand 38 = .ok (.iaload, 1) := by decide +kernel
theorem d_M_byHand_39 : decode c_M_byHand 39 = .ok (.istore_n 3, 1) := by decide +kernel
theorem d_M_byHand_40 : decode c_M_byHand 40 = .ok (.aload_n 0, 1) := by decide +kernel
theorem d_M_byHand_41 : decode c_M_byHand 41 = .ok (.getfield 27, 3) := by decide +kernel
theorem d_M_byHand_44 : decode c_M_byHand 44 = .ok (.iload_n 1, 1) := by decide +kernel
theorem d_M_byHand_45 : decode c_M_byHand 45 = .ok (.iload_n 3, 1) := by decide +kernel
theorem d_M_byHand_46 : decode c_M_byHand 46 = .ok (.iadd, 1) := by decide +kernel
theorem d_M_byHand_47 : decode c_M_byHand 47 = .ok (.baload, 1) := by decide +kernel
theorem d_M_byHand_48 : decode c_M_byHand 48 = .ok (.ifCond .ne 12, 3) := by decide +kernel
theorem d_M_byHand_51 : decode c_M_byHand 51 = .ok (.aload_n 0, 1) := by decide +kernel
theorem d_M_byHand_52 : decode c_M_byHand 52 = .ok (.getfield 85, 3) := by decide +kernel
theorem d_M_byHand_55 : decode c_M_byHand 55 = .ok (.iload_n 3, 1) := by decide +kernel
theorem d_M_byHand_56 : decode c_M_byHand 56 = .ok (.baload, 1) := by decide +kernel
theorem d_M_byHand_57 : decode c_M_byHand 57 = .ok (.ifCond .eq 33, 3) := by decide +kernel
theorem d_M_byHand_60 : decode c_M_byHand 60 = .ok (.aload_n 0, 1) := by decide +kernel
theorem d_M_byHand_61 : decode c_M_byHand 61 = .ok (.getfield 27, 3) := by decide +kernel
theorem d_M_byHand_64 : decode c_M_byHand 64 = .ok (.iload_n 1, 1) := by decide +kernel
theorem d_M_byHand_65 : decode c_M_byHand 65 = .ok (.iload_n 3, 1) := by decide +kernel
theorem d_M_byHand_66 : decode c_M_byHand 66 = .ok (.iadd, 1) := by decide +kernel
theorem d_M_byHand_67 : decode c_M_byHand 67 = .ok (.baload, 1) := by decide +kernel
theorem d_M_byHand_68 : decode c_M_byHand 68 = .ok (.ifCond .ne 10, 3) := by decide +kernel
theorem d_M_byHand_71 : decode c_M_byHand 71 = .ok (.aload_n 0, 1) := by decide +kernel
theorem d_M_byHand_72 : decode c_M_byHand 72 = .ok (.getfield 85, 3) := by decide +kernel
theorem d_M_byHand_75 : decode c_M_byHand 75 = .ok (.iload_n 3, 1) := by decide +kernel
theorem d_M_byHand_76 : decode c_M_byHand 76 = .ok (.iconst 0, 1) := by decide +kernel
theorem d_M_byHand_77 : decode c_M_byHand 77 = .ok (.bastore, 1) := by decide +kernel
theorem d_M_byHand_78 : decode c_M_byHand 78 = .ok (.iload_n 3, 1) := by decide +kernel
theorem d_M_byHand_79 : decode c_M_byHand 79 = .ok (.iconst 1, 1) := by decide +kernel
theorem d_M_byHand_80 : decode c_M_byHand 80 = .ok (.iadd, 1) := by decide +kernel
theorem d_M_byHand_81 : decode c_M_byHand 81 = .ok (.aload_n 0, 1) := by decide +kernel
theorem d_M_byHand_82 : decode c_M_byHand 82 = .ok (.getfield 95, 3) := by decide +kernel
theorem d_M_byHand_85 : decode c_M_byHand 85 = .ok (.irem, 1) := by decide +kernel
theorem d_M_byHand_86 : decode c_M_byHand 86 = .ok (.istore_n 3, 1) := by decide +kernel
theorem d_M_byHand_87 : decode c_M_byHand 87 = .ok (.goto (-47), 3) := by decide +kernel
theorem d_M_byHand_90 : decode c_M_byHand 90 = .ok (.iload_n 2, 1) := by decide +kernel
theorem d_M_byHand_91 : decode c_M_byHand 91 = .ok (.ifCond .eq 54, 3) := by decide +kernel
theorem d_M_byHand_94 : decode c_M_byHand 94 = .ok (.iconst 0, 1) := by decide +kernel
theorem d_M_byHand_95 : decode c_M_byHand 95 = .ok (.istore 4, 2) := by decide +kernel
theorem d_M_byHand_97 : decode c_M_byHand 97 = .ok (.iload 4, 2) := by decide +kernel
theorem d_M_byHand_99 : decode c_M_byHand 99 = .ok (.aload_n 0, 1) := by decide +kernel
theorem d_M_byHand_100 : decode c_M_byHand 100 = .ok (.getfield 95, 3) := by decide +kernel
theorem d_M_byHand_103 : decode c_M_byHand 103 = .ok (.if_icmp .ge 25, 3) := by decide +kernel
theorem d_M_byHand_106 : decode c_M_byHand 106 = .ok (.aload_n 0, 1) := by decide +kernel
theorem d_M_byHand_107 : decode c_M_byHand 107 = .ok (.getfield 39, 3) := by decide +kernel
theorem d_M_byHand_110 : decode c_M_byHand 110 = .ok (.iload_n 1, 1) := by decide +kernel
theorem d_M_byHand_111 : decode c_M_byHand 111 = .ok (.iload 4, 2) := by decide +kernel
theorem d_M_byHand_113 : decode c_M_byHand 113 = .ok (.iadd, 1) := by decide +kernel
theorem d_M_byHand_114 : decode c_M_byHand 114 = .ok (.aload_n 0, 1) := by decide +kernel
theorem d_M_byHand_115 : decode c_M_byHand 115 = .ok (.getfield 85, 3) := by decide +kernel
theorem d_M_byHand_118 : decode c_M_byHand 118 = .ok (.iload 4, 2) := by decide +kernel
theorem d_M_byHand_120 : decode c_M_byHand 120 = .ok (.baload, 1) := by decide +kernel
theorem d_M_byHand_121 : decode c_M_byHand 121 = .ok (.bastore, 1) := by decide +kernel
theorem d_M_byHand_122 : decode c_M_byHand 122 = .ok (.iinc 4 1, 3) := by decide +kernel
theorem d_M_byHand_125 : decode c_M_byHand 125 = .ok (.goto (-28), 3) := by decide +kernel
theorem d_M_byHand_128 : decode c_M_byHand 128 = .ok (.aload_n 0, 1) := by decide +kernel
theorem d_M_byHand_129 : decode c_M_byHand 129 = .ok (.getfield 45, 3) := by decide +kernel
theorem d_M_byHand_132 : decode c_M_byHand 132 = .ok (.iload_n 1, 1) := by decide +kernel
theorem d_M_byHand_133 : decode c_M_byHand 133 = .ok (.bipush 8, 2) := by decide +kernel
theorem d_M_byHand_135 : decode c_M_byHand 135 = .ok (.idiv, 1) := by decide +kernel
theorem d_M_byHand_136 : decode c_M_byHand 136 = .ok (.iload_n 3, 1) := by decide +kernel
theorem d_M_byHand_137 : decode c_M_byHand 137 = .ok (.iconst 1, 1) := by decide +kernel
theorem d_M_byHand_138 : decode c_M_byHand 138 = .ok (.iadd, 1) := by decide +kernel
theorem d_M_byHand_139 : decode c_M_byHand 139 = .ok (.aload_n 0, 1) := by decide +kernel
theorem d_M_byHand_140 : decode c_M_byHand 140 = .ok (.getfield 95, 3) := by decide +kernel
theorem d_M_byHand_143 : decode c_M_byHand 143 = .ok (.irem, 1) := by decide +kernel
theorem d_M_byHand_144 : decode c_M_byHand 144 = .ok (.iastore, 1) := by decide +kernel
theorem d_M_byHand_145 : decode c_M_byHand 145 = .ok (.iload_n 1, 1) := by decide +kernel
theorem d_M_byHand_146 : decode c_M_byHand 146 = .ok (.iload_n 3, 1) := by decide +kernel
theorem d_M_byHand_147 : decode c_M_byHand 147 = .ok (.iadd, 1) := by decide +kernel
theorem d_M_byHand_148 : decode c_M_byHand 148 = .ok (.ireturn, 1) := by decide +kernel
theorem ey_M_byTree : eY y_M_byTree 1 = true := by decide +kernel
theorem d_M_byTree_0 : decode c_M_byTree 0 = .ok (.aload_n 0, 1) := by decide +kernel
theorem d_M_byTree_1 : decode c_M_byTree 1 = .ok (.invokevirtual 117, 3) := by decide +kernel
theorem d_M_byTree_4 : decode c_M_byTree 4 = .ok (.istore_n 2, 1) := by decide +kernel
theorem d_M_byTree_5 : decode c_M_byTree 5 = .ok (.iconst 1, 1) := by decide +kernel
theorem d_M_byTree_6 : decode c_M_byTree 6 = .ok (.istore_n 3, 1) := by decide +kernel
theorem d_M_byTree_7 : decode c_M_byTree 7 = .ok (.iload_n 3, 1) := by decide +kernel
theorem d_M_byTree_8 : decode c_M_byTree 8 = .ok (.iload_n 2, 1) := by decide +kernel
theorem d_M_byTree_9 : decode c_M_byTree 9 = .ok (.if_icmp .ge 27, 3) := by decide +kernel
theorem d_M_byTree_12 : decode c_M_byTree 12 = .ok (.iconst 2, 1) := by decide +kernel
theorem d_M_byTree_13 : decode c_M_byTree 13 = .ok (.iload_n 3, 1) := by decide +kernel
theorem d_M_byTree_14 : decode c_M_byTree 14 = .ok (.imul, 1) := by decide +kernel
theorem d_M_byTree_15 : decode c_M_byTree 15 = .ok (.aload_n 0, 1) := by decide +kernel
theorem d_M_byTree_16 : decode c_M_byTree 16 = .ok (.getfield 48, 3) := by decide +kernel
theorem d_M_byTree_19 : decode c_M_byTree 19 = .ok (.iload_n 1, 1) := by decide +kernel
theorem d_M_byTree_20 : decode c_M_byTree 20 = .ok (.iload_n 3, 1) := by decide +kernel
theorem d_M_byTree_21 : decode c_M_byTree 21 = .ok (.iadd, 1) := by decide +kernel
theorem d_M_byTree_22 : decode c_M_byTree 22 = .ok (.baload, 1) := by decide +kernel
theorem d_M_byTree_23 : decode c_M_byTree 23 = .ok (.ifCond .eq 7, 3) := by decide +kernel
theorem d_M_byTree_26 : decode c_M_byTree 26 = .ok (.iconst 1, 1) := by decide +kernel
theorem d_M_byTree_27 : decode c_M_byTree 27 = .ok (.goto 4, 3) := by decide +kernel
theorem d_M_byTree_30 : decode c_M_byTree 30 = .ok (.iconst 0, 1) := by decide +kernel
theorem d_M_byTree_31 : decode c_M_byTree 31 = .ok (.iadd, 1) := by decide +kernel
theorem d_M_byTree_32 : decode c_M_byTree 32 = .ok (.istore_n 3, 1) := by decide +kernel
theorem d_M_byTree_33 : decode c_M_byTree 33 = .ok (.goto (-26), 3) := by decide +kernel
theorem d_M_byTree_36 : decode c_M_byTree 36 = .ok (.iload_n 3, 1) := by decide +kernel
theorem d_M_byTree_37 : decode c_M_byTree 37 = .ok (.iload_n 2, 1) := by decide +kernel
theorem d_M_byTree_38 : decode c_M_byTree 38 = .ok (.isub, 1) := by decide +kernel
theorem d_M_byTree_39 : decode c_M_byTree 39 = .ok (.istore 4, 2) := by decide +kernel
theorem d_M_byTree_41 : decode c_M_byTree 41 = .ok (.iload 4, 2) := by decide +kernel
theorem d_M_byTree_43 : decode c_M_byTree 43 = .ok (.aload_n 0, 1) := by decide +kernel
theorem d_M_byTree_44 : decode c_M_byTree 44 = .ok (.getfield 95, 3) := by decide +kernel
theorem d_M_byTree_47 : decode c_M_byTree 47 = .ok (.if_icmp .ge 15, 3) := by decide +kernel
theorem d_M_byTree_50 : decode c_M_byTree 50 = .ok (.aload_n 0, 1) := by decide +kernel
theorem d_M_byTree_51 : decode c_M_byTree 51 = .ok (.getfield 27, 3) := by decide +kernel
theorem d_M_byTree_54 : decode c_M_byTree 54 = .ok (.iload_n 1, 1) := by decide +kernel
theorem d_M_byTree_55 : decode c_M_byTree 55 = .ok (.iload 4, 2) := by decide +kernel
theorem d_M_byTree_57 : decode c_M_byTree 57 = .ok (.iadd, 1) := by decide +kernel
theorem d_M_byTree_58 : decode c_M_byTree 58 = .ok (.baload, 1) := by decide +kernel
theorem d_M_byTree_59 : decode c_M_byTree 59 = .ok (.ifCond .eq 14, 3) := by decide +kernel
theorem d_M_byTree_62 : decode c_M_byTree 62 = .ok (.iload 4, 2) := by decide +kernel
theorem d_M_byTree_64 : decode c_M_byTree 64 = .ok (.iconst 1, 1) := by decide +kernel
theorem d_M_byTree_65 : decode c_M_byTree 65 = .ok (.iadd, 1) := by decide +kernel
theorem d_M_byTree_66 : decode c_M_byTree 66 = .ok (.iload_n 2, 1) := by decide +kernel
theorem d_M_byTree_67 : decode c_M_byTree 67 = .ok (.irem, 1) := by decide +kernel
theorem d_M_byTree_68 : decode c_M_byTree 68 = .ok (.istore 4, 2) := by decide +kernel
theorem d_M_byTree_70 : decode c_M_byTree 70 = .ok (.goto (-29), 3) := by decide +kernel
theorem d_M_byTree_73 : decode c_M_byTree 73 = .ok (.iload_n 1, 1) := by decide +kernel
theorem d_M_byTree_74 : decode c_M_byTree 74 = .ok (.iload 4, 2) := by decide +kernel
theorem d_M_byTree_76 : decode c_M_byTree 76 = .ok (.iadd, 1) := by decide +kernel
theorem d_M_byTree_77 : decode c_M_byTree 77 = .ok (.ireturn, 1) := by decide +kernel
theorem ey_M_unmarked : eY y_M_unmarked 1 = true := by decide +kernel
theorem d_M_unmarked_0 : decode c_M_unmarked 0 = .ok (.iconst (-1), 1) := by decide +kernel
theorem d_M_unmarked_1 : decode c_M_unmarked 1 = .ok (.istore_n 2, 1) := by decide +kernel
theorem d_M_unmarked_2 : decode c_M_unmarked 2 = .ok (.iload_n 1, 1) := by decide +kernel
theorem d_M_unmarked_3 : decode c_M_unmarked 3 = .ok (.aload_n 0, 1) := by decide +kernel
theorem d_M_unmarked_4 : decode c_M_unmarked 4 = .ok (.getfield 95, 3) := by decide +kernel
theorem d_M_unmarked_7 : decode c_M_unmarked 7 = .ok (.iadd, 1) := by decide +kernel
theorem d_M_unmarked_8 : decode c_M_unmarked 8 = .ok (.iconst 1, 1) := by decide +kernel
theorem d_M_unmarked_9 : decode c_M_unmarked 9 = .ok (.isub, 1) := by decide +kernel
theorem d_M_unmarked_10 : decode c_M_unmarked 10 = .ok (.istore_n 3, 1) := by decide +kernel
theorem d_M_unmarked_11 : decode c_M_unmarked 11 = .ok (.iload_n 3, 1) := by decide +kernel
theorem d_M_unmarked_12 : decode c_M_unmarked 12 = .ok (.iload_n 1, 1) := by decide +kernel
theorem d_M_unmarked_13 : decode c_M_unmarked 13 = .ok (.if_icmp .lt 24, 3) := by decide +kernel
theorem d_M_unmarked_16 : decode c_M_unmarked 16 = .ok (.aload_n 0, 1) := by decide +kernel
theorem d_M_unmarked_17 : decode c_M_unmarked 17 = .ok (.getfield 27, 3) := by decide +kernel
theorem d_M_unmarked_20 : decode c_M_unmarked 20 = .ok (.iload_n 3, 1) := by decide +kernel
theorem d_M_unmarked_21 : decode c_M_unmarked 21 = .ok (.baload, 1) := by decide +kernel
theorem d_M_unmarked_22 : decode c_M_unmarked 22 = .ok (.ifCond .eq 7, 3) := by decide +kernel
theorem d_M_unmarked_25 : decode c_M_unmarked 25 = .ok (.iload_n 2, 1) := by decide +kernel
theorem d_M_unmarked_26 : decode c_M_unmarked 26 = .ok (.goto 4, 3) := by decide +kernel
theorem d_M_unmarked_29 : decode c_M_unmarked 29 = .ok (.iload_n 3, 1) := by decide +kernel
theorem d_M_unmarked_30 : decode c_M_unmarked 30 = .ok (.istore_n 2, 1) := by decide +kernel
theorem d_M_unmarked_31 : decode c_M_unmarked 31 = .ok (.iinc 3 (-1), 3) := by decide +kernel
theorem d_M_unmarked_34 : decode c_M_unmarked 34 = .ok (.goto (-23), 3) := by decide +kernel
theorem d_M_unmarked_37 : decode c_M_unmarked 37 = .ok (.iload_n 1, 1) := by decide +kernel
theorem d_M_unmarked_38 : decode c_M_unmarked 38 = .ok (.istore_n 3, 1) := by decide +kernel
theorem d_M_unmarked_39 : decode c_M_unmarked 39 = .ok (.iload_n 3, 1) := by decide +kernel
theorem d_M_unmarked_40 : decode c_M_unmarked 40 = .ok (.iload_n 1, 1) := by decide +kernel
theorem d_M_unmarked_41 : decode c_M_unmarked 41 = .ok (.aload_n 0, 1) := by decide +kernel
theorem d_M_unmarked_42 : decode c_M_unmarked 42 = .ok (.getfield 95, 3) := by decide +kernel
theorem d_M_unmarked_45 : decode c_M_unmarked 45 = .ok (.iadd, 1) := by decide +kernel
theorem d_M_unmarked_46 : decode c_M_unmarked 46 = .ok (.if_icmp .ge 29, 3) := by decide +kernel
theorem d_M_unmarked_49 : decode c_M_unmarked 49 = .ok (.aload_n 0, 1) := by decide +kernel
theorem d_M_unmarked_50 : decode c_M_unmarked 50 = .ok (.getfield 27, 3) := by decide +kernel
theorem d_M_unmarked_53 : decode c_M_unmarked 53 = .ok (.iload_n 3, 1) := by decide +kernel
theorem d_M_unmarked_54 : decode c_M_unmarked 54 = .ok (.baload, 1) := by decide +kernel
theorem d_M_unmarked_55 : decode c_M_unmarked 55 = .ok (.ifCond .ne 14, 3) := by decide +kernel
theorem d_M_unmarked_58 : decode c_M_unmarked 58 = .ok (.aload_n 0, 1) := by decide +kernel
theorem d_M_unmarked_59 : decode c_M_unmarked 59 = .ok (.getfield 39, 3) := by decide +kernel
theorem d_M_unmarked_62 : decode c_M_unmarked 62 = .ok (.iload_n 3, 1) := by decide +kernel
theorem d_M_unmarked_63 : decode c_M_unmarked 63 = .ok (.baload, 1) := by decide +kernel
theorem d_M_unmarked_64 : decode c_M_unmarked 64 = .ok (.ifCond .ne 5, 3) := by decide +kernel
theorem d_M_unmarked_67 : decode c_M_unmarked 67 = .ok (.iload_n 3, 1) := by decide +kernel
theorem d_M_unmarked_68 : decode c_M_unmarked 68 = .ok (.ireturn, 1) := by decide +kernel
theorem d_M_unmarked_69 : decode c_M_unmarked 69 = .ok (.iinc 3 1, 3) := by decide +kernel
theorem d_M_unmarked_72 : decode c_M_unmarked 72 = .ok (.goto (-33), 3) := by decide +kernel
theorem d_M_unmarked_75 : decode c_M_unmarked 75 = .ok (.iload_n 2, 1) := by decide +kernel
theorem d_M_unmarked_76 : decode c_M_unmarked 76 = .ok (.ireturn, 1) := by decide +kernel
theorem ey_M_byAge : eY y_M_byAge 2 = true := by decide +kernel
theorem d_M_byAge_0 : decode c_M_byAge 0 = .ok (.iconst 0, 1) := by decide +kernel
theorem d_M_byAge_1 : decode c_M_byAge 1 = .ok (.istore_n 3, 1) := by decide +kernel
theorem d_M_byAge_2 : decode c_M_byAge 2 = .ok (.iload_n 1, 1) := by decide +kernel
theorem d_M_byAge_3 : decode c_M_byAge 3 = .ok (.istore 4, 2) := by decide +kernel
theorem d_M_byAge_5 : decode c_M_byAge 5 = .ok (.iload 4, 2) := by decide +kernel
theorem d_M_byAge_7 : decode c_M_byAge 7 = .ok (.iload_n 1, 1) := by decide +kernel
theorem d_M_byAge_8 : decode c_M_byAge 8 = .ok (.aload_n 0, 1) := by decide +kernel
theorem d_M_byAge_9 : decode c_M_byAge 9 = .ok (.getfield 95, 3) := by decide +kernel
theorem d_M_byAge_12 : decode c_M_byAge 12 = .ok (.iadd, 1) := by decide +kernel
theorem d_M_byAge_13 : decode c_M_byAge 13 = .ok (.if_icmp .ge 42, 3) := by decide +kernel
theorem d_M_byAge_16 : decode c_M_byAge 16 = .ok (.aload_n 0, 1) := by decide +kernel
theorem d_M_byAge_17 : decode c_M_byAge 17 = .ok (.getfield 27, 3) := by decide +kernel
theorem d_M_byAge_20 : decode c_M_byAge 20 = .ok (.iload 4, 2) := by decide +kernel
theorem d_M_byAge_22 : decode c_M_byAge 22 = .ok (.baload, 1) := by decide +kernel
theorem d_M_byAge_23 : decode c_M_byAge 23 = .ok (.ifCond .ne 24, 3) := by decide +kernel
theorem d_M_byAge_26 : decode c_M_byAge 26 = .ok (.aload_n 0, 1) := by decide +kernel
theorem d_M_byAge_27 : decode c_M_byAge 27 = .ok (.getfield 42, 3) := by decide +kernel
theorem d_M_byAge_30 : decode c_M_byAge 30 = .ok (.iload 4, 2) := by decide +kernel
theorem d_M_byAge_32 : decode c_M_byAge 32 = .ok (.iaload, 1) := by decide +kernel
theorem d_M_byAge_33 : decode c_M_byAge 33 = .ok (.iload_n 3, 1) := by decide +kernel
theorem d_M_byAge_34 : decode c_M_byAge 34 = .ok (.if_icmp .le 13, 3) := by decide +kernel
theorem d_M_byAge_37 : decode c_M_byAge 37 = .ok (.aload_n 0, 1) := by decide +kernel
theorem d_M_byAge_38 : decode c_M_byAge 38 = .ok (.getfield 42, 3) := by decide +kernel
theorem d_M_byAge_41 : decode c_M_byAge 41 = .ok (.iload 4, 2) := by decide +kernel
theorem d_M_byAge_43 : decode c_M_byAge 43 = .ok (.iaload, 1) := by decide +kernel
theorem d_M_byAge_44 : decode c_M_byAge 44 = .ok (.goto 4, 3) := by decide +kernel
theorem d_M_byAge_47 : decode c_M_byAge 47 = .ok (.iload_n 3, 1) := by decide +kernel
theorem d_M_byAge_48 : decode c_M_byAge 48 = .ok (.istore_n 3, 1) := by decide +kernel
theorem d_M_byAge_49 : decode c_M_byAge 49 = .ok (.iinc 4 1, 3) := by decide +kernel
theorem d_M_byAge_52 : decode c_M_byAge 52 = .ok (.goto (-47), 3) := by decide +kernel
theorem d_M_byAge_55 : decode c_M_byAge 55 = .ok (.iload_n 1, 1) := by decide +kernel
theorem d_M_byAge_56 : decode c_M_byAge 56 = .ok (.istore 4, 2) := by decide +kernel
theorem d_M_byAge_58 : decode c_M_byAge 58 = .ok (.iload 4, 2) := by decide +kernel
theorem d_M_byAge_60 : decode c_M_byAge 60 = .ok (.iload_n 1, 1) := by decide +kernel
theorem d_M_byAge_61 : decode c_M_byAge 61 = .ok (.aload_n 0, 1) := by decide +kernel
theorem d_M_byAge_62 : decode c_M_byAge 62 = .ok (.getfield 95, 3) := by decide +kernel
theorem d_M_byAge_65 : decode c_M_byAge 65 = .ok (.iadd, 1) := by decide +kernel
theorem d_M_byAge_66 : decode c_M_byAge 66 = .ok (.if_icmp .ge 40, 3) := by decide +kernel
theorem d_M_byAge_69 : decode c_M_byAge 69 = .ok (.iload_n 2, 1) := by decide +kernel
theorem d_M_byAge_70 : decode c_M_byAge 70 = .ok (.ifCond .eq 36, 3) := by decide +kernel
theorem d_M_byAge_73 : decode c_M_byAge 73 = .ok (.aload_n 0, 1) := by decide +kernel
theorem d_M_byAge_74 : decode c_M_byAge 74 = .ok (.getfield 42, 3) := by decide +kernel
theorem d_M_byAge_77 : decode c_M_byAge 77 = .ok (.iload 4, 2) := by decide +kernel
theorem d_M_byAge_79 : decode c_M_byAge 79 = .ok (.dup2, 1) := by decide +kernel
theorem d_M_byAge_80 : decode c_M_byAge 80 = .ok (.iaload, 1) := by decide +kernel
theorem d_M_byAge_81 : decode c_M_byAge 81 = .ok (.aload_n 0, 1) := by decide +kernel
theorem d_M_byAge_82 : decode c_M_byAge 82 = .ok (.getfield 27, 3) := by decide +kernel
theorem d_M_byAge_85 : decode c_M_byAge 85 = .ok (.iload 4, 2) := by decide +kernel
theorem d_M_byAge_87 : decode c_M_byAge 87 = .ok (.baload, 1) := by decide +kernel
theorem d_M_byAge_88 : decode c_M_byAge 88 = .ok (.ifCond .eq 7, 3) := by decide +kernel
theorem d_M_byAge_91 : decode c_M_byAge 91 = .ok (.iconst 0, 1) := by decide +kernel
theorem d_M_byAge_92 : decode c_M_byAge 92 = .ok (.goto 6, 3) := by decide +kernel
theorem d_M_byAge_95 : decode c_M_byAge 95 = .ok (.iconst 3, 1) := by decide +kernel
theorem d_M_byAge_96 : decode c_M_byAge 96 = .ok (.iload_n 3, 1) := by decide +kernel
theorem d_M_byAge_97 : decode c_M_byAge 97 = .ok (.isub, 1) := by decide +kernel
theorem d_M_byAge_98 : decode c_M_byAge 98 = .ok (.iadd, 1) := by decide +kernel
theorem d_M_byAge_99 : decode c_M_byAge 99 = .ok (.iastore, 1) := by decide +kernel
theorem d_M_byAge_100 : decode c_M_byAge 100 = .ok (.iinc 4 1, 3) := by decide +kernel
theorem d_M_byAge_103 : decode c_M_byAge 103 = .ok (.goto (-45), 3) := by decide +kernel
theorem d_M_byAge_106 : decode c_M_byAge 106 = .ok (.iload_n 2, 1) := by decide +kernel
theorem d_M_byAge_107 : decode c_M_byAge 107 = .ok (.ifCond .eq 7, 3) := by decide +kernel
theorem d_M_byAge_110 : decode c_M_byAge 110 = .ok (.iconst 3, 1) := by decide +kernel
theorem d_M_byAge_111 : decode c_M_byAge 111 = .ok (.goto 4, 3) := by decide +kernel
theorem d_M_byAge_114 : decode c_M_byAge 114 = .ok (.iload_n 3, 1) := by decide +kernel
theorem d_M_byAge_115 : decode c_M_byAge 115 = .ok (.istore 4, 2) := by decide +kernel
theorem d_M_byAge_117 : decode c_M_byAge 117 = .ok (.iload_n 1, 1) := by decide +kernel
theorem d_M_byAge_118 : decode c_M_byAge 118 = .ok (.istore 5, 2) := by decide +kernel
theorem d_M_byAge_120 : decode c_M_byAge 120 = .ok (.aload_n 0, 1) := by decide +kernel
theorem d_M_byAge_121 : decode c_M_byAge 121 = .ok (.getfield 27, 3) := by decide +kernel
theorem d_M_byAge_124 : decode c_M_byAge 124 = .ok (.iload 5, 2) := by decide +kernel
theorem d_M_byAge_126 : decode c_M_byAge 126 = .ok (.baload, 1) := by decide +kernel
theorem d_M_byAge_127 : decode c_M_byAge 127 = .ok (.ifCond .ne 15, 3) := by decide +kernel
theorem d_M_byAge_130 : decode c_M_byAge 130 = .ok (.aload_n 0, 1) := by decide +kernel
theorem d_M_byAge_131 : decode c_M_byAge 131 = .ok (.getfield 42, 3) := by decide +kernel
theorem d_M_byAge_134 : decode c_M_byAge 134 = .ok (.iload 5, 2) := by decide +kernel
theorem d_M_byAge_136 : decode c_M_byAge 136 = .ok (.iaload, 1) := by decide +kernel
theorem d_M_byAge_137 : decode c_M_byAge 137 = .ok (.iload 4, 2) := by decide +kernel
theorem d_M_byAge_139 : decode c_M_byAge 139 = .ok (.if_icmp .eq 9, 3) := by decide +kernel
theorem d_M_byAge_142 : decode c_M_byAge 142 = .ok (.iinc 5 1, 3) := by decide +kernel
theorem d_M_byAge_145 : decode c_M_byAge 145 = .ok (.goto (-25), 3) := by decide +kernel
theorem d_M_byAge_148 : decode c_M_byAge 148 = .ok (.iload 5, 2) := by decide +kernel
theorem d_M_byAge_150 : decode c_M_byAge 150 = .ok (.ireturn, 1) := by decide +kernel
theorem ey_M_pick : eY y_M_pick 2 = true := by decide +kernel
theorem d_M_pick_0 : decode c_M_pick 0 = .ok (.aload_n 0, 1) := by decide +kernel
theorem d_M_pick_1 : decode c_M_pick 1 = .ok (.getfield 98, 3) := by decide +kernel
theorem d_M_pick_4 : decode c_M_pick 4 = .ok (.tableswitch 73 3 8 #[40, 73, 47, 54, 60, 66], 40) := by decide +kernel
theorem d_M_pick_44 : decode c_M_pick 44 = .ok (.aload_n 0, 1) := by decide +kernel
theorem d_M_pick_45 : decode c_M_pick 45 = .ok (.iload_n 1, 1) := by decide +kernel
theorem d_M_pick_46 : decode c_M_pick 46 = .ok (.iload_n 2, 1) := by decide +kernel
theorem d_M_pick_47 : decode c_M_pick 47 = .ok (.invokevirtual 138, 3) := by decide +kernel
theorem d_M_pick_50 : decode c_M_pick 50 = .ok (.ireturn, 1) := by decide +kernel
theorem d_M_pick_51 : decode c_M_pick 51 = .ok (.aload_n 0, 1) := by decide +kernel
theorem d_M_pick_52 : decode c_M_pick 52 = .ok (.iload_n 1, 1) := by decide +kernel
theorem d_M_pick_53 : decode c_M_pick 53 = .ok (.iload_n 2, 1) := by decide +kernel
theorem d_M_pick_54 : decode c_M_pick 54 = .ok (.invokevirtual 142, 3) := by decide +kernel
theorem d_M_pick_57 : decode c_M_pick 57 = .ok (.ireturn, 1) := by decide +kernel
theorem d_M_pick_58 : decode c_M_pick 58 = .ok (.aload_n 0, 1) := by decide +kernel
theorem d_M_pick_59 : decode c_M_pick 59 = .ok (.iload_n 1, 1) := by decide +kernel
theorem d_M_pick_60 : decode c_M_pick 60 = .ok (.invokevirtual 145, 3) := by decide +kernel
theorem d_M_pick_63 : decode c_M_pick 63 = .ok (.ireturn, 1) := by decide +kernel
theorem d_M_pick_64 : decode c_M_pick 64 = .ok (.aload_n 0, 1) := by decide +kernel
theorem d_M_pick_65 : decode c_M_pick 65 = .ok (.iload_n 1, 1) := by decide +kernel
theorem d_M_pick_66 : decode c_M_pick 66 = .ok (.invokevirtual 148, 3) := by decide +kernel
theorem d_M_pick_69 : decode c_M_pick 69 = .ok (.ireturn, 1) := by decide +kernel
theorem d_M_pick_70 : decode c_M_pick 70 = .ok (.aload_n 0, 1) := by decide +kernel
theorem d_M_pick_71 : decode c_M_pick 71 = .ok (.iload_n 1, 1) := by decide +kernel
theorem d_M_pick_72 : decode c_M_pick 72 = .ok (.iload_n 2, 1) := by decide +kernel
theorem d_M_pick_73 : decode c_M_pick 73 = .ok (.invokevirtual 151, 3) := by decide +kernel
theorem d_M_pick_76 : decode c_M_pick 76 = .ok (.ireturn, 1) := by decide +kernel
theorem d_M_pick_77 : decode c_M_pick 77 = .ok (.aload_n 0, 1) := by decide +kernel
theorem d_M_pick_78 : decode c_M_pick 78 = .ok (.iload_n 1, 1) := by decide +kernel
theorem d_M_pick_79 : decode c_M_pick 79 = .ok (.invokevirtual 154, 3) := by decide +kernel
theorem d_M_pick_82 : decode c_M_pick 82 = .ok (.ireturn, 1) := by decide +kernel
def lcg (x : Int32) : Int32 := (1103515245 * x + 12345) &&& 2147483647
/-- by hand: marks and hand behind the loop, if it ends within t steps -/
def hndO (lk : Nat → Bool) (wd : Nat) : Nat → (Nat → Int32) → Nat → Option ((Nat → Int32) × Nat)
  | 0, _, _ => none
  | t + 1, g, h => if lk h = false ∧ g h = 0 then some (g, h) else hndO lk wd t (if lk h then g else upd g h 0) ((h + 1) % wd)
/-- the next one that is right, going up and round, if it comes within t steps -/
def twO (lk : Nat → Bool) (wd P : Nat) : Nat → Nat → Option Nat
  | 0, _ => none
  | t + 1, w => if w < wd ∧ lk w = false then some w else twO lk wd P t ((w + 1) % P)
/-- where the bits point -/
def trM (g : Nat → Int32) (b0 P : Nat) : Nat → Nat → Nat
  | 0, node => node
  | t + 1, node => if node < P then trM g b0 P t (2 * node + (if g (b0 + node) = 0 then 0 else 1)) else node
/-- the greatest age of those that are free -/
def mxA (lk : Nat → Bool) (g : Nat → Int32) : Int32 → Nat → Nat → Int32
  | y, _, 0 => y
  | y, k, q + 1 => mxA lk g (if lk k = false ∧ ¬ g k ≤ y then g k else y) (k + 1) q
/-- all that are free grow older by y, from slot lo up to hi -/
def agM (lk : Nat → Bool) (g : Nat → Int32) (y : Int32) (lo hi : Nat) : Nat → Int32 := fun j => if lo ≤ j ∧ j < hi ∧ lk j = false then g j + y else g j
theorem agM_0 (lk : Nat → Bool) (g : Nat → Int32) (y : Int32) (lo : Nat) : agM lk g y lo lo = g := by
  funext j
  unfold agM
  rw [if_neg (by omega)]
theorem agM_l {lk : Nat → Bool} {g : Nat → Int32} {y : Int32} {lo k : Nat} (h : lk k = true) : agM lk g y lo (k + 1) = upd (agM lk g y lo k) k (agM lk g y lo k k + 0) := by
  funext j
  by_cases hj : j = k
  · subst hj
    rw [pk_us]
    unfold agM
    rw [if_neg (fun z => by rw [h] at z; exact absurd z.2.2 (by decide)), if_neg (by omega), Int32.add_zero]
  · rw [pk_un hj]
    unfold agM
    by_cases h2 : lo ≤ j ∧ j < k ∧ lk j = false
    · rw [if_pos ⟨h2.1, by omega, h2.2.2⟩, if_pos h2]
    · rw [if_neg (fun z => h2 ⟨z.1, by omega, z.2.2⟩), if_neg h2]
theorem agM_s {lk : Nat → Bool} {g : Nat → Int32} {y : Int32} {lo k : Nat} (hk : lo ≤ k) (h : lk k = false) : agM lk g y lo (k + 1) = upd (agM lk g y lo k) k (agM lk g y lo k k + y) := by
  funext j
  by_cases hj : j = k
  · subst hj
    rw [pk_us]
    unfold agM
    rw [if_pos ⟨hk, by omega, h⟩, if_neg (by omega)]
  · rw [pk_un hj]
    unfold agM
    by_cases h2 : lo ≤ j ∧ j < k ∧ lk j = false
    · rw [if_pos ⟨h2.1, by omega, h2.2.2⟩, if_pos h2]
    · rw [if_neg (fun z => h2 ⟨z.1, by omega, z.2.2⟩), if_neg h2]
/-- marks copied -/
def cpM (g : Nat → Int32) (b0 : Nat) (o : Nat → Int32) (k : Nat) : Nat → Int32 := fun j => if j < k then g (b0 + j) else o j
theorem cpM_0 (g : Nat → Int32) (b0 : Nat) (o : Nat → Int32) : cpM g b0 o 0 = o := by
  funext j
  simp [cpM]
theorem cpM_s (g : Nat → Int32) (b0 : Nat) (o : Nat → Int32) (k : Nat) : cpM g b0 o (k + 1) = upd (cpM g b0 o k) k (g (b0 + k)) := by
  funext j
  by_cases hj : j = k
  · subst hj
    rw [pk_us]
    simp [cpM]
  · rw [pk_un hj]
    unfold cpM
    by_cases h2 : j < k
    · rw [if_pos (by omega), if_pos h2]
    · rw [if_neg (by omega), if_neg h2]
/-- marks copied back -/
def cbM (g : Nat → Int32) (b0 : Nat) (o : Nat → Int32) (k : Nat) : Nat → Int32 := fun j => if b0 ≤ j ∧ j < b0 + k then g (j - b0) else o j
theorem cbM_0 (g : Nat → Int32) (b0 : Nat) (o : Nat → Int32) : cbM g b0 o 0 = o := by
  funext j
  unfold cbM
  rw [if_neg (by omega)]
theorem cbM_s (g : Nat → Int32) (b0 : Nat) (o : Nat → Int32) (k : Nat) : cbM g b0 o (k + 1) = upd (cbM g b0 o k) (b0 + k) (g k) := by
  funext j
  by_cases hj : j = b0 + k
  · subst hj
    rw [pk_us]
    unfold cbM
    rw [if_pos (by omega), show b0 + k - b0 = k by omega]
  · rw [pk_un hj]
    unfold cbM
    by_cases h2 : b0 ≤ j ∧ j < b0 + k
    · rw [if_pos (by omega), if_pos h2]
    · rw [if_neg (by omega), if_neg h2]
def BL (g : Nat → Int32) : Prop := ∀ j, g j = 0 ∨ g j = 1
theorem BL.nar {g : Nat → Int32} (h : BL g) (j : Nat) : vp_nar .boolean (g j) = g j := by
  rcases h j with e | e <;> rw [e] <;> rfl
theorem BL.up {g : Nat → Int32} (h : BL g) (k : Nat) {x : Int32} (hx : x = 0 ∨ x = 1) : BL (upd g k x) := by
  intro j
  by_cases hj : j = k
  · subst hj
    rw [pk_us]
    exact hx
  · rw [pk_un hj]
    exact h j
section M2
variable {l : Launch} {G : EG} {a : Nat → Nat} {m : CS} {S wd V kd s w : Nat} {ws : va_W}
set_option maxRecDepth 100000 in
theorem k_M_byChance (h : MD m.1 S wd V kd) (hs : s < 16) (mv : Bool) {x r : Nat} (hx : x < 2 ^ 31) (h20 : m.1 20 = nI x) (hn : cntU (lkM m.2) 0 (8 * s) wd ≠ 0) (hr : nthU (lkM m.2) (x / 65536 % cntU (lkM m.2) 0 (8 * s) wd) (8 * s) wd = some r) :
    Con l G y_M_byChance c_M_byChance 6 (some .int) (rz 0 0) [.ref (a 40), .int (nI (8 * s)), .int (bI mv)] (mF G a m.1 m.2) (DI (nI r) (mF G a (if mv then upd m.1 20 (lcg (m.1 20)) else m.1) m.2)) := by
  refine Con.of rfl rfl (fun X C E hR hl hnm => ?_)
  have hw8 := h.w8
  have hb0 : 8 * s + 8 ≤ 128 := by omega
  refine e_iconst C d_M_byChance_0 (v := 0) (by decide) ?_
  refine e_istore_n C d_M_byChance_1 rfl ?_
  refine e_iload_n C d_M_byChance_2 rfl ?_
  refine e_istore C d_M_byChance_3 rfl ?_
  generalize 8 * s = b0 at E hb0 hn hr ⊢
  have fin : ∀ (v : Nat → Int32) (c : Nat), v = (if mv then upd m.1 20 (lcg (m.1 20)) else m.1) → c < 2 ^ 20 → nthU (lkM m.2) c b0 wd = some r → EW X G 6 0 0 73 [(0, .ref (a 40)), (1, .int (nI b0)), (4, .int (nI c))] [] (mF G a v m.2) := by
    intro v c hv hc hr
    rw [← hv] at E
    refine e_iload_n C d_M_byChance_73 rfl ?_
    refine e_istore C d_M_byChance_74 rfl ?_
    have L2 : ∀ (q k t : Nat), k + q = b0 + wd → t < 2 ^ 20 → nthU (lkM m.2) t k q = some r → EW X G 6 0 0 76 [(0, .ref (a 40)), (4, .int (nI t)), (5, .int (nI k))] [] (mF G a v m.2) := by
      intro q
      induction q with
      | zero => intro k t hk ht hf; cases hf
      | succ q ih =>
        intro k t hk ht hf
        rw [nthU] at hf
        refine e_aload_n C d_M_byChance_76 rfl ?_
        refine e_get C 0 (k := 11) in_M g750 d_M_byChance_77 rfl rfl rfl rfl ?_
        refine e_iload C d_M_byChance_80 rfl ?_
        refine e_zald C 5 1 d_M_byChance_82 rfl rfl k rfl (by omega) (by omega) ?_
        refine e_if_ne C d_M_byChance_83 (tgt := 91) (by decide) (fun h83 => ?_) (fun h83 => ?_)
        · have hh : lkM m.2 k = true := by simp [lkM]; exact h83
          rw [if_pos hh] at hf
          refine e_iload C d_M_byChance_91 rfl ?_
          refine e_aload_n C d_M_byChance_93 rfl ?_
          refine e_get C 0 (k := 11) in_M g750 d_M_byChance_94 rfl rfl rfl rfl ?_
          refine e_iload C d_M_byChance_97 rfl ?_
          refine e_zald C 5 1 d_M_byChance_99 rfl rfl k rfl (by omega) (by omega) ?_
          refine e_if_eq C d_M_byChance_100 (tgt := 107) (by decide) (fun h100 => ?_) (fun h100 => ?_)
          · exact absurd h100 h83
          · skip
            refine e_iconst C d_M_byChance_103 (v := 0) (by decide) ?_
            refine e_goto C d_M_byChance_104 (tgt := 108) (by decide) ?_
            refine e_isub C d_M_byChance_108 ?_
            refine e_top (y := nI t) (by rw [Int32.sub_zero]) ?_
            refine e_istore C d_M_byChance_109 rfl ?_
            refine e_iinc C d_M_byChance_111 rfl (nI_1 k) rfl ?_
            refine e_goto C d_M_byChance_114 (tgt := 76) (by decide) ?_
            exact e_lv2 (ih (k + 1) t (by omega) ht hf) rfl
        · have hh : lkM m.2 k = false := by simp [lkM]; exact h83
          rw [if_neg (by rw [hh]; decide)] at hf
          refine e_iload C d_M_byChance_86 rfl ?_
          refine e_if_le C d_M_byChance_88 (tgt := 117) (by decide) (fun h88 => ?_) (fun h88 => ?_)
          · have ht0 : t = 0 := by
              rcases Nat.eq_zero_or_pos t with z | z
              · exact z
              · exact absurd h88 (nI_nle z (by omega))
            rw [if_pos ht0] at hf
            cases hf
            refine e_iload C d_M_byChance_117 rfl ?_
            exact e_iret C E d_M_byChance_119 (Nat.le_refl _) (Nat.le_refl _) rfl ⟨rfl, rfl⟩
          · have ht0 : ¬ t = 0 := fun z => h88 (by rw [z]; decide)
            rw [if_neg ht0] at hf
            obtain ⟨t', rfl⟩ : ∃ t', t = t' + 1 := ⟨t - 1, by omega⟩
            refine e_iload C d_M_byChance_91 rfl ?_
            refine e_aload_n C d_M_byChance_93 rfl ?_
            refine e_get C 0 (k := 11) in_M g750 d_M_byChance_94 rfl rfl rfl rfl ?_
            refine e_iload C d_M_byChance_97 rfl ?_
            refine e_zald C 5 1 d_M_byChance_99 rfl rfl k rfl (by omega) (by omega) ?_
            refine e_if_eq C d_M_byChance_100 (tgt := 107) (by decide) (fun h100 => ?_) (fun h100 => ?_)
            · skip
              refine e_iconst C d_M_byChance_107 (v := 1) (by decide) ?_
              refine e_isub C d_M_byChance_108 ?_
              refine e_top (nI_pred t') ?_
              refine e_istore C d_M_byChance_109 rfl ?_
              refine e_iinc C d_M_byChance_111 rfl (nI_1 k) rfl ?_
              refine e_goto C d_M_byChance_114 (tgt := 76) (by decide) ?_
              exact e_lv2 (ih (k + 1) t' (by omega) (by omega) hf) rfl
            · exact absurd h83 h100
    exact e_lv2 (L2 wd b0 c rfl hc hr) rfl
  have L : ∀ (q k c : Nat), k + q = b0 + wd → c ≤ k → cntU (lkM m.2) c k q = cntU (lkM m.2) 0 b0 wd → EW X G 6 0 0 5 [(0, .ref (a 40)), (1, .int (nI b0)), (2, .int (bI mv)), (3, .int (nI c)), (4, .int (nI k))] [] (mF G a m.1 m.2) := by
    intro q
    induction q with
    | zero =>
      intro k c hk hck hf
      have hf : c = _ := hf
      rw [← hf] at hn hr
      refine e_iload C d_M_byChance_5 rfl ?_
      refine e_iload_n C d_M_byChance_7 rfl ?_
      refine e_aload_n C d_M_byChance_8 rfl ?_
      refine e_get C 0 (k := 2) in_M g741 d_M_byChance_9 rfl rfl rfl rfl ?_
      refine e_top h.2.1 ?_
      refine e_iadd C d_M_byChance_12 ?_
      refine e_top (nI_add _ _) ?_
      refine e_icmp_ge C d_M_byChance_13 (tgt := 40) (by decide) (fun h13 => ?_) (fun h13 => ?_)
      · have hlt : x / 65536 % c < c := Nat.mod_lt _ (by omega)
        refine e_aload_n C d_M_byChance_40 rfl ?_
        refine e_get C 0 (k := 20) in_M g759 d_M_byChance_41 rfl rfl rfl rfl ?_
        refine e_top h20 ?_
        refine e_ldc C g935 d_M_byChance_44 ?_
        refine e_top (y := nI 65536) rfl ?_
        refine e_idiv C d_M_byChance_46 (nI_ne0 (by omega) (by omega)) ?_
        refine e_top (pk_div hx (by omega) (by omega)) ?_
        refine e_iload_n C d_M_byChance_47 rfl ?_
        refine e_irem C d_M_byChance_48 (nI_ne0 (by omega) (by omega)) ?_
        refine e_top (pk_rem (by omega) (by omega) (by omega)) ?_
        refine e_istore C d_M_byChance_49 rfl ?_
        refine e_iload_n C d_M_byChance_51 rfl ?_
        refine e_if_eq C d_M_byChance_52 (tgt := 73) (by decide) (fun h52 => ?_) (fun h52 => ?_)
        · rw [bI_0] at h52
          exact e_lv2 (fin m.1 _ (by rw [h52]; rfl) (by omega) hr) rfl
        · rw [bI_n] at h52
          refine e_aload_n C d_M_byChance_55 rfl ?_
          refine e_ldc C g936 d_M_byChance_56 ?_
          refine e_aload_n C d_M_byChance_58 rfl ?_
          refine e_get C 0 (k := 20) in_M g759 d_M_byChance_59 rfl rfl rfl rfl ?_
          refine e_imul C d_M_byChance_62 ?_
          refine e_sipush C d_M_byChance_63 (v := 12345) (by decide) ?_
          refine e_iadd C d_M_byChance_66 ?_
          refine e_ldc C g937 d_M_byChance_67 ?_
          refine e_iand C d_M_byChance_69 ?_
          refine e_put C 0 (k := 20) in_M tk_M nm_M g759 d_M_byChance_70 rfl rfl rfl rfl rfl rfl rfl rfl ?_
          refine e_eq (ws' := mF G a (upd m.1 20 (lcg (m.1 20))) m.2) rfl ?_
          exact e_lv2 (fin _ _ (by rw [h52]; rfl) (by omega) hr) rfl
      · exact absurd (nI_le (by omega) (by omega)) h13
    | succ q ih =>
      intro k c hk hck hf
      refine e_iload C d_M_byChance_5 rfl ?_
      refine e_iload_n C d_M_byChance_7 rfl ?_
      refine e_aload_n C d_M_byChance_8 rfl ?_
      refine e_get C 0 (k := 2) in_M g741 d_M_byChance_9 rfl rfl rfl rfl ?_
      refine e_top h.2.1 ?_
      refine e_iadd C d_M_byChance_12 ?_
      refine e_top (nI_add _ _) ?_
      refine e_icmp_ge C d_M_byChance_13 (tgt := 40) (by decide) (fun h13 => ?_) (fun h13 => ?_)
      · exact absurd h13 (nI_ge (by omega) (by omega))
      · skip
        refine e_iload_n C d_M_byChance_16 rfl ?_
        refine e_aload_n C d_M_byChance_17 rfl ?_
        refine e_get C 0 (k := 11) in_M g750 d_M_byChance_18 rfl rfl rfl rfl ?_
        refine e_iload C d_M_byChance_21 rfl ?_
        refine e_zald C 5 1 d_M_byChance_23 rfl rfl k rfl (by omega) (by omega) ?_
        refine e_if_eq C d_M_byChance_24 (tgt := 31) (by decide) (fun h24 => ?_) (fun h24 => ?_)
        · have hh : lkM m.2 k = false := by simp [lkM]; exact h24
          refine e_iconst C d_M_byChance_31 (v := 1) (by decide) ?_
          refine e_iadd C d_M_byChance_32 ?_
          refine e_top (nI_1 c) ?_
          refine e_istore_n C d_M_byChance_33 rfl ?_
          refine e_iinc C d_M_byChance_34 rfl (nI_1 k) rfl ?_
          refine e_goto C d_M_byChance_37 (tgt := 5) (by decide) ?_
          exact e_lv2 (ih (k + 1) (c + 1) (by omega) (by omega) (by rw [← hf]; simp [cntU, hh])) rfl
        · have hh : lkM m.2 k = true := by simp [lkM]; exact h24
          refine e_iconst C d_M_byChance_27 (v := 0) (by decide) ?_
          refine e_goto C d_M_byChance_28 (tgt := 32) (by decide) ?_
          refine e_iadd C d_M_byChance_32 ?_
          refine e_top (y := nI c) (by rw [Int32.add_zero]) ?_
          refine e_istore_n C d_M_byChance_33 rfl ?_
          refine e_iinc C d_M_byChance_34 rfl (nI_1 k) rfl ?_
          refine e_goto C d_M_byChance_37 (tgt := 5) (by decide) ?_
          exact e_lv2 (ih (k + 1) c (by omega) (by omega) (by rw [← hf]; simp [cntU, hh])) rfl
  exact e_lv2 (L wd b0 0 rfl (by omega) rfl) rfl
set_option maxRecDepth 100000 in
theorem k_M_byTree (h : MD m.1 S wd V kd) (hs : s < 16) {r : Nat} (hr : twO (fun w => lkM m.2 (8 * s + w)) wd (lvN wd) 16 (trM (m.2 19) (8 * s) (lvN wd) 4 1 - lvN wd) = some r) : Con l G y_M_byTree c_M_byTree 5 (some .int) (rz 1 20) [.ref (a 40), .int (nI (8 * s))] (mF G a m.1 m.2) (DI (nI (8 * s + r)) (mF G a m.1 m.2)) := by
  refine Con.of rfl rfl (fun X C E hR hl hnm => ?_)
  have hw8 := h.w8
  have hP := lvN_8 wd
  have hb0 : 8 * s + 8 ≤ 128 := by omega
  refine e_aload_n C d_M_byTree_0 rfl ?_
  refine e_cVi C hR 0 (k_M_treeSize h) g902 g14 g899 g901 (gt_sel 21 (by decide +kernel) (by decide +kernel)) d_M_byTree_1 rfl ey_M_treeSize rfl rfl rfl rfl ⟨Nat.zero_le _, Nat.zero_le _⟩ ?_
  refine e_istore_n C d_M_byTree_4 rfl ?_
  refine e_iconst C d_M_byTree_5 (v := 1) (by decide) ?_
  refine e_istore_n C d_M_byTree_6 rfl ?_
  generalize lvN wd = P at hP hr ⊢
  generalize 8 * s = b0 at E hb0 hr ⊢
  have fin : ∀ (t w0 : Nat), w0 < 8 → twO (fun w => lkM m.2 (b0 + w)) wd P t w0 = some r → EW X G 5 0 0 41 [(0, .ref (a 40)), (1, .int (nI b0)), (2, .int (nI P)), (4, .int (nI w0))] [] (mF G a m.1 m.2) := by
    intro t
    induction t with
    | zero => intro w0 hw0 hf; cases hf
    | succ t ih =>
      intro w0 hw0 hf
      rw [twO] at hf
      have nxt : ¬ (w0 < wd ∧ lkM m.2 (b0 + w0) = false) → EW X G 5 0 0 62 [(0, .ref (a 40)), (1, .int (nI b0)), (2, .int (nI P)), (4, .int (nI w0))] [] (mF G a m.1 m.2) := by
        intro hne
        rw [if_neg hne] at hf
        have hml : (w0 + 1) % P < P := Nat.mod_lt _ (by omega)
        refine e_iload C d_M_byTree_62 rfl ?_
        refine e_iconst C d_M_byTree_64 (v := 1) (by decide) ?_
        refine e_iadd C d_M_byTree_65 ?_
        refine e_top (nI_1 w0) ?_
        refine e_iload_n C d_M_byTree_66 rfl ?_
        refine e_irem C d_M_byTree_67 (nI_ne0 (by omega) (by omega)) ?_
        refine e_top (pk_rem (by omega) (by omega) (by omega)) ?_
        refine e_istore C d_M_byTree_68 rfl ?_
        refine e_goto C d_M_byTree_70 (tgt := 41) (by decide) ?_
        exact e_lv2 (ih _ (by omega) hf) rfl
      refine e_iload C d_M_byTree_41 rfl ?_
      refine e_aload_n C d_M_byTree_43 rfl ?_
      refine e_get C 0 (k := 2) in_M g741 d_M_byTree_44 rfl rfl rfl rfl ?_
      refine e_top h.2.1 ?_
      refine e_icmp_ge C d_M_byTree_47 (tgt := 62) (by decide) (fun h47 => ?_) (fun h47 => ?_)
      · rw [nI_leI (by omega) (by omega)] at h47
        exact e_lv2 (nxt (fun z => by omega)) rfl
      · rw [nI_leI (by omega) (by omega)] at h47
        refine e_aload_n C d_M_byTree_50 rfl ?_
        refine e_get C 0 (k := 11) in_M g750 d_M_byTree_51 rfl rfl rfl rfl ?_
        refine e_iload_n C d_M_byTree_54 rfl ?_
        refine e_iload C d_M_byTree_55 rfl ?_
        refine e_iadd C d_M_byTree_57 ?_
        refine e_zald C 5 1 d_M_byTree_58 rfl rfl (b0 + w0) (nI_add _ _) (by omega) (by omega) ?_
        refine e_if_eq C d_M_byTree_59 (tgt := 73) (by decide) (fun h59 => ?_) (fun h59 => ?_)
        · have hh : lkM m.2 (b0 + w0) = false := by simp [lkM]; exact h59
          rw [if_pos ⟨by omega, hh⟩] at hf
          cases hf
          refine e_iload_n C d_M_byTree_73 rfl ?_
          refine e_iload C d_M_byTree_74 rfl ?_
          refine e_iadd C d_M_byTree_76 ?_
          refine e_top (nI_add _ _) ?_
          exact e_iret C E d_M_byTree_77 (Nat.le_refl _) (Nat.le_refl _) rfl ⟨rfl, rfl⟩
        · have hh : lkM m.2 (b0 + w0) = true := by simp [lkM]; exact h59
          exact e_lv2 (nxt (fun z => by rw [hh] at z; exact absurd z.2 (by decide))) rfl
  have L : ∀ (q node : Nat), node * 2 ^ q ≥ P → node < 2 * P → 1 ≤ node → trM (m.2 19) b0 P q node = trM (m.2 19) b0 P 4 1 → EW X G 5 0 0 7 [(0, .ref (a 40)), (1, .int (nI b0)), (2, .int (nI P)), (3, .int (nI node))] [] (mF G a m.1 m.2) := by
    have go : ∀ node : Nat, P ≤ node → node < 2 * P → node = trM (m.2 19) b0 P 4 1 → EW X G 5 0 0 36 [(0, .ref (a 40)), (1, .int (nI b0)), (2, .int (nI P)), (3, .int (nI node))] [] (mF G a m.1 m.2) := by
      intro node h1 h2 hf
      rw [← hf] at hr
      refine e_iload_n C d_M_byTree_36 rfl ?_
      refine e_iload_n C d_M_byTree_37 rfl ?_
      refine e_isub C d_M_byTree_38 ?_
      refine e_top (pk_sub h1) ?_
      refine e_istore C d_M_byTree_39 rfl ?_
      exact e_lv2 (fin 16 (node - P) (by omega) hr) rfl
    intro q
    induction q with
    | zero =>
      intro node h1 h2 h3 hf
      have hf : node = _ := hf
      refine e_iload_n C d_M_byTree_7 rfl ?_
      refine e_iload_n C d_M_byTree_8 rfl ?_
      refine e_icmp_ge C d_M_byTree_9 (tgt := 36) (by decide) (fun h9 => ?_) (fun h9 => ?_)
      · exact go node (by omega) h2 hf
      · exact absurd (nI_le (by omega) (by omega)) h9
    | succ q ih =>
      intro node h1 h2 h3 hf
      refine e_iload_n C d_M_byTree_7 rfl ?_
      refine e_iload_n C d_M_byTree_8 rfl ?_
      refine e_icmp_ge C d_M_byTree_9 (tgt := 36) (by decide) (fun h9 => ?_) (fun h9 => ?_)
      · rw [nI_leI (by omega) (by omega)] at h9
        exact go node h9 h2 (by rw [← hf]; simp only [trM, if_neg (show ¬ node < P by omega)])
      · rw [nI_leI (by omega) (by omega)] at h9
        rw [trM, if_pos (show node < P by omega)] at hf
        have hq : ∀ d : Nat, P ≤ (2 * node + d) * 2 ^ q := by
          intro d
          calc P ≤ node * 2 ^ (q + 1) := h1
            _ = 2 * node * 2 ^ q := by rw [Nat.pow_succ]; ac_rfl
            _ ≤ (2 * node + d) * 2 ^ q := Nat.mul_le_mul_right _ (by omega)
        refine e_iconst C d_M_byTree_12 (v := nI 2) (by decide) ?_
        refine e_iload_n C d_M_byTree_13 rfl ?_
        refine e_imul C d_M_byTree_14 ?_
        refine e_top (pk_mul _ _) ?_
        refine e_aload_n C d_M_byTree_15 rfl ?_
        refine e_get C 0 (k := 19) in_M g758 d_M_byTree_16 rfl rfl rfl rfl ?_
        refine e_iload_n C d_M_byTree_19 rfl ?_
        refine e_iload_n C d_M_byTree_20 rfl ?_
        refine e_iadd C d_M_byTree_21 ?_
        refine e_zald C 12 1 d_M_byTree_22 rfl rfl (b0 + node) (nI_add _ _) (by omega) (by omega) ?_
        refine e_if_eq C d_M_byTree_23 (tgt := 30) (by decide) (fun h23 => ?_) (fun h23 => ?_)
        · rw [if_pos h23] at hf
          refine e_iconst C d_M_byTree_30 (v := 0) (by decide) ?_
          refine e_iadd C d_M_byTree_31 ?_
          refine e_top (y := nI (2 * node + 0)) (by rw [Int32.add_zero]; rfl) ?_
          refine e_istore_n C d_M_byTree_32 rfl ?_
          refine e_goto C d_M_byTree_33 (tgt := 7) (by decide) ?_
          exact e_lv2 (ih (2 * node + 0) (hq 0) (by omega) (by omega) hf) rfl
        · rw [if_neg h23] at hf
          refine e_iconst C d_M_byTree_26 (v := 1) (by decide) ?_
          refine e_goto C d_M_byTree_27 (tgt := 31) (by decide) ?_
          refine e_iadd C d_M_byTree_31 ?_
          refine e_top (nI_1 _) ?_
          refine e_istore_n C d_M_byTree_32 rfl ?_
          refine e_goto C d_M_byTree_33 (tgt := 7) (by decide) ?_
          exact e_lv2 (ih (2 * node + 1) (hq 1) (by omega) (by omega) hf) rfl
  exact e_lv2 (L 4 1 (by omega) (by omega) (Nat.le_refl _) rfl) rfl
end M2
