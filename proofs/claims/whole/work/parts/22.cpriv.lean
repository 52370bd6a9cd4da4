/-! THE CLASS'S PRIVATE METHODS -/
theorem ey_C_putOut : eY y_C_putOut 1 = true := by decide +kernel
theorem d_C_putOut_0 : decode c_C_putOut 0 = .ok (.aload_n 0, 1) := by decide +kernel
theorem d_C_putOut_1 : decode c_C_putOut 1 = .ok (.dup, 1) := by decide +kernel
theorem d_C_putOut_2 : decode c_C_putOut 2 = .ok (.getfield 225, 3) := by decide +kernel
theorem d_C_putOut_5 : decode c_C_putOut 5 = .ok (.iconst 1, 1) := by decide +kernel
theorem d_C_putOut_6 : decode c_C_putOut 6 = .ok (.iadd, 1) := by decide +kernel
theorem d_C_putOut_7 : decode c_C_putOut 7 = .ok (.putfield 225, 3) := by decide +kernel
theorem d_C_putOut_10 : decode c_C_putOut 10 = .ok (.aload_n 0, 1) := by decide +kernel
theorem d_C_putOut_11 : decode c_C_putOut 11 = .ok (.getfield 29, 3) := by decide +kernel
theorem d_C_putOut_14 : decode c_C_putOut 14 = .ok (.getfield 271, 3) := by decide +kernel
theorem d_C_putOut_17 : decode c_C_putOut 17 = .ok (.ifCond .ne 25, 3) := by decide +kernel
theorem d_C_putOut_20 : decode c_C_putOut 20 = .ok (.aload_n 0, 1) := by decide +kernel
theorem d_C_putOut_21 : decode c_C_putOut 21 = .ok (.dup, 1) := by decide +kernel
theorem d_C_putOut_22 : decode c_C_putOut 22 = .ok (.getfield 155, 3) := by decide +kernel
theorem d_C_putOut_25 : decode c_C_putOut 25 = .ok (.aload_n 0, 1) := by decide +kernel
theorem d_C_putOut_26 : decode c_C_putOut 26 = .ok (.getfield 18, 3) := by decide +kernel
theorem d_C_putOut_29 : decode c_C_putOut 29 = .ok (.getfield 164, 3) := by decide +kernel
theorem d_C_putOut_32 : decode c_C_putOut 32 = .ok (.iload_n 1, 1) := by decide +kernel
theorem d_C_putOut_33 : decode c_C_putOut 33 = .ok (.iaload, 1) := by decide +kernel
theorem d_C_putOut_34 : decode c_C_putOut 34 = .ok (.invokestatic 167, 3) := by decide +kernel
theorem d_C_putOut_37 : decode c_C_putOut 37 = .ok (.iadd, 1) := by decide +kernel
theorem d_C_putOut_38 : decode c_C_putOut 38 = .ok (.putfield 155, 3) := by decide +kernel
theorem d_C_putOut_41 : decode c_C_putOut 41 = .ok (.return_, 1) := by decide +kernel
theorem d_C_putOut_42 : decode c_C_putOut 42 = .ok (.aload_n 0, 1) := by decide +kernel
theorem d_C_putOut_43 : decode c_C_putOut 43 = .ok (.getfield 29, 3) := by decide +kernel
theorem d_C_putOut_46 : decode c_C_putOut 46 = .ok (.getfield 161, 3) := by decide +kernel
theorem d_C_putOut_49 : decode c_C_putOut 49 = .ok (.aload_n 0, 1) := by decide +kernel
theorem d_C_putOut_50 : decode c_C_putOut 50 = .ok (.getfield 29, 3) := by decide +kernel
theorem d_C_putOut_53 : decode c_C_putOut 53 = .ok (.getfield 271, 3) := by decide +kernel
theorem d_C_putOut_56 : decode c_C_putOut 56 = .ok (.if_icmp .lt 32, 3) := by decide +kernel
theorem d_C_putOut_59 : decode c_C_putOut 59 = .ok (.aload_n 0, 1) := by decide +kernel
theorem d_C_putOut_60 : decode c_C_putOut 60 = .ok (.dup, 1) := by decide +kernel
theorem d_C_putOut_61 : decode c_C_putOut 61 = .ok (.getfield 155, 3) := by decide +kernel
theorem d_C_putOut_64 : decode c_C_putOut 64 = .ok (.aload_n 0, 1) := by decide +kernel
theorem d_C_putOut_65 : decode c_C_putOut 65 = .ok (.getfield 29, 3) := by decide +kernel
theorem d_C_putOut_68 : decode c_C_putOut 68 = .ok (.getfield 175, 3) := by decide +kernel
theorem d_C_putOut_71 : decode c_C_putOut 71 = .ok (.iconst 0, 1) := by decide +kernel
theorem d_C_putOut_72 : decode c_C_putOut 72 = .ok (.iaload, 1) := by decide +kernel
theorem d_C_putOut_73 : decode c_C_putOut 73 = .ok (.invokestatic 167, 3) := by decide +kernel
theorem d_C_putOut_76 : decode c_C_putOut 76 = .ok (.iadd, 1) := by decide +kernel
theorem d_C_putOut_77 : decode c_C_putOut 77 = .ok (.putfield 155, 3) := by decide +kernel
theorem d_C_putOut_80 : decode c_C_putOut 80 = .ok (.aload_n 0, 1) := by decide +kernel
theorem d_C_putOut_81 : decode c_C_putOut 81 = .ok (.getfield 29, 3) := by decide +kernel
theorem d_C_putOut_84 : decode c_C_putOut 84 = .ok (.iconst 0, 1) := by decide +kernel
theorem d_C_putOut_85 : decode c_C_putOut 85 = .ok (.invokevirtual 176, 3) := by decide +kernel
theorem d_C_putOut_88 : decode c_C_putOut 88 = .ok (.aload_n 0, 1) := by decide +kernel
theorem d_C_putOut_89 : decode c_C_putOut 89 = .ok (.getfield 29, 3) := by decide +kernel
theorem d_C_putOut_92 : decode c_C_putOut 92 = .ok (.aload_n 0, 1) := by decide +kernel
theorem d_C_putOut_93 : decode c_C_putOut 93 = .ok (.getfield 18, 3) := by decide +kernel
theorem d_C_putOut_96 : decode c_C_putOut 96 = .ok (.getfield 187, 3) := by decide +kernel
theorem d_C_putOut_99 : decode c_C_putOut 99 = .ok (.iload_n 1, 1) := by decide +kernel
theorem d_C_putOut_100 : decode c_C_putOut 100 = .ok (.iaload, 1) := by decide +kernel
theorem d_C_putOut_101 : decode c_C_putOut 101 = .ok (.aload_n 0, 1) := by decide +kernel
theorem d_C_putOut_102 : decode c_C_putOut 102 = .ok (.getfield 18, 3) := by decide +kernel
theorem d_C_putOut_105 : decode c_C_putOut 105 = .ok (.getfield 105, 3) := by decide +kernel
theorem d_C_putOut_108 : decode c_C_putOut 108 = .ok (.iload_n 1, 1) := by decide +kernel
theorem d_C_putOut_109 : decode c_C_putOut 109 = .ok (.iaload, 1) := by decide +kernel
theorem d_C_putOut_110 : decode c_C_putOut 110 = .ok (.aload_n 0, 1) := by decide +kernel
theorem d_C_putOut_111 : decode c_C_putOut 111 = .ok (.getfield 18, 3) := by decide +kernel
theorem d_C_putOut_114 : decode c_C_putOut 114 = .ok (.getfield 164, 3) := by decide +kernel
theorem d_C_putOut_117 : decode c_C_putOut 117 = .ok (.iload_n 1, 1) := by decide +kernel
theorem d_C_putOut_118 : decode c_C_putOut 118 = .ok (.iaload, 1) := by decide +kernel
theorem d_C_putOut_119 : decode c_C_putOut 119 = .ok (.invokevirtual 274, 3) := by decide +kernel
theorem d_C_putOut_122 : decode c_C_putOut 122 = .ok (.return_, 1) := by decide +kernel
theorem ey_C_writePart : eY y_C_writePart 2 = true := by decide +kernel
theorem d_C_writePart_0 : decode c_C_writePart 0 = .ok (.aload_n 0, 1) := by decide +kernel
theorem d_C_writePart_1 : decode c_C_writePart 1 = .ok (.getfield 18, 3) := by decide +kernel
theorem d_C_writePart_4 : decode c_C_writePart 4 = .ok (.iload_n 1, 1) := by decide +kernel
theorem d_C_writePart_5 : decode c_C_writePart 5 = .ok (.invokevirtual 101, 3) := by decide +kernel
theorem d_C_writePart_8 : decode c_C_writePart 8 = .ok (.istore_n 3, 1) := by decide +kernel
theorem d_C_writePart_9 : decode c_C_writePart 9 = .ok (.aload_n 0, 1) := by decide +kernel
theorem d_C_writePart_10 : decode c_C_writePart 10 = .ok (.getfield 29, 3) := by decide +kernel
theorem d_C_writePart_13 : decode c_C_writePart 13 = .ok (.iload_n 1, 1) := by decide +kernel
theorem d_C_writePart_14 : decode c_C_writePart 14 = .ok (.invokevirtual 148, 3) := by decide +kernel
theorem d_C_writePart_17 : decode c_C_writePart 17 = .ok (.istore 4, 2) := by decide +kernel
theorem d_C_writePart_19 : decode c_C_writePart 19 = .ok (.aload_n 0, 1) := by decide +kernel
theorem d_C_writePart_20 : decode c_C_writePart 20 = .ok (.getfield 59, 3) := by decide +kernel
theorem d_C_writePart_23 : decode c_C_writePart 23 = .ok (.ifCond .ne 14, 3) := by decide +kernel
theorem d_C_writePart_26 : decode c_C_writePart 26 = .ok (.iload_n 3, 1) := by decide +kernel
theorem d_C_writePart_27 : decode c_C_writePart 27 = .ok (.iconst (-1), 1) := by decide +kernel
theorem d_C_writePart_28 : decode c_C_writePart 28 = .ok (.if_icmp .ne 22, 3) := by decide +kernel
theorem d_C_writePart_31 : decode c_C_writePart 31 = .ok (.iload 4, 2) := by decide +kernel
theorem d_C_writePart_33 : decode c_C_writePart 33 = .ok (.iconst (-1), 1) := by decide +kernel
theorem d_C_writePart_34 : decode c_C_writePart 34 = .ok (.if_icmp .ne 16, 3) := by decide +kernel
theorem d_C_writePart_37 : decode c_C_writePart 37 = .ok (.aload_n 0, 1) := by decide +kernel
theorem d_C_writePart_38 : decode c_C_writePart 38 = .ok (.dup, 1) := by decide +kernel
theorem d_C_writePart_39 : decode c_C_writePart 39 = .ok (.getfield 155, 3) := by decide +kernel
theorem d_C_writePart_42 : decode c_C_writePart 42 = .ok (.iconst 1, 1) := by decide +kernel
theorem d_C_writePart_43 : decode c_C_writePart 43 = .ok (.iadd, 1) := by decide +kernel
theorem d_C_writePart_44 : decode c_C_writePart 44 = .ok (.putfield 155, 3) := by decide +kernel
theorem d_C_writePart_47 : decode c_C_writePart 47 = .ok (.goto 38, 3) := by decide +kernel
theorem d_C_writePart_50 : decode c_C_writePart 50 = .ok (.iload_n 3, 1) := by decide +kernel
theorem d_C_writePart_51 : decode c_C_writePart 51 = .ok (.iconst (-1), 1) := by decide +kernel
theorem d_C_writePart_52 : decode c_C_writePart 52 = .ok (.if_icmp .eq 19, 3) := by decide +kernel
theorem d_C_writePart_55 : decode c_C_writePart 55 = .ok (.aload_n 0, 1) := by decide +kernel
theorem d_C_writePart_56 : decode c_C_writePart 56 = .ok (.getfield 18, 3) := by decide +kernel
theorem d_C_writePart_59 : decode c_C_writePart 59 = .ok (.getfield 164, 3) := by decide +kernel
theorem d_C_writePart_62 : decode c_C_writePart 62 = .ok (.iload_n 3, 1) := by decide +kernel
theorem d_C_writePart_63 : decode c_C_writePart 63 = .ok (.dup2, 1) := by decide +kernel
theorem d_C_writePart_64 : decode c_C_writePart 64 = .ok (.iaload, 1) := by decide +kernel
theorem d_C_writePart_65 : decode c_C_writePart 65 = .ok (.iload_n 2, 1) := by decide +kernel
theorem d_C_writePart_66 : decode c_C_writePart 66 = .ok (.ior, 1) := by decide +kernel
theorem d_C_writePart_67 : decode c_C_writePart 67 = .ok (.iastore, 1) := by decide +kernel
theorem d_C_writePart_68 : decode c_C_writePart 68 = .ok (.goto 17, 3) := by decide +kernel
theorem d_C_writePart_71 : decode c_C_writePart 71 = .ok (.aload_n 0, 1) := by decide +kernel
theorem d_C_writePart_72 : decode c_C_writePart 72 = .ok (.getfield 29, 3) := by decide +kernel
theorem d_C_writePart_75 : decode c_C_writePart 75 = .ok (.getfield 175, 3) := by decide +kernel
theorem d_C_writePart_78 : decode c_C_writePart 78 = .ok (.iload 4, 2) := by decide +kernel
theorem d_C_writePart_80 : decode c_C_writePart 80 = .ok (.dup2, 1) := by decide +kernel
theorem d_C_writePart_81 : decode c_C_writePart 81 = .ok (.iaload, 1) := by decide +kernel
theorem d_C_writePart_82 : decode c_C_writePart 82 = .ok (.iload_n 2, 1) := by decide +kernel
theorem d_C_writePart_83 : decode c_C_writePart 83 = .ok (.ior, 1) := by decide +kernel
theorem d_C_writePart_84 : decode c_C_writePart 84 = .ok (.iastore, 1) := by decide +kernel
theorem d_C_writePart_85 : decode c_C_writePart 85 = .ok (.return_, 1) := by decide +kernel
theorem ey_C_place : eY y_C_place 3 = true := by decide +kernel
theorem d_C_place_0 : decode c_C_place 0 = .ok (.aload_n 0, 1) := by decide +kernel
theorem d_C_place_1 : decode c_C_place 1 = .ok (.getfield 18, 3) := by decide +kernel
theorem d_C_place_4 : decode c_C_place 4 = .ok (.iload_n 1, 1) := by decide +kernel
theorem d_C_place_5 : decode c_C_place 5 = .ok (.invokevirtual 238, 3) := by decide +kernel
theorem d_C_place_8 : decode c_C_place 8 = .ok (.istore 4, 2) := by decide +kernel
theorem d_C_place_10 : decode c_C_place 10 = .ok (.aload_n 0, 1) := by decide +kernel
theorem d_C_place_11 : decode c_C_place 11 = .ok (.getfield 18, 3) := by decide +kernel
theorem d_C_place_14 : decode c_C_place 14 = .ok (.iload 4, 2) := by decide +kernel
theorem d_C_place_16 : decode c_C_place 16 = .ok (.invokevirtual 201, 3) := by decide +kernel
theorem d_C_place_19 : decode c_C_place 19 = .ok (.istore 5, 2) := by decide +kernel
theorem d_C_place_21 : decode c_C_place 21 = .ok (.iload 5, 2) := by decide +kernel
theorem d_C_place_23 : decode c_C_place 23 = .ok (.iconst (-1), 1) := by decide +kernel
theorem d_C_place_24 : decode c_C_place 24 = .ok (.if_icmp .ne 63, 3) := by decide +kernel
theorem d_C_place_27 : decode c_C_place 27 = .ok (.aload_n 0, 1) := by decide +kernel
theorem d_C_place_28 : decode c_C_place 28 = .ok (.getfield 37, 3) := by decide +kernel
theorem d_C_place_31 : decode c_C_place 31 = .ok (.iload 4, 2) := by decide +kernel
theorem d_C_place_33 : decode c_C_place 33 = .ok (.aload_n 0, 1) := by decide +kernel
theorem d_C_place_34 : decode c_C_place 34 = .ok (.getfield 18, 3) := by decide +kernel
theorem d_C_place_37 : decode c_C_place 37 = .ok (.getfield 144, 3) := by decide +kernel
theorem d_C_place_40 : decode c_C_place 40 = .ok (.invokevirtual 204, 3) := by decide +kernel
theorem d_C_place_43 : decode c_C_place 43 = .ok (.istore 5, 2) := by decide +kernel
theorem d_C_place_45 : decode c_C_place 45 = .ok (.iload 5, 2) := by decide +kernel
theorem d_C_place_47 : decode c_C_place 47 = .ok (.iconst (-1), 1) := by decide +kernel
theorem d_C_place_48 : decode c_C_place 48 = .ok (.if_icmp .ne 4, 3) := by decide +kernel
theorem d_C_place_51 : decode c_C_place 51 = .ok (.return_, 1) := by decide +kernel
theorem d_C_place_52 : decode c_C_place 52 = .ok (.aload_n 0, 1) := by decide +kernel
theorem d_C_place_53 : decode c_C_place 53 = .ok (.getfield 37, 3) := by decide +kernel
theorem d_C_place_56 : decode c_C_place 56 = .ok (.iload 4, 2) := by decide +kernel
theorem d_C_place_58 : decode c_C_place 58 = .ok (.iload 5, 2) := by decide +kernel
theorem d_C_place_60 : decode c_C_place 60 = .ok (.aload_n 0, 1) := by decide +kernel
theorem d_C_place_61 : decode c_C_place 61 = .ok (.getfield 18, 3) := by decide +kernel
theorem d_C_place_64 : decode c_C_place 64 = .ok (.getfield 144, 3) := by decide +kernel
theorem d_C_place_67 : decode c_C_place 67 = .ok (.invokevirtual 257, 3) := by decide +kernel
theorem d_C_place_70 : decode c_C_place 70 = .ok (.aload_n 0, 1) := by decide +kernel
theorem d_C_place_71 : decode c_C_place 71 = .ok (.iload 4, 2) := by decide +kernel
theorem d_C_place_73 : decode c_C_place 73 = .ok (.aload_n 0, 1) := by decide +kernel
theorem d_C_place_74 : decode c_C_place 74 = .ok (.getfield 18, 3) := by decide +kernel
theorem d_C_place_77 : decode c_C_place 77 = .ok (.getfield 182, 3) := by decide +kernel
theorem d_C_place_80 : decode c_C_place 80 = .ok (.imul, 1) := by decide +kernel
theorem d_C_place_81 : decode c_C_place 81 = .ok (.iload 5, 2) := by decide +kernel
theorem d_C_place_83 : decode c_C_place 83 = .ok (.iadd, 1) := by decide +kernel
theorem d_C_place_84 : decode c_C_place 84 = .ok (.invokevirtual 261, 3) := by decide +kernel
theorem d_C_place_87 : decode c_C_place 87 = .ok (.aload_n 0, 1) := by decide +kernel
theorem d_C_place_88 : decode c_C_place 88 = .ok (.getfield 18, 3) := by decide +kernel
theorem d_C_place_91 : decode c_C_place 91 = .ok (.iload 4, 2) := by decide +kernel
theorem d_C_place_93 : decode c_C_place 93 = .ok (.aload_n 0, 1) := by decide +kernel
theorem d_C_place_94 : decode c_C_place 94 = .ok (.getfield 18, 3) := by decide +kernel
theorem d_C_place_97 : decode c_C_place 97 = .ok (.getfield 182, 3) := by decide +kernel
theorem d_C_place_100 : decode c_C_place 100 = .ok (.imul, 1) := by decide +kernel
theorem d_C_place_101 : decode c_C_place 101 = .ok (.iload 5, 2) := by decide +kernel
theorem d_C_place_103 : decode c_C_place 103 = .ok (.iadd, 1) := by decide +kernel
theorem d_C_place_104 : decode c_C_place 104 = .ok (.iload_n 1, 1) := by decide +kernel
theorem d_C_place_105 : decode c_C_place 105 = .ok (.iload_n 2, 1) := by decide +kernel
theorem d_C_place_106 : decode c_C_place 106 = .ok (.iload_n 3, 1) := by decide +kernel
theorem d_C_place_107 : decode c_C_place 107 = .ok (.invokevirtual 264, 3) := by decide +kernel
theorem d_C_place_110 : decode c_C_place 110 = .ok (.aload_n 0, 1) := by decide +kernel
theorem d_C_place_111 : decode c_C_place 111 = .ok (.getfield 37, 3) := by decide +kernel
theorem d_C_place_114 : decode c_C_place 114 = .ok (.iload 4, 2) := by decide +kernel
theorem d_C_place_116 : decode c_C_place 116 = .ok (.iload 5, 2) := by decide +kernel
theorem d_C_place_118 : decode c_C_place 118 = .ok (.invokevirtual 268, 3) := by decide +kernel
theorem d_C_place_121 : decode c_C_place 121 = .ok (.return_, 1) := by decide +kernel
theorem ey_C_useWay : eY y_C_useWay 3 = true := by decide +kernel
theorem d_C_useWay_0 : decode c_C_useWay 0 = .ok (.aload_n 0, 1) := by decide +kernel
theorem d_C_useWay_1 : decode c_C_useWay 1 = .ok (.getfield 37, 3) := by decide +kernel
theorem d_C_useWay_4 : decode c_C_useWay 4 = .ok (.iload_n 1, 1) := by decide +kernel
theorem d_C_useWay_5 : decode c_C_useWay 5 = .ok (.iload_n 2, 1) := by decide +kernel
theorem d_C_useWay_6 : decode c_C_useWay 6 = .ok (.iload_n 1, 1) := by decide +kernel
theorem d_C_useWay_7 : decode c_C_useWay 7 = .ok (.aload_n 0, 1) := by decide +kernel
theorem d_C_useWay_8 : decode c_C_useWay 8 = .ok (.getfield 18, 3) := by decide +kernel
theorem d_C_useWay_11 : decode c_C_useWay 11 = .ok (.getfield 182, 3) := by decide +kernel
theorem d_C_useWay_14 : decode c_C_useWay 14 = .ok (.imul, 1) := by decide +kernel
theorem d_C_useWay_15 : decode c_C_useWay 15 = .ok (.isub, 1) := by decide +kernel
theorem d_C_useWay_16 : decode c_C_useWay 16 = .ok (.invokevirtual 254, 3) := by decide +kernel
theorem d_C_useWay_19 : decode c_C_useWay 19 = .ok (.aload_n 0, 1) := by decide +kernel
theorem d_C_useWay_20 : decode c_C_useWay 20 = .ok (.getfield 18, 3) := by decide +kernel
theorem d_C_useWay_23 : decode c_C_useWay 23 = .ok (.getfield 105, 3) := by decide +kernel
theorem d_C_useWay_26 : decode c_C_useWay 26 = .ok (.iload_n 2, 1) := by decide +kernel
theorem d_C_useWay_27 : decode c_C_useWay 27 = .ok (.iaload, 1) := by decide +kernel
theorem d_C_useWay_28 : decode c_C_useWay 28 = .ok (.iload_n 3, 1) := by decide +kernel
theorem d_C_useWay_29 : decode c_C_useWay 29 = .ok (.iand, 1) := by decide +kernel
theorem d_C_useWay_30 : decode c_C_useWay 30 = .ok (.ifCond .eq 5, 3) := by decide +kernel
theorem d_C_useWay_33 : decode c_C_useWay 33 = .ok (.iconst 0, 1) := by decide +kernel
theorem d_C_useWay_34 : decode c_C_useWay 34 = .ok (.ireturn, 1) := by decide +kernel
theorem d_C_useWay_35 : decode c_C_useWay 35 = .ok (.aload_n 0, 1) := by decide +kernel
theorem d_C_useWay_36 : decode c_C_useWay 36 = .ok (.getfield 18, 3) := by decide +kernel
theorem d_C_useWay_39 : decode c_C_useWay 39 = .ok (.getfield 105, 3) := by decide +kernel
theorem d_C_useWay_42 : decode c_C_useWay 42 = .ok (.iload_n 2, 1) := by decide +kernel
theorem d_C_useWay_43 : decode c_C_useWay 43 = .ok (.dup2, 1) := by decide +kernel
theorem d_C_useWay_44 : decode c_C_useWay 44 = .ok (.iaload, 1) := by decide +kernel
theorem d_C_useWay_45 : decode c_C_useWay 45 = .ok (.iload_n 3, 1) := by decide +kernel
theorem d_C_useWay_46 : decode c_C_useWay 46 = .ok (.ior, 1) := by decide +kernel
theorem d_C_useWay_47 : decode c_C_useWay 47 = .ok (.iastore, 1) := by decide +kernel
theorem d_C_useWay_48 : decode c_C_useWay 48 = .ok (.aload_n 0, 1) := by decide +kernel
theorem d_C_useWay_49 : decode c_C_useWay 49 = .ok (.dup, 1) := by decide +kernel
theorem d_C_useWay_50 : decode c_C_useWay 50 = .ok (.getfield 222, 3) := by decide +kernel
theorem d_C_useWay_53 : decode c_C_useWay 53 = .ok (.iconst 1, 1) := by decide +kernel
theorem d_C_useWay_54 : decode c_C_useWay 54 = .ok (.iadd, 1) := by decide +kernel
theorem d_C_useWay_55 : decode c_C_useWay 55 = .ok (.putfield 222, 3) := by decide +kernel
theorem d_C_useWay_58 : decode c_C_useWay 58 = .ok (.iconst 1, 1) := by decide +kernel
theorem d_C_useWay_59 : decode c_C_useWay 59 = .ok (.ireturn, 1) := by decide +kernel
theorem ey_C_recall : eY y_C_recall 2 = true := by decide +kernel
theorem d_C_recall_0 : decode c_C_recall 0 = .ok (.aload_n 0, 1) := by decide +kernel
theorem d_C_recall_1 : decode c_C_recall 1 = .ok (.getfield 29, 3) := by decide +kernel
theorem d_C_recall_4 : decode c_C_recall 4 = .ok (.getfield 198, 3) := by decide +kernel
theorem d_C_recall_7 : decode c_C_recall 7 = .ok (.iload_n 1, 1) := by decide +kernel
theorem d_C_recall_8 : decode c_C_recall 8 = .ok (.iaload, 1) := by decide +kernel
theorem d_C_recall_9 : decode c_C_recall 9 = .ok (.iload_n 2, 1) := by decide +kernel
theorem d_C_recall_10 : decode c_C_recall 10 = .ok (.iand, 1) := by decide +kernel
theorem d_C_recall_11 : decode c_C_recall 11 = .ok (.ifCond .ne 26, 3) := by decide +kernel
theorem d_C_recall_14 : decode c_C_recall 14 = .ok (.aload_n 0, 1) := by decide +kernel
theorem d_C_recall_15 : decode c_C_recall 15 = .ok (.getfield 29, 3) := by decide +kernel
theorem d_C_recall_18 : decode c_C_recall 18 = .ok (.getfield 198, 3) := by decide +kernel
theorem d_C_recall_21 : decode c_C_recall 21 = .ok (.iload_n 1, 1) := by decide +kernel
theorem d_C_recall_22 : decode c_C_recall 22 = .ok (.dup2, 1) := by decide +kernel
theorem d_C_recall_23 : decode c_C_recall 23 = .ok (.iaload, 1) := by decide +kernel
theorem d_C_recall_24 : decode c_C_recall 24 = .ok (.iload_n 2, 1) := by decide +kernel
theorem d_C_recall_25 : decode c_C_recall 25 = .ok (.ior, 1) := by decide +kernel
theorem d_C_recall_26 : decode c_C_recall 26 = .ok (.iastore, 1) := by decide +kernel
theorem d_C_recall_27 : decode c_C_recall 27 = .ok (.aload_n 0, 1) := by decide +kernel
theorem d_C_recall_28 : decode c_C_recall 28 = .ok (.dup, 1) := by decide +kernel
theorem d_C_recall_29 : decode c_C_recall 29 = .ok (.getfield 222, 3) := by decide +kernel
theorem d_C_recall_32 : decode c_C_recall 32 = .ok (.iconst 1, 1) := by decide +kernel
theorem d_C_recall_33 : decode c_C_recall 33 = .ok (.iadd, 1) := by decide +kernel
theorem d_C_recall_34 : decode c_C_recall 34 = .ok (.putfield 222, 3) := by decide +kernel
theorem d_C_recall_37 : decode c_C_recall 37 = .ok (.aload_n 0, 1) := by decide +kernel
theorem d_C_recall_38 : decode c_C_recall 38 = .ok (.getfield 29, 3) := by decide +kernel
theorem d_C_recall_41 : decode c_C_recall 41 = .ok (.getfield 197, 3) := by decide +kernel
theorem d_C_recall_44 : decode c_C_recall 44 = .ok (.iload_n 1, 1) := by decide +kernel
theorem d_C_recall_45 : decode c_C_recall 45 = .ok (.iaload, 1) := by decide +kernel
theorem d_C_recall_46 : decode c_C_recall 46 = .ok (.istore_n 3, 1) := by decide +kernel
theorem d_C_recall_47 : decode c_C_recall 47 = .ok (.aload_n 0, 1) := by decide +kernel
theorem d_C_recall_48 : decode c_C_recall 48 = .ok (.getfield 18, 3) := by decide +kernel
theorem d_C_recall_51 : decode c_C_recall 51 = .ok (.aload_n 0, 1) := by decide +kernel
theorem d_C_recall_52 : decode c_C_recall 52 = .ok (.getfield 18, 3) := by decide +kernel
theorem d_C_recall_55 : decode c_C_recall 55 = .ok (.iload_n 3, 1) := by decide +kernel
theorem d_C_recall_56 : decode c_C_recall 56 = .ok (.invokevirtual 238, 3) := by decide +kernel
theorem d_C_recall_59 : decode c_C_recall 59 = .ok (.invokevirtual 248, 3) := by decide +kernel
theorem d_C_recall_62 : decode c_C_recall 62 = .ok (.ifCond .ne 42, 3) := by decide +kernel
theorem d_C_recall_65 : decode c_C_recall 65 = .ok (.aload_n 0, 1) := by decide +kernel
theorem d_C_recall_66 : decode c_C_recall 66 = .ok (.getfield 29, 3) := by decide +kernel
theorem d_C_recall_69 : decode c_C_recall 69 = .ok (.getfield 198, 3) := by decide +kernel
theorem d_C_recall_72 : decode c_C_recall 72 = .ok (.iload_n 1, 1) := by decide +kernel
theorem d_C_recall_73 : decode c_C_recall 73 = .ok (.iaload, 1) := by decide +kernel
theorem d_C_recall_74 : decode c_C_recall 74 = .ok (.istore 4, 2) := by decide +kernel
theorem d_C_recall_76 : decode c_C_recall 76 = .ok (.aload_n 0, 1) := by decide +kernel
theorem d_C_recall_77 : decode c_C_recall 77 = .ok (.getfield 29, 3) := by decide +kernel
theorem d_C_recall_80 : decode c_C_recall 80 = .ok (.getfield 175, 3) := by decide +kernel
theorem d_C_recall_83 : decode c_C_recall 83 = .ok (.iload_n 1, 1) := by decide +kernel
theorem d_C_recall_84 : decode c_C_recall 84 = .ok (.iaload, 1) := by decide +kernel
theorem d_C_recall_85 : decode c_C_recall 85 = .ok (.istore 5, 2) := by decide +kernel
theorem d_C_recall_87 : decode c_C_recall 87 = .ok (.aload_n 0, 1) := by decide +kernel
theorem d_C_recall_88 : decode c_C_recall 88 = .ok (.getfield 29, 3) := by decide +kernel
theorem d_C_recall_91 : decode c_C_recall 91 = .ok (.iload_n 1, 1) := by decide +kernel
theorem d_C_recall_92 : decode c_C_recall 92 = .ok (.invokevirtual 176, 3) := by decide +kernel
theorem d_C_recall_95 : decode c_C_recall 95 = .ok (.aload_n 0, 1) := by decide +kernel
theorem d_C_recall_96 : decode c_C_recall 96 = .ok (.iload_n 3, 1) := by decide +kernel
theorem d_C_recall_97 : decode c_C_recall 97 = .ok (.iload 4, 2) := by decide +kernel
theorem d_C_recall_99 : decode c_C_recall 99 = .ok (.iload 5, 2) := by decide +kernel
theorem d_C_recall_101 : decode c_C_recall 101 = .ok (.invokevirtual 251, 3) := by decide +kernel
theorem d_C_recall_104 : decode c_C_recall 104 = .ok (.iconst 2, 1) := by decide +kernel
theorem d_C_recall_105 : decode c_C_recall 105 = .ok (.ireturn, 1) := by decide +kernel
theorem ey_C_reach : eY y_C_reach 3 = true := by decide +kernel
theorem d_C_reach_0 : decode c_C_reach 0 = .ok (.aload_n 0, 1) := by decide +kernel
theorem d_C_reach_1 : decode c_C_reach 1 = .ok (.getfield 18, 3) := by decide +kernel
theorem d_C_reach_4 : decode c_C_reach 4 = .ok (.iload_n 1, 1) := by decide +kernel
theorem d_C_reach_5 : decode c_C_reach 5 = .ok (.invokevirtual 101, 3) := by decide +kernel
theorem d_C_reach_8 : decode c_C_reach 8 = .ok (.istore 4, 2) := by decide +kernel
theorem d_C_reach_10 : decode c_C_reach 10 = .ok (.iload 4, 2) := by decide +kernel
theorem d_C_reach_12 : decode c_C_reach 12 = .ok (.iconst (-1), 1) := by decide +kernel
theorem d_C_reach_13 : decode c_C_reach 13 = .ok (.if_icmp .eq 19, 3) := by decide +kernel
theorem d_C_reach_16 : decode c_C_reach 16 = .ok (.aload_n 0, 1) := by decide +kernel
theorem d_C_reach_17 : decode c_C_reach 17 = .ok (.aload_n 0, 1) := by decide +kernel
theorem d_C_reach_18 : decode c_C_reach 18 = .ok (.getfield 18, 3) := by decide +kernel
theorem d_C_reach_21 : decode c_C_reach 21 = .ok (.iload_n 1, 1) := by decide +kernel
theorem d_C_reach_22 : decode c_C_reach 22 = .ok (.invokevirtual 238, 3) := by decide +kernel
theorem d_C_reach_25 : decode c_C_reach 25 = .ok (.iload 4, 2) := by decide +kernel
theorem d_C_reach_27 : decode c_C_reach 27 = .ok (.iload_n 2, 1) := by decide +kernel
theorem d_C_reach_28 : decode c_C_reach 28 = .ok (.invokevirtual 241, 3) := by decide +kernel
theorem d_C_reach_31 : decode c_C_reach 31 = .ok (.ireturn, 1) := by decide +kernel
theorem d_C_reach_32 : decode c_C_reach 32 = .ok (.aload_n 0, 1) := by decide +kernel
theorem d_C_reach_33 : decode c_C_reach 33 = .ok (.getfield 29, 3) := by decide +kernel
theorem d_C_reach_36 : decode c_C_reach 36 = .ok (.iload_n 1, 1) := by decide +kernel
theorem d_C_reach_37 : decode c_C_reach 37 = .ok (.invokevirtual 148, 3) := by decide +kernel
theorem d_C_reach_40 : decode c_C_reach 40 = .ok (.istore 5, 2) := by decide +kernel
theorem d_C_reach_42 : decode c_C_reach 42 = .ok (.iload 5, 2) := by decide +kernel
theorem d_C_reach_44 : decode c_C_reach 44 = .ok (.iconst (-1), 1) := by decide +kernel
theorem d_C_reach_45 : decode c_C_reach 45 = .ok (.if_icmp .eq 11, 3) := by decide +kernel
theorem d_C_reach_48 : decode c_C_reach 48 = .ok (.aload_n 0, 1) := by decide +kernel
theorem d_C_reach_49 : decode c_C_reach 49 = .ok (.iload 5, 2) := by decide +kernel
theorem d_C_reach_51 : decode c_C_reach 51 = .ok (.iload_n 2, 1) := by decide +kernel
theorem d_C_reach_52 : decode c_C_reach 52 = .ok (.invokevirtual 245, 3) := by decide +kernel
theorem d_C_reach_55 : decode c_C_reach 55 = .ok (.ireturn, 1) := by decide +kernel
theorem d_C_reach_56 : decode c_C_reach 56 = .ok (.iload_n 3, 1) := by decide +kernel
theorem d_C_reach_57 : decode c_C_reach 57 = .ok (.ifCond .eq 12, 3) := by decide +kernel
theorem d_C_reach_60 : decode c_C_reach 60 = .ok (.aload_n 0, 1) := by decide +kernel
theorem d_C_reach_61 : decode c_C_reach 61 = .ok (.getfield 63, 3) := by decide +kernel
theorem d_C_reach_64 : decode c_C_reach 64 = .ok (.ifCond .ne 5, 3) := by decide +kernel
theorem d_C_reach_67 : decode c_C_reach 67 = .ok (.iconst 3, 1) := by decide +kernel
theorem d_C_reach_68 : decode c_C_reach 68 = .ok (.ireturn, 1) := by decide +kernel
theorem d_C_reach_69 : decode c_C_reach 69 = .ok (.aload_n 0, 1) := by decide +kernel
theorem d_C_reach_70 : decode c_C_reach 70 = .ok (.dup, 1) := by decide +kernel
theorem d_C_reach_71 : decode c_C_reach 71 = .ok (.getfield 222, 3) := by decide +kernel
theorem d_C_reach_74 : decode c_C_reach 74 = .ok (.iconst 1, 1) := by decide +kernel
theorem d_C_reach_75 : decode c_C_reach 75 = .ok (.iadd, 1) := by decide +kernel
theorem d_C_reach_76 : decode c_C_reach 76 = .ok (.putfield 222, 3) := by decide +kernel
theorem d_C_reach_79 : decode c_C_reach 79 = .ok (.aload_n 0, 1) := by decide +kernel
theorem d_C_reach_80 : decode c_C_reach 80 = .ok (.getfield 18, 3) := by decide +kernel
theorem d_C_reach_83 : decode c_C_reach 83 = .ok (.aload_n 0, 1) := by decide +kernel
theorem d_C_reach_84 : decode c_C_reach 84 = .ok (.getfield 18, 3) := by decide +kernel
theorem d_C_reach_87 : decode c_C_reach 87 = .ok (.iload_n 1, 1) := by decide +kernel
theorem d_C_reach_88 : decode c_C_reach 88 = .ok (.invokevirtual 238, 3) := by decide +kernel
theorem d_C_reach_91 : decode c_C_reach 91 = .ok (.invokevirtual 248, 3) := by decide +kernel
theorem d_C_reach_94 : decode c_C_reach 94 = .ok (.ifCond .eq 5, 3) := by decide +kernel
theorem d_C_reach_97 : decode c_C_reach 97 = .ok (.iconst 4, 1) := by decide +kernel
theorem d_C_reach_98 : decode c_C_reach 98 = .ok (.ireturn, 1) := by decide +kernel
theorem d_C_reach_99 : decode c_C_reach 99 = .ok (.aload_n 0, 1) := by decide +kernel
theorem d_C_reach_100 : decode c_C_reach 100 = .ok (.iload_n 1, 1) := by decide +kernel
theorem d_C_reach_101 : decode c_C_reach 101 = .ok (.iload_n 2, 1) := by decide +kernel
theorem d_C_reach_102 : decode c_C_reach 102 = .ok (.iconst 0, 1) := by decide +kernel
theorem d_C_reach_103 : decode c_C_reach 103 = .ok (.invokevirtual 251, 3) := by decide +kernel
theorem d_C_reach_106 : decode c_C_reach 106 = .ok (.iconst 3, 1) := by decide +kernel
theorem d_C_reach_107 : decode c_C_reach 107 = .ok (.ireturn, 1) := by decide +kernel
theorem ey_C_perform : eY y_C_perform 3 = true := by decide +kernel
theorem d_C_perform_0 : decode c_C_perform 0 = .ok (.iconst 1, 1) := by decide +kernel
theorem d_C_perform_1 : decode c_C_perform 1 = .ok (.iload_n 2, 1) := by decide +kernel
theorem d_C_perform_2 : decode c_C_perform 2 = .ok (.ishl, 1) := by decide +kernel
theorem d_C_perform_3 : decode c_C_perform 3 = .ok (.istore 4, 2) := by decide +kernel
theorem d_C_perform_5 : decode c_C_perform 5 = .ok (.aload_n 0, 1) := by decide +kernel
theorem d_C_perform_6 : decode c_C_perform 6 = .ok (.getfield 51, 3) := by decide +kernel
theorem d_C_perform_9 : decode c_C_perform 9 = .ok (.iload_n 1, 1) := by decide +kernel
theorem d_C_perform_10 : decode c_C_perform 10 = .ok (.invokevirtual 229, 3) := by decide +kernel
theorem d_C_perform_13 : decode c_C_perform 13 = .ok (.aload_n 0, 1) := by decide +kernel
theorem d_C_perform_14 : decode c_C_perform 14 = .ok (.iload_n 1, 1) := by decide +kernel
theorem d_C_perform_15 : decode c_C_perform 15 = .ok (.iload 4, 2) := by decide +kernel
theorem d_C_perform_17 : decode c_C_perform 17 = .ok (.iload_n 3, 1) := by decide +kernel
theorem d_C_perform_18 : decode c_C_perform 18 = .ok (.invokevirtual 232, 3) := by decide +kernel
theorem d_C_perform_21 : decode c_C_perform 21 = .ok (.istore 5, 2) := by decide +kernel
theorem d_C_perform_23 : decode c_C_perform 23 = .ok (.iload_n 3, 1) := by decide +kernel
theorem d_C_perform_24 : decode c_C_perform 24 = .ok (.ifCond .eq 10, 3) := by decide +kernel
theorem d_C_perform_27 : decode c_C_perform 27 = .ok (.aload_n 0, 1) := by decide +kernel
theorem d_C_perform_28 : decode c_C_perform 28 = .ok (.iload_n 1, 1) := by decide +kernel
theorem d_C_perform_29 : decode c_C_perform 29 = .ok (.iload 4, 2) := by decide +kernel
theorem d_C_perform_31 : decode c_C_perform 31 = .ok (.invokevirtual 235, 3) := by decide +kernel
theorem d_C_perform_34 : decode c_C_perform 34 = .ok (.aload_n 0, 1) := by decide +kernel
theorem d_C_perform_35 : decode c_C_perform 35 = .ok (.dup, 1) := by decide +kernel
theorem d_C_perform_36 : decode c_C_perform 36 = .ok (.getfield 219, 3) := by decide +kernel
theorem d_C_perform_39 : decode c_C_perform 39 = .ok (.iconst 1, 1) := by decide +kernel
theorem d_C_perform_40 : decode c_C_perform 40 = .ok (.iadd, 1) := by decide +kernel
theorem d_C_perform_41 : decode c_C_perform 41 = .ok (.putfield 219, 3) := by decide +kernel
theorem d_C_perform_44 : decode c_C_perform 44 = .ok (.aload_n 0, 1) := by decide +kernel
theorem d_C_perform_45 : decode c_C_perform 45 = .ok (.getfield 55, 3) := by decide +kernel
theorem d_C_perform_48 : decode c_C_perform 48 = .ok (.iload 5, 2) := by decide +kernel
theorem d_C_perform_50 : decode c_C_perform 50 = .ok (.dup2, 1) := by decide +kernel
theorem d_C_perform_51 : decode c_C_perform 51 = .ok (.iaload, 1) := by decide +kernel
theorem d_C_perform_52 : decode c_C_perform 52 = .ok (.iconst 1, 1) := by decide +kernel
theorem d_C_perform_53 : decode c_C_perform 53 = .ok (.iadd, 1) := by decide +kernel
theorem d_C_perform_54 : decode c_C_perform 54 = .ok (.iastore, 1) := by decide +kernel
theorem d_C_perform_55 : decode c_C_perform 55 = .ok (.iload 5, 2) := by decide +kernel
theorem d_C_perform_57 : decode c_C_perform 57 = .ok (.ireturn, 1) := by decide +kernel
theorem fb {P : Nat → Bool} {k m : Nat} (h : k + m < 2 ^ 31) : ∀ j, fst1 P k m = some j → j < 2 ^ 31 := fun j hj => by have := fst1_some hj; omega
theorem r9_of {v : Nat → Int32} {V z : Nat} (h : RD v V z) : v 9 = nI V := h.1
section CPriv
variable {l : Launch} {G : EG} {a : Nat → Nat} {c : CS} {n S wd V kd z : Nat} {wr : va_W}
set_option maxRecDepth 100000 in
theorem k_C_putOut (hz : RD c.1 V z) (hn : n ≤ 128) {j : Nat} (hj : j < n) (h5 : NB (c.2 5 j)) (h10 : NB (c.2 10 0)) : Con l G y_C_putOut c_C_putOut 2 none (rz 1 23) [.ref (a 0), .int (nI j)] (cF G a c.1 c.2 n V wr) (DV (cF G a (poS V c j).1 (poS V c j).2 n V wr)) := by
  refine Con.of rfl rfl (fun X C E hR hl hnm => ?_)
  have hze := nz_eq hz
  have hz0 := hz
  obtain ⟨r9, r10, r1, r2⟩ := hz
  obtain ⟨b5, hb5, e5⟩ := h5
  obtain ⟨b10, hb10, e10⟩ := h10
  refine e_aload_n C d_C_putOut_0 rfl ?_
  refine e_dup C d_C_putOut_1 rfl ?_
  refine e_get C 0 (k := 11) in_C g275 d_C_putOut_2 rfl rfl rfl rfl ?_
  refine e_iconst C d_C_putOut_5 (v := 1) (by decide) ?_
  refine e_iadd C d_C_putOut_6 ?_
  refine e_put C 0 (k := 11) in_C tk_C nm_C g275 d_C_putOut_7 rfl rfl rfl rfl rfl rfl rfl rfl ?_
  refine e_eq (ws' := cF G a (upd c.1 5 (c.1 5 + 1)) c.2 n V wr) rfl ?_
  refine e_aload_n C d_C_putOut_10 rfl ?_
  refine e_get C 0 (k := 1) in_C g265 d_C_putOut_11 rfl rfl rfl rfl ?_
  refine e_get C 7 (k := 0) in_Rows g82 d_C_putOut_14 rfl rfl rfl rfl ?_
  refine e_top (show _ = nI V from r9) ?_
  refine e_if_ne C d_C_putOut_17 (tgt := 42) (by decide) (fun h17 => ?_) (fun h17 => ?_)
  · have hV : ¬ V = 0 := fun q => h17 (by rw [q]; rfl)
    refine e_aload_n C d_C_putOut_42 rfl ?_
    refine e_get C 0 (k := 1) in_C g265 d_C_putOut_43 rfl rfl rfl rfl ?_
    refine e_get C 7 (k := 4) in_Rows g90 d_C_putOut_46 rfl rfl rfl rfl ?_
    refine e_top (show _ = nI z from r10) ?_
    refine e_aload_n C d_C_putOut_49 rfl ?_
    refine e_get C 0 (k := 1) in_C g265 d_C_putOut_50 rfl rfl rfl rfl ?_
    refine e_get C 7 (k := 0) in_Rows g82 d_C_putOut_53 rfl rfl rfl rfl ?_
    refine e_top (show _ = nI V from r9) ?_
    refine e_icmp_lt C d_C_putOut_56 (tgt := 88) (by decide) (fun h56 => ?_) (fun h56 => ?_)
    · rw [nI_ltI (by omega) (by omega)] at h56
      rw [show poS V c j = (upd (upd c.1 5 (c.1 5 + 1)) 10 (nI (z + 1)), raF c.2 z (c.2 2 j) (c.2 4 j) (c.2 5 j)) by simp only [poS, if_neg hV, hze, if_pos h56]] at E
      refine e_aload_n C d_C_putOut_88 rfl ?_
      refine e_get C 0 (k := 1) in_C g265 d_C_putOut_89 rfl rfl rfl rfl ?_
      refine e_aload_n C d_C_putOut_92 rfl ?_
      refine e_get C 0 (k := 0) in_C g264 d_C_putOut_93 rfl rfl rfl rfl ?_
      refine e_get C 1 (k := 3) in_Ways g47 d_C_putOut_96 rfl rfl rfl rfl ?_
      refine e_iload_n C d_C_putOut_99 rfl ?_
      refine e_iald C 2 0 d_C_putOut_100 rfl rfl j rfl hj (by omega) ?_
      refine e_aload_n C d_C_putOut_101 rfl ?_
      refine e_get C 0 (k := 0) in_C g264 d_C_putOut_102 rfl rfl rfl rfl ?_
      refine e_get C 1 (k := 5) in_Ways g51 d_C_putOut_105 rfl rfl rfl rfl ?_
      refine e_iload_n C d_C_putOut_108 rfl ?_
      refine e_iald C 4 0 d_C_putOut_109 rfl rfl j rfl hj (by omega) ?_
      refine e_aload_n C d_C_putOut_110 rfl ?_
      refine e_get C 0 (k := 0) in_C g264 d_C_putOut_111 rfl rfl rfl rfl ?_
      refine e_get C 1 (k := 6) in_Ways g53 d_C_putOut_114 rfl rfl rfl rfl ?_
      refine e_iload_n C d_C_putOut_117 rfl ?_
      refine e_iald C 5 0 d_C_putOut_118 rfl rfl j rfl hj (by omega) ?_
      refine e_cVv C hR 7 (k_Rows_add (v := upd c.1 5 (c.1 5 + 1)) (f := c.2) hz0 h56 _ _ _) g580 g4 g577 g578 g579 d_C_putOut_119 rfl ey_Rows_add rfl rfl rfl rfl ⟨Nat.zero_le _, Nat.zero_le _⟩ ?_
      exact e_vret C E d_C_putOut_122 (Nat.le_refl _) (Nat.le_refl _) ⟨rfl, rfl⟩
    · rw [nI_ltI (by omega) (by omega)] at h56
      obtain rfl : z = V := by omega
      rw [show poS z c j = (upd (upd (upd (upd c.1 5 (c.1 5 + 1)) 4 (c.1 4 + nI (pop4 b10))) 10 (nI (z - 1))) 10 (nI (z - 1 + 1)), raF (rmF c.2 0 (z - 1)) (z - 1) (c.2 2 j) (c.2 4 j) (c.2 5 j)) by simp only [poS, if_neg hV, hze, if_neg h56, e10, popI_eq hb10]] at E
      refine e_aload_n C d_C_putOut_59 rfl ?_
      refine e_dup C d_C_putOut_60 rfl ?_
      refine e_get C 0 (k := 10) in_C g274 d_C_putOut_61 rfl rfl rfl rfl ?_
      refine e_aload_n C d_C_putOut_64 rfl ?_
      refine e_get C 0 (k := 1) in_C g265 d_C_putOut_65 rfl rfl rfl rfl ?_
      refine e_get C 7 (k := 3) in_Rows g88 d_C_putOut_68 rfl rfl rfl rfl ?_
      refine e_iconst C d_C_putOut_71 (v := 0) (by decide) ?_
      refine e_iald C 10 0 d_C_putOut_72 rfl rfl 0 rfl (by omega) (by omega) ?_
      refine e_top e10 ?_
      refine e_cSi C hR (k_bitCount hb10) g331 g19 g348 g330 d_C_putOut_73 rfl ey_Integer_bitCount rfl rfl ⟨Nat.zero_le _, Nat.zero_le _⟩ ?_
      refine e_iadd C d_C_putOut_76 ?_
      refine e_put C 0 (k := 10) in_C tk_C nm_C g274 d_C_putOut_77 rfl rfl rfl rfl rfl rfl rfl rfl ?_
      refine e_eq (ws' := cF G a (upd (upd c.1 5 (c.1 5 + 1)) 4 (c.1 4 + nI (pop4 b10))) c.2 n z wr) rfl ?_
      refine e_aload_n C d_C_putOut_80 rfl ?_
      refine e_get C 0 (k := 1) in_C g265 d_C_putOut_81 rfl rfl rfl rfl ?_
      refine e_iconst C d_C_putOut_84 (v := nI 0) (by decide) ?_
      refine e_cVv C hR 7 (k_Rows_remove (v := upd (upd c.1 5 (c.1 5 + 1)) 4 (c.1 4 + nI (pop4 b10))) (f := c.2) hz0 (show 0 < z by omega)) g356 g4 g353 g354 g355 d_C_putOut_85 rfl ey_Rows_remove rfl rfl rfl rfl ⟨Nat.zero_le _, Nat.zero_le _⟩ ?_
      refine e_aload_n C d_C_putOut_88 rfl ?_
      refine e_get C 0 (k := 1) in_C g265 d_C_putOut_89 rfl rfl rfl rfl ?_
      refine e_aload_n C d_C_putOut_92 rfl ?_
      refine e_get C 0 (k := 0) in_C g264 d_C_putOut_93 rfl rfl rfl rfl ?_
      refine e_get C 1 (k := 3) in_Ways g47 d_C_putOut_96 rfl rfl rfl rfl ?_
      refine e_iload_n C d_C_putOut_99 rfl ?_
      refine e_iald C 2 0 d_C_putOut_100 rfl rfl j rfl hj (by omega) ?_
      refine e_aload_n C d_C_putOut_101 rfl ?_
      refine e_get C 0 (k := 0) in_C g264 d_C_putOut_102 rfl rfl rfl rfl ?_
      refine e_get C 1 (k := 5) in_Ways g51 d_C_putOut_105 rfl rfl rfl rfl ?_
      refine e_iload_n C d_C_putOut_108 rfl ?_
      refine e_iald C 4 0 d_C_putOut_109 rfl rfl j rfl hj (by omega) ?_
      refine e_aload_n C d_C_putOut_110 rfl ?_
      refine e_get C 0 (k := 0) in_C g264 d_C_putOut_111 rfl rfl rfl rfl ?_
      refine e_get C 1 (k := 6) in_Ways g53 d_C_putOut_114 rfl rfl rfl rfl ?_
      refine e_iload_n C d_C_putOut_117 rfl ?_
      refine e_iald C 5 0 d_C_putOut_118 rfl rfl j rfl hj (by omega) ?_
      refine e_cVv C hR 7 (k_Rows_add (v := upd (upd (upd c.1 5 (c.1 5 + 1)) 4 (c.1 4 + nI (pop4 b10))) 10 (nI (z - 1))) (f := rmF c.2 0 (z - 1)) (z := z - 1) ⟨r9, rfl, by omega, r2⟩ (by omega) _ _ _) g580 g4 g577 g578 g579 d_C_putOut_119 rfl ey_Rows_add rfl rfl rfl rfl ⟨Nat.zero_le _, Nat.zero_le _⟩ ?_
      exact e_vret C E d_C_putOut_122 (Nat.le_refl _) (Nat.le_refl _) ⟨rfl, rfl⟩
  · have hV : V = 0 := by
      rcases Nat.eq_zero_or_pos V with q | q
      · exact q
      · exact absurd h17 (nI_ne0 q (by omega))
    rw [show poS V c j = (upd (upd c.1 5 (c.1 5 + 1)) 4 (c.1 4 + nI (pop4 b5)), c.2) by simp only [poS, if_pos hV, e5, popI_eq hb5]] at E
    refine e_aload_n C d_C_putOut_20 rfl ?_
    refine e_dup C d_C_putOut_21 rfl ?_
    refine e_get C 0 (k := 10) in_C g274 d_C_putOut_22 rfl rfl rfl rfl ?_
    refine e_aload_n C d_C_putOut_25 rfl ?_
    refine e_get C 0 (k := 0) in_C g264 d_C_putOut_26 rfl rfl rfl rfl ?_
    refine e_get C 1 (k := 6) in_Ways g53 d_C_putOut_29 rfl rfl rfl rfl ?_
    refine e_iload_n C d_C_putOut_32 rfl ?_
    refine e_iald C 5 0 d_C_putOut_33 rfl rfl j rfl hj (by omega) ?_
    refine e_top e5 ?_
    refine e_cSi C hR (k_bitCount hb5) g331 g19 g348 g330 d_C_putOut_34 rfl ey_Integer_bitCount rfl rfl ⟨Nat.zero_le _, Nat.zero_le _⟩ ?_
    refine e_iadd C d_C_putOut_37 ?_
    refine e_put C 0 (k := 10) in_C tk_C nm_C g274 d_C_putOut_38 rfl rfl rfl rfl rfl rfl rfl rfl ?_
    exact e_vret C E d_C_putOut_41 (Nat.le_refl _) (Nat.le_refl _) ⟨rfl, rfl⟩
set_option maxRecDepth 100000 in
theorem k_C_writePart (h : CD c.1 S wd) (hz : RD c.1 V z) (x bit : Int32) : Con l G y_C_writePart c_C_writePart 5 none (rz 2 44) [.ref (a 0), .int x, .int bit] (cF G a c.1 c.2 (S * wd) V wr) (DV (cF G a (wpS S wd c x bit).1 (wpS S wd c x bit).2 (S * wd) V wr)) := by
  refine Con.of rfl rfl (fun X C E hR hl hnm => ?_)
  have hze := nz_eq hz
  have hn1 := h.n128
  have hlt0 := sN_lt h x
  have hb2 : sN S x * wd + wd ≤ S * wd := by
    have := slot_lt (wd := wd) (w := wd - 1) hlt0 (by have := h.2.2.2.2; omega)
    have := h.2.2.2.2
    omega
  have hz0 := hz
  obtain ⟨r9, r10, r1, r2⟩ := hz
  unfold wpS at E
  rw [hze] at E
  refine e_aload_n C d_C_writePart_0 rfl ?_
  refine e_get C 0 (k := 0) in_C g264 d_C_writePart_1 rfl rfl rfl rfl ?_
  refine e_iload_n C d_C_writePart_4 rfl ?_
  refine e_cVi C hR 1 (k_Ways_find h x) g312 g3 g309 g310 g311 d_C_writePart_5 rfl ey_Ways_find rfl rfl rfl rfl ⟨Nat.zero_le _, Nat.zero_le _⟩ ?_
  refine e_istore_n C d_C_writePart_8 rfl ?_
  refine e_aload_n C d_C_writePart_9 rfl ?_
  refine e_get C 0 (k := 1) in_C g265 d_C_writePart_10 rfl rfl rfl rfl ?_
  refine e_iload_n C d_C_writePart_13 rfl ?_
  refine e_cVi C hR 7 (k_Rows_find hz0 x) g324 g4 g321 g322 g323 d_C_writePart_14 rfl ey_Rows_find rfl rfl rfl rfl ⟨Nat.zero_le _, Nat.zero_le _⟩ ?_
  refine e_istore C d_C_writePart_17 rfl ?_
  refine e_aload_n C d_C_writePart_19 rfl ?_
  refine e_get C 0 (k := 6) in_C g270 d_C_writePart_20 rfl rfl rfl rfl ?_
  refine e_if_ne C d_C_writePart_23 (tgt := 37) (by decide) (fun h23 => ?_) (fun h23 => ?_)
  · have h23 : ¬ c.1 0 = 0 := h23
    rw [if_pos h23] at E
    refine e_aload_n C d_C_writePart_37 rfl ?_
    refine e_dup C d_C_writePart_38 rfl ?_
    refine e_get C 0 (k := 10) in_C g274 d_C_writePart_39 rfl rfl rfl rfl ?_
    refine e_iconst C d_C_writePart_42 (v := 1) (by decide) ?_
    refine e_iadd C d_C_writePart_43 ?_
    refine e_put C 0 (k := 10) in_C tk_C nm_C g274 d_C_writePart_44 rfl rfl rfl rfl rfl rfl rfl rfl ?_
    refine e_goto C d_C_writePart_47 (tgt := 85) (by decide) ?_
    exact e_vret C E d_C_writePart_85 (Nat.le_refl _) (Nat.le_refl _) ⟨rfl, rfl⟩
  · have h23 : c.1 0 = 0 := h23
    rw [if_neg (fun q => q h23)] at E
    refine e_iload_n C d_C_writePart_26 rfl ?_
    refine e_iconst C d_C_writePart_27 (v := (-1)) (by decide) ?_
    refine e_icmp_ne C d_C_writePart_28 (tgt := 50) (by decide) (fun h28 => ?_) (fun h28 => ?_)
    · rw [oI_n1 (fb (by omega))] at h28
      obtain ⟨j, hj⟩ := Option.ne_none_iff_exists'.mp h28
      have hj2 := fst1_some hj
      rw [hj] at E
      rw [hj]
      refine e_iload_n C d_C_writePart_50 rfl ?_
      refine e_iconst C d_C_writePart_51 (v := (-1)) (by decide) ?_
      refine e_icmp_eq C d_C_writePart_52 (tgt := 71) (by decide) (fun h52 => ?_) (fun h52 => ?_)
      · exact absurd h52 (by rw [oI_n1 (fun k hk => by cases hk; omega)]; simp)
      · skip
        refine e_aload_n C d_C_writePart_55 rfl ?_
        refine e_get C 0 (k := 0) in_C g264 d_C_writePart_56 rfl rfl rfl rfl ?_
        refine e_get C 1 (k := 6) in_Ways g53 d_C_writePart_59 rfl rfl rfl rfl ?_
        refine e_iload_n C d_C_writePart_62 rfl ?_
        refine e_dup2 C d_C_writePart_63 rfl rfl ?_
        refine e_iald C 5 0 d_C_writePart_64 rfl rfl j rfl (by omega) (by omega) ?_
        refine e_iload_n C d_C_writePart_65 rfl ?_
        refine e_ior C d_C_writePart_66 ?_
        refine e_iast C 5 0 d_C_writePart_67 rfl rfl j rfl (by omega) (by omega) ?_
        refine e_goto C d_C_writePart_68 (tgt := 85) (by decide) ?_
        exact e_vret C E d_C_writePart_85 (Nat.le_refl _) (Nat.le_refl _) ⟨rfl, rfl⟩
    · rw [oI_n1 (fb (by omega))] at h28
      rw [h28] at E
      refine e_iload C d_C_writePart_31 rfl ?_
      refine e_iconst C d_C_writePart_33 (v := (-1)) (by decide) ?_
      refine e_icmp_ne C d_C_writePart_34 (tgt := 50) (by decide) (fun h34 => ?_) (fun h34 => ?_)
      · rw [oI_n1 (fb (by omega))] at h34
        obtain ⟨k, hk⟩ := Option.ne_none_iff_exists'.mp h34
        have hk2 := fst1_some hk
        rw [hk] at E
        rw [hk, h28]
        refine e_iload_n C d_C_writePart_50 rfl ?_
        refine e_iconst C d_C_writePart_51 (v := (-1)) (by decide) ?_
        refine e_icmp_eq C d_C_writePart_52 (tgt := 71) (by decide) (fun h52 => ?_) (fun h52 => ?_)
        · skip
          refine e_aload_n C d_C_writePart_71 rfl ?_
          refine e_get C 0 (k := 1) in_C g265 d_C_writePart_72 rfl rfl rfl rfl ?_
          refine e_get C 7 (k := 3) in_Rows g88 d_C_writePart_75 rfl rfl rfl rfl ?_
          refine e_iload C d_C_writePart_78 rfl ?_
          refine e_dup2 C d_C_writePart_80 rfl rfl ?_
          refine e_iald C 10 0 d_C_writePart_81 rfl rfl k rfl (by omega) (by omega) ?_
          refine e_iload_n C d_C_writePart_82 rfl ?_
          refine e_ior C d_C_writePart_83 ?_
          refine e_iast C 10 0 d_C_writePart_84 rfl rfl k rfl (by omega) (by omega) ?_
          exact e_vret C E d_C_writePart_85 (Nat.le_refl _) (Nat.le_refl _) ⟨rfl, rfl⟩
        · exact absurd rfl h52
      · rw [oI_n1 (fb (by omega))] at h34
        rw [h34] at E
        refine e_aload_n C d_C_writePart_37 rfl ?_
        refine e_dup C d_C_writePart_38 rfl ?_
        refine e_get C 0 (k := 10) in_C g274 d_C_writePart_39 rfl rfl rfl rfl ?_
        refine e_iconst C d_C_writePart_42 (v := 1) (by decide) ?_
        refine e_iadd C d_C_writePart_43 ?_
        refine e_put C 0 (k := 10) in_C tk_C nm_C g274 d_C_writePart_44 rfl rfl rfl rfl rfl rfl rfl rfl ?_
        refine e_goto C d_C_writePart_47 (tgt := 85) (by decide) ?_
        exact e_vret C E d_C_writePart_85 (Nat.le_refl _) (Nat.le_refl _) ⟨rfl, rfl⟩
set_option maxRecDepth 100000 in
theorem k_C_useWay (h : RC S wd kd c) {s w : Nat} (hs : s < S) (hw : w < wd) (bit : Int32) : Con l G y_C_useWay c_C_useWay 4 (some .int) (rz 2 47) [.ref (a 0), .int (nI s), .int (nI (s * wd + w)), .int bit] (wK G a c S wd V kd) (DI (uwS wd kd c s w bit).2 (wK G a (uwS wd kd c s w bit).1 S wd V kd)) := by
  refine Con.of rfl rfl (fun X C E hR hl hnm => ?_)
  have hn1 := h.1.n128
  have hlt := slot_lt hs hw
  have hro := rUse_RO wd kd c s w
  refine e_aload_n C d_C_useWay_0 rfl ?_
  refine e_get C 0 (k := 2) in_C g266 d_C_useWay_1 rfl rfl rfl rfl ?_
  refine e_iload_n C d_C_useWay_4 rfl ?_
  refine e_iload_n C d_C_useWay_5 rfl ?_
  refine e_iload_n C d_C_useWay_6 rfl ?_
  refine e_aload_n C d_C_useWay_7 rfl ?_
  refine e_get C 0 (k := 0) in_C g264 d_C_useWay_8 rfl rfl rfl rfl ?_
  refine e_get C 1 (k := 1) in_Ways g43 d_C_useWay_11 rfl rfl rfl rfl ?_
  refine e_top (show _ = nI wd from h.1.2.1) ?_
  refine e_imul C d_C_useWay_14 ?_
  refine e_top (pk_mul _ _) ?_
  refine e_isub C d_C_useWay_15 ?_
  refine e_top (y := nI w) (by rw [pk_sub (by omega)]; congr 1; omega) ?_
  refine e_rule_use C hR h hs hw g470 d_C_useWay_16 rfl rfl ⟨Nat.zero_le _, Nat.zero_le _⟩ ?_
  refine e_aload_n C d_C_useWay_19 rfl ?_
  refine e_get C 0 (k := 0) in_C g264 d_C_useWay_20 rfl rfl rfl rfl ?_
  refine e_get C 1 (k := 5) in_Ways g51 d_C_useWay_23 rfl rfl rfl rfl ?_
  refine e_iload_n C d_C_useWay_26 rfl ?_
  refine e_iald C 4 0 d_C_useWay_27 rfl rfl (s * wd + w) rfl hlt (by omega) ?_
  refine e_iload_n C d_C_useWay_28 rfl ?_
  refine e_iand C d_C_useWay_29 ?_
  refine e_top (y := c.2 4 (s * wd + w) &&& bit) (by rw [hro.2 4 (by omega)]) ?_
  refine e_if_eq C d_C_useWay_30 (tgt := 35) (by decide) (fun h30 => ?_) (fun h30 => ?_)
  · rw [show uwS wd kd c s w bit = ((upd (rUse wd kd c s w).1 3 ((rUse wd kd c s w).1 3 + 1), up2 (rUse wd kd c s w).2 4 (upd ((rUse wd kd c s w).2 4) (s * wd + w) ((rUse wd kd c s w).2 4 (s * wd + w) ||| bit))), 1) by rw [hro.2 4 (by omega), hro.1 3 (by omega)]; simp only [uwS, if_pos h30]] at E
    generalize rUse wd kd c s w = c1 at E ⊢
    refine e_aload_n C d_C_useWay_35 rfl ?_
    refine e_get C 0 (k := 0) in_C g264 d_C_useWay_36 rfl rfl rfl rfl ?_
    refine e_get C 1 (k := 5) in_Ways g51 d_C_useWay_39 rfl rfl rfl rfl ?_
    refine e_iload_n C d_C_useWay_42 rfl ?_
    refine e_dup2 C d_C_useWay_43 rfl rfl ?_
    refine e_iald C 4 0 d_C_useWay_44 rfl rfl (s * wd + w) rfl hlt (by omega) ?_
    refine e_iload_n C d_C_useWay_45 rfl ?_
    refine e_ior C d_C_useWay_46 ?_
    refine e_iast C 4 0 d_C_useWay_47 rfl rfl (s * wd + w) rfl hlt (by omega) ?_
    refine e_aload_n C d_C_useWay_48 rfl ?_
    refine e_dup C d_C_useWay_49 rfl ?_
    refine e_get C 0 (k := 9) in_C g273 d_C_useWay_50 rfl rfl rfl rfl ?_
    refine e_iconst C d_C_useWay_53 (v := 1) (by decide) ?_
    refine e_iadd C d_C_useWay_54 ?_
    refine e_put C 0 (k := 9) in_C tk_C nm_C g273 d_C_useWay_55 rfl rfl rfl rfl rfl rfl rfl rfl ?_
    refine e_eq (ws' := wK G a (upd c1.1 3 (c1.1 3 + 1), up2 c1.2 4 (upd (c1.2 4) (s * wd + w) (c1.2 4 (s * wd + w) ||| bit))) S wd V kd) (wK_of (c := c1) (c' := (upd c1.1 3 (c1.1 3 + 1), up2 c1.2 4 (upd (c1.2 4) (s * wd + w) (c1.2 4 (s * wd + w) ||| bit)))) ⟨⟨rfl, rfl, rfl, rfl, rfl, rfl, rfl⟩, rfl, rfl, rfl⟩ G a S wd V kd) ?_
    refine e_iconst C d_C_useWay_58 (v := 1) (by decide) ?_
    exact e_iret C E d_C_useWay_59 (Nat.le_refl _) (Nat.le_refl _) rfl ⟨rfl, rfl⟩
  · rw [show uwS wd kd c s w bit = (rUse wd kd c s w, 0) by simp only [uwS, if_neg h30]] at E
    refine e_iconst C d_C_useWay_33 (v := 0) (by decide) ?_
    exact e_iret C E d_C_useWay_34 (Nat.le_refl _) (Nat.le_refl _) rfl ⟨rfl, rfl⟩
set_option maxRecDepth 100000 in
theorem k_C_place (h : CI S wd V kd c) (x t : Int32) {ch : Int32} (hch : NB ch) (hcw : ∀ w, rChoose wd kd c (sN S x) = some w → w < wd) : Con l G y_C_place c_C_place 6 none (rz 2 49) [.ref (a 0), .int x, .int t, .int ch] (wK G a c S wd V kd) (DV (wK G a (plS S wd V kd c x t ch) S wd V kd)) := by
  refine Con.of rfl rfl (fun X C E hR hl hnm => ?_)
  have hC := h.1.1
  have hn1 := hC.n128
  have hw8 := hC.2.2.2.2
  have hs := sN_lt hC x
  unfold plS at E
  generalize hsn : sN S x = s at hs E hcw
  refine e_aload_n C d_C_place_0 rfl ?_
  refine e_get C 0 (k := 0) in_C g264 d_C_place_1 rfl rfl rfl rfl ?_
  refine e_iload_n C d_C_place_4 rfl ?_
  refine e_cVi C hR 1 (k_Ways_setOf hC x) g316 g3 g465 g314 g315 d_C_place_5 rfl ey_Ways_setOf rfl rfl rfl rfl ⟨Nat.zero_le _, Nat.zero_le _⟩ ?_
  rw [hsn]
  refine e_istore C d_C_place_8 rfl ?_
  refine e_aload_n C d_C_place_10 rfl ?_
  refine e_get C 0 (k := 0) in_C g264 d_C_place_11 rfl rfl rfl rfl ?_
  refine e_iload C d_C_place_14 rfl ?_
  refine e_cVi C hR 1 (k_Ways_emptyWay hC hs) g514 g3 g511 g512 g513 d_C_place_16 rfl ey_Ways_emptyWay rfl rfl rfl rfl ⟨Nat.zero_le _, Nat.zero_le _⟩ ?_
  refine e_istore C d_C_place_19 rfl ?_
  refine e_iload C d_C_place_21 rfl ?_
  refine e_iconst C d_C_place_23 (v := (-1)) (by decide) ?_
  refine e_icmp_ne C d_C_place_24 (tgt := 87) (by decide) (fun h24 => ?_) (fun h24 => ?_)
  · rw [oI_n1 (fb (by omega))] at h24
    obtain ⟨w, hw⟩ := Option.ne_none_iff_exists'.mp h24
    have hw2 := fst1_some hw
    have hlt := slot_lt (w := w) hs (show w < wd by omega)
    rw [hw] at E
    rw [hw]
    refine e_aload_n C d_C_place_87 rfl ?_
    refine e_get C 0 (k := 0) in_C g264 d_C_place_88 rfl rfl rfl rfl ?_
    refine e_iload C d_C_place_91 rfl ?_
    refine e_aload_n C d_C_place_93 rfl ?_
    refine e_get C 0 (k := 0) in_C g264 d_C_place_94 rfl rfl rfl rfl ?_
    refine e_get C 1 (k := 1) in_Ways g43 d_C_place_97 rfl rfl rfl rfl ?_
    refine e_top (show _ = nI wd from hC.2.1) ?_
    refine e_imul C d_C_place_100 ?_
    refine e_iload C d_C_place_101 rfl ?_
    refine e_iadd C d_C_place_103 ?_
    refine e_top (y := nI (s * wd + w)) (by show nI s * nI wd + nI w = _; rw [pk_mul, nI_add]) ?_
    refine e_iload_n C d_C_place_104 rfl ?_
    refine e_iload_n C d_C_place_105 rfl ?_
    refine e_iload_n C d_C_place_106 rfl ?_
    refine e_cVv C hR 1 (k_Ways_put hC hlt x t ch) g584 g3 g581 g582 g583 d_C_place_107 rfl ey_Ways_put rfl rfl rfl rfl ⟨Nat.zero_le _, Nat.zero_le _⟩ ?_
    refine e_eq (wK_of (putF_RA c (s * wd + w) x t ch) G a S wd V kd) ?_
    refine e_aload_n C d_C_place_110 rfl ?_
    refine e_get C 0 (k := 2) in_C g266 d_C_place_111 rfl rfl rfl rfl ?_
    refine e_iload C d_C_place_114 rfl ?_
    refine e_iload C d_C_place_116 rfl ?_
    refine e_rule_come C hR (putF_CI h (s * wd + w) x t hch).1 hs (show w < wd by omega) g585 d_C_place_118 rfl rfl ⟨Nat.zero_le _, Nat.zero_le _⟩ ?_
    exact e_vret C E d_C_place_121 (Nat.le_refl _) (Nat.le_refl _) ⟨rfl, rfl⟩
  · rw [oI_n1 (fb (by omega))] at h24
    rw [h24] at E
    refine e_aload_n C d_C_place_27 rfl ?_
    refine e_get C 0 (k := 2) in_C g266 d_C_place_28 rfl rfl rfl rfl ?_
    refine e_iload C d_C_place_31 rfl ?_
    refine e_aload_n C d_C_place_33 rfl ?_
    refine e_get C 0 (k := 0) in_C g264 d_C_place_34 rfl rfl rfl rfl ?_
    refine e_get C 1 (k := 7) in_Ways g55 d_C_place_37 rfl rfl rfl rfl ?_
    refine e_rule_choose C hR h.1 hs g515 d_C_place_40 rfl rfl ⟨Nat.zero_le _, Nat.zero_le _⟩ ?_
    refine e_istore C d_C_place_43 rfl ?_
    refine e_iload C d_C_place_45 rfl ?_
    refine e_iconst C d_C_place_47 (v := (-1)) (by decide) ?_
    refine e_icmp_ne C d_C_place_48 (tgt := 52) (by decide) (fun h48 => ?_) (fun h48 => ?_)
    · rw [oI_n1 (fun k hk => by have := hcw k hk; omega)] at h48
      obtain ⟨w, hw⟩ := Option.ne_none_iff_exists'.mp h48
      have hww := hcw w hw
      have hlt := slot_lt (w := w) hs hww
      rw [hw] at E
      rw [hw]
      dsimp only at E
      have h1 := rSettle_CI h s w
      have h2 := poS_CI h1 (s * wd + w)
      have h3 := putF_CI h2 (s * wd + w) x t hch
      refine e_aload_n C d_C_place_52 rfl ?_
      refine e_get C 0 (k := 2) in_C g266 d_C_place_53 rfl rfl rfl rfl ?_
      refine e_iload C d_C_place_56 rfl ?_
      refine e_iload C d_C_place_58 rfl ?_
      refine e_aload_n C d_C_place_60 rfl ?_
      refine e_get C 0 (k := 0) in_C g264 d_C_place_61 rfl rfl rfl rfl ?_
      refine e_get C 1 (k := 7) in_Ways g55 d_C_place_64 rfl rfl rfl rfl ?_
      refine e_rule_settle C hR h.1 hs hww g550 d_C_place_67 rfl rfl ⟨Nat.zero_le _, Nat.zero_le _⟩ ?_
      generalize rSettle wd kd c s w = c1 at h1 h2 h3 E ⊢
      obtain ⟨z1, hz1⟩ := h1.2.1
      refine e_aload_n C d_C_place_70 rfl ?_
      refine e_iload C d_C_place_71 rfl ?_
      refine e_aload_n C d_C_place_73 rfl ?_
      refine e_get C 0 (k := 0) in_C g264 d_C_place_74 rfl rfl rfl rfl ?_
      refine e_get C 1 (k := 1) in_Ways g43 d_C_place_77 rfl rfl rfl rfl ?_
      refine e_top (show _ = nI wd from h1.1.1.2.1) ?_
      refine e_imul C d_C_place_80 ?_
      refine e_iload C d_C_place_81 rfl ?_
      refine e_iadd C d_C_place_83 ?_
      refine e_top (y := nI (s * wd + w)) (by show nI s * nI wd + nI w = _; rw [pk_mul, nI_add]) ?_
      refine e_cVv C hR 0 (k_C_putOut hz1 hn1 hlt (h1.2.2.1 _) (h1.2.2.2 _)) g576 g1 g573 g575 (gt_sel 9 (by decide +kernel) (by decide +kernel)) d_C_place_84 rfl ey_C_putOut rfl rfl rfl rfl ⟨Nat.zero_le _, Nat.zero_le _⟩ ?_
      refine e_eq (wK_of (poS_RA V c1 (s * wd + w)) G a S wd V kd) ?_
      generalize poS V c1 (s * wd + w) = c2 at h2 h3 E ⊢
      refine e_aload_n C d_C_place_87 rfl ?_
      refine e_get C 0 (k := 0) in_C g264 d_C_place_88 rfl rfl rfl rfl ?_
      refine e_iload C d_C_place_91 rfl ?_
      refine e_aload_n C d_C_place_93 rfl ?_
      refine e_get C 0 (k := 0) in_C g264 d_C_place_94 rfl rfl rfl rfl ?_
      refine e_get C 1 (k := 1) in_Ways g43 d_C_place_97 rfl rfl rfl rfl ?_
      refine e_top (show _ = nI wd from h2.1.1.2.1) ?_
      refine e_imul C d_C_place_100 ?_
      refine e_iload C d_C_place_101 rfl ?_
      refine e_iadd C d_C_place_103 ?_
      refine e_top (y := nI (s * wd + w)) (by show nI s * nI wd + nI w = _; rw [pk_mul, nI_add]) ?_
      refine e_iload_n C d_C_place_104 rfl ?_
      refine e_iload_n C d_C_place_105 rfl ?_
      refine e_iload_n C d_C_place_106 rfl ?_
      refine e_cVv C hR 1 (k_Ways_put h2.1.1 hlt x t ch) g584 g3 g581 g582 g583 d_C_place_107 rfl ey_Ways_put rfl rfl rfl rfl ⟨Nat.zero_le _, Nat.zero_le _⟩ ?_
      refine e_eq (wK_of (putF_RA c2 (s * wd + w) x t ch) G a S wd V kd) ?_
      refine e_aload_n C d_C_place_110 rfl ?_
      refine e_get C 0 (k := 2) in_C g266 d_C_place_111 rfl rfl rfl rfl ?_
      refine e_iload C d_C_place_114 rfl ?_
      refine e_iload C d_C_place_116 rfl ?_
      refine e_rule_come C hR h3.1 hs hww g585 d_C_place_118 rfl rfl ⟨Nat.zero_le _, Nat.zero_le _⟩ ?_
      exact e_vret C E d_C_place_121 (Nat.le_refl _) (Nat.le_refl _) ⟨rfl, rfl⟩
    · rw [oI_n1 (fun k hk => by have := hcw k hk; omega)] at h48
      rw [h48] at E
      exact e_vret C E d_C_place_51 (Nat.le_refl _) (Nat.le_refl _) ⟨rfl, rfl⟩
set_option maxRecDepth 100000 in
theorem k_C_recall (h : CI S wd V kd c) {k : Nat} (hk : k < nz c) {bit : Int32} (hbit : NB bit) (hcw : ∀ c' : CS, c'.2 6 = c.2 6 → RC S wd kd c' → ∀ s w, s < S → rChoose wd kd c' s = some w → w < wd) : Con l G y_C_recall c_C_recall 6 (some .int) (rz 3 74) [.ref (a 0), .int (nI k), .int bit] (wK G a c S wd V kd) (DI 2 (wK G a (rcS S wd V kd c k bit) S wd V kd)) := by
  refine Con.of rfl rfl (fun X C E hR hl hnm => ?_)
  obtain ⟨z, hz⟩ := h.2.1
  have hze := nz_eq hz
  rw [hze] at hk
  have hz0 := hz
  have hC := h.1.1
  have hn1 := hC.n128
  obtain ⟨r9, r10, r1, r2⟩ := hz
  unfold rcS at E
  rw [hze] at E
  have hft : ∀ c1 : CS, c1 = ftS c k bit → CI S wd V kd c1 ∧ RD c1.1 V z ∧ c1.2 8 = c.2 8 ∧ c1.2 10 = c.2 10 ∧ c1.2 6 = c.2 6 := by
    intro c1 e
    subst e
    unfold ftS
    split
    · exact ⟨⟨RA.rc (c := c) ⟨⟨rfl, rfl, rfl, rfl, rfl, rfl, rfl⟩, rfl, rfl, rfl⟩ h.1, ⟨z, hz0⟩, h.2.2.1, h.2.2.2⟩, hz0, rfl, rfl, rfl⟩
    · exact ⟨h, hz0, rfl, rfl, rfl⟩
  have tail : ∀ c1 : CS, c1 = ftS c k bit → EW X G 6 0 0 37 [(0, .ref (a 0)), (1, .int (nI k)), (2, .int bit)] [] (wK G a c1 S wd V kd) := by
    intro c1 e
    obtain ⟨h1, hz1, e8, e10, e6⟩ := hft c1 e
    rw [← e] at E
    have hs := sN_lt hC (c.2 8 k)
    have hC1 := h1.1.1
    refine e_aload_n C d_C_recall_37 rfl ?_
    refine e_get C 0 (k := 1) in_C g265 d_C_recall_38 rfl rfl rfl rfl ?_
    refine e_get C 7 (k := 1) in_Rows g84 d_C_recall_41 rfl rfl rfl rfl ?_
    refine e_iload_n C d_C_recall_44 rfl ?_
    refine e_iald C 8 0 d_C_recall_45 rfl rfl k rfl (by omega) (by omega) ?_
    refine e_top (congrFun e8 k) ?_
    refine e_istore_n C d_C_recall_46 rfl ?_
    refine e_aload_n C d_C_recall_47 rfl ?_
    refine e_get C 0 (k := 0) in_C g264 d_C_recall_48 rfl rfl rfl rfl ?_
    refine e_aload_n C d_C_recall_51 rfl ?_
    refine e_get C 0 (k := 0) in_C g264 d_C_recall_52 rfl rfl rfl rfl ?_
    refine e_iload_n C d_C_recall_55 rfl ?_
    refine e_cVi C hR 1 (k_Ways_setOf hC1 (c.2 8 k)) g316 g3 g465 g314 g315 d_C_recall_56 rfl ey_Ways_setOf rfl rfl rfl rfl ⟨Nat.zero_le _, Nat.zero_le _⟩ ?_
    refine e_cVi C hR 1 (k_Ways_allLocked hC1 hs) g506 g3 g503 g504 g505 d_C_recall_59 rfl ey_Ways_allLocked rfl rfl rfl rfl ⟨Nat.zero_le _, Nat.zero_le _⟩ ?_
    refine e_if_ne C d_C_recall_62 (tgt := 104) (by decide) (fun h62 => ?_) (fun h62 => ?_)
    · rw [bI_n] at h62
      rw [if_pos h62] at E
      refine e_iconst C d_C_recall_104 (v := 2) (by decide) ?_
      exact e_iret C E d_C_recall_105 (Nat.le_refl _) (Nat.le_refl _) rfl ⟨rfl, rfl⟩
    · rw [bI_0] at h62
      rw [if_neg (by rw [h62]; decide)] at E
      refine e_aload_n C d_C_recall_65 rfl ?_
      refine e_get C 0 (k := 1) in_C g265 d_C_recall_66 rfl rfl rfl rfl ?_
      refine e_get C 7 (k := 2) in_Rows g86 d_C_recall_69 rfl rfl rfl rfl ?_
      refine e_iload_n C d_C_recall_72 rfl ?_
      refine e_iald C 9 0 d_C_recall_73 rfl rfl k rfl (by omega) (by omega) ?_
      refine e_istore C d_C_recall_74 rfl ?_
      refine e_aload_n C d_C_recall_76 rfl ?_
      refine e_get C 0 (k := 1) in_C g265 d_C_recall_77 rfl rfl rfl rfl ?_
      refine e_get C 7 (k := 3) in_Rows g88 d_C_recall_80 rfl rfl rfl rfl ?_
      refine e_iload_n C d_C_recall_83 rfl ?_
      refine e_iald C 10 0 d_C_recall_84 rfl rfl k rfl (by omega) (by omega) ?_
      refine e_top (congrFun e10 k) ?_
      refine e_istore C d_C_recall_85 rfl ?_
      have hR3 : RA c1 (upd c1.1 10 (nI (z - 1)), rmF c1.2 k (z - 1)) := ⟨⟨rfl, rfl, rfl, rfl, rfl, rfl, rfl⟩, rfl, rfl, rfl⟩
      have h3 : CI S wd V kd (upd c1.1 10 (nI (z - 1)), rmF c1.2 k (z - 1)) := ⟨hR3.rc h1.1, ⟨z - 1, (show c1.1 9 = nI V from hz1.1), rfl, by omega, r2⟩, h1.2.2.1, NB.sh h1.2.2.2 _ _⟩
      refine e_aload_n C d_C_recall_87 rfl ?_
      refine e_get C 0 (k := 1) in_C g265 d_C_recall_88 rfl rfl rfl rfl ?_
      refine e_iload_n C d_C_recall_91 rfl ?_
      refine e_cVv C hR 7 (k_Rows_remove hz1 hk) g356 g4 g353 g354 g355 d_C_recall_92 rfl ey_Rows_remove rfl rfl rfl rfl ⟨Nat.zero_le _, Nat.zero_le _⟩ ?_
      refine e_eq (wK_of hR3 G a S wd V kd) ?_
      refine e_aload_n C d_C_recall_95 rfl ?_
      refine e_iload_n C d_C_recall_96 rfl ?_
      refine e_iload C d_C_recall_97 rfl ?_
      refine e_iload C d_C_recall_99 rfl ?_
      refine e_cVv C hR 0 (k_C_place h3 (c.2 8 k) (c1.2 9 k) (h.2.2.2 k) (fun w hw => hcw _ e6 h3.1 _ w hs hw)) g510 g1 g507 g509 (gt_sel 7 (by decide +kernel) (by decide +kernel)) d_C_recall_101 rfl ey_C_place rfl rfl rfl rfl ⟨Nat.zero_le _, Nat.zero_le _⟩ ?_
      refine e_iconst C d_C_recall_104 (v := 2) (by decide) ?_
      exact e_iret C E d_C_recall_105 (Nat.le_refl _) (Nat.le_refl _) rfl ⟨rfl, rfl⟩
  refine e_aload_n C d_C_recall_0 rfl ?_
  refine e_get C 0 (k := 1) in_C g265 d_C_recall_1 rfl rfl rfl rfl ?_
  refine e_get C 7 (k := 2) in_Rows g86 d_C_recall_4 rfl rfl rfl rfl ?_
  refine e_iload_n C d_C_recall_7 rfl ?_
  refine e_iald C 9 0 d_C_recall_8 rfl rfl k rfl (by omega) (by omega) ?_
  refine e_iload_n C d_C_recall_9 rfl ?_
  refine e_iand C d_C_recall_10 ?_
  refine e_if_ne C d_C_recall_11 (tgt := 37) (by decide) (fun h11 => ?_) (fun h11 => ?_)
  · refine e_lv2 (tail c ?_) rfl
    simp only [ftS, if_neg (show ¬ c.2 9 k &&& bit = 0 from h11)]
  · have e : (upd c.1 3 (c.1 3 + 1), up2 c.2 9 (upd (c.2 9) k (c.2 9 k ||| bit))) = ftS c k bit := by simp only [ftS, if_pos (show c.2 9 k &&& bit = 0 from h11)]
    refine e_aload_n C d_C_recall_14 rfl ?_
    refine e_get C 0 (k := 1) in_C g265 d_C_recall_15 rfl rfl rfl rfl ?_
    refine e_get C 7 (k := 2) in_Rows g86 d_C_recall_18 rfl rfl rfl rfl ?_
    refine e_iload_n C d_C_recall_21 rfl ?_
    refine e_dup2 C d_C_recall_22 rfl rfl ?_
    refine e_iald C 9 0 d_C_recall_23 rfl rfl k rfl (by omega) (by omega) ?_
    refine e_iload_n C d_C_recall_24 rfl ?_
    refine e_ior C d_C_recall_25 ?_
    refine e_iast C 9 0 d_C_recall_26 rfl rfl k rfl (by omega) (by omega) ?_
    refine e_aload_n C d_C_recall_27 rfl ?_
    refine e_dup C d_C_recall_28 rfl ?_
    refine e_get C 0 (k := 9) in_C g273 d_C_recall_29 rfl rfl rfl rfl ?_
    refine e_iconst C d_C_recall_32 (v := 1) (by decide) ?_
    refine e_iadd C d_C_recall_33 ?_
    refine e_put C 0 (k := 9) in_C tk_C nm_C g273 d_C_recall_34 rfl rfl rfl rfl rfl rfl rfl rfl ?_
    refine e_eq (wK_of (c := c) (c' := (upd c.1 3 (c.1 3 + 1), up2 c.2 9 (upd (c.2 9) k (c.2 9 k ||| bit)))) ⟨⟨rfl, rfl, rfl, rfl, rfl, rfl, rfl⟩, rfl, rfl, rfl⟩ G a S wd V kd) ?_
    exact e_lv2 (tail _ e) rfl
set_option maxRecDepth 100000 in
theorem k_C_reach (h : CI S wd V kd c) (x : Int32) {bit : Int32} (hbit : NB bit) (wt : Int32) : Con l G y_C_reach c_C_reach 6 (some .int) (rz 4 99) [.ref (a 0), .int x, .int bit, .int wt] (wK G a c S wd V kd) (DI (rhS S wd V kd c x bit wt).2 (wK G a (rhS S wd V kd c x bit wt).1 S wd V kd)) := by
  refine Con.of rfl rfl (fun X C E hR hl hnm => ?_)
  obtain ⟨z, hz⟩ := h.2.1
  have hze := nz_eq hz
  have hC := h.1.1
  have hn1 := hC.n128
  have hw8 := hC.2.2.2.2
  have hs := sN_lt hC x
  have hb2 : sN S x * wd + wd ≤ S * wd := by
    have := slot_lt (wd := wd) (w := wd - 1) hs (by omega)
    omega
  unfold rhS at E
  rw [hze] at E
  refine e_aload_n C d_C_reach_0 rfl ?_
  refine e_get C 0 (k := 0) in_C g264 d_C_reach_1 rfl rfl rfl rfl ?_
  refine e_iload_n C d_C_reach_4 rfl ?_
  refine e_cVi C hR 1 (k_Ways_find hC x) g312 g3 g309 g310 g311 d_C_reach_5 rfl ey_Ways_find rfl rfl rfl rfl ⟨Nat.zero_le _, Nat.zero_le _⟩ ?_
  refine e_istore C d_C_reach_8 rfl ?_
  refine e_iload C d_C_reach_10 rfl ?_
  refine e_iconst C d_C_reach_12 (v := (-1)) (by decide) ?_
  refine e_icmp_eq C d_C_reach_13 (tgt := 32) (by decide) (fun h13 => ?_) (fun h13 => ?_)
  · rw [oI_n1 (fb (by omega))] at h13
    rw [h13] at E
    dsimp only at E
    refine e_aload_n C d_C_reach_32 rfl ?_
    refine e_get C 0 (k := 1) in_C g265 d_C_reach_33 rfl rfl rfl rfl ?_
    refine e_iload_n C d_C_reach_36 rfl ?_
    refine e_cVi C hR 7 (k_Rows_find hz x) g324 g4 g321 g322 g323 d_C_reach_37 rfl ey_Rows_find rfl rfl rfl rfl ⟨Nat.zero_le _, Nat.zero_le _⟩ ?_
    refine e_istore C d_C_reach_40 rfl ?_
    refine e_iload C d_C_reach_42 rfl ?_
    refine e_iconst C d_C_reach_44 (v := (-1)) (by decide) ?_
    refine e_icmp_eq C d_C_reach_45 (tgt := 56) (by decide) (fun h45 => ?_) (fun h45 => ?_)
    · rw [oI_n1 (fb (by have := hz.2.2; omega))] at h45
      rw [h45] at E
      dsimp only at E
      have fet : ¬ (¬ wt = 0 ∧ c.1 1 = 0) → EW X G 6 0 0 69 [(0, .ref (a 0)), (1, .int x), (2, .int bit), (3, .int wt)] [] (wK G a c S wd V kd) := by
        intro hne
        rw [if_neg hne] at E
        have h2 := f3_CI h (c.1 3 + 1)
        refine e_aload_n C d_C_reach_69 rfl ?_
        refine e_dup C d_C_reach_70 rfl ?_
        refine e_get C 0 (k := 9) in_C g273 d_C_reach_71 rfl rfl rfl rfl ?_
        refine e_iconst C d_C_reach_74 (v := 1) (by decide) ?_
        refine e_iadd C d_C_reach_75 ?_
        refine e_put C 0 (k := 9) in_C tk_C nm_C g273 d_C_reach_76 rfl rfl rfl rfl rfl rfl rfl rfl ?_
        refine e_eq (wK_of (c := c) (c' := (upd c.1 3 (c.1 3 + 1), c.2)) ⟨⟨rfl, rfl, rfl, rfl, rfl, rfl, rfl⟩, rfl, rfl, rfl⟩ G a S wd V kd) ?_
        refine e_aload_n C d_C_reach_79 rfl ?_
        refine e_get C 0 (k := 0) in_C g264 d_C_reach_80 rfl rfl rfl rfl ?_
        refine e_aload_n C d_C_reach_83 rfl ?_
        refine e_get C 0 (k := 0) in_C g264 d_C_reach_84 rfl rfl rfl rfl ?_
        refine e_iload_n C d_C_reach_87 rfl ?_
        refine e_cVi C hR 1 (k_Ways_setOf h2.1.1 x) g316 g3 g465 g314 g315 d_C_reach_88 rfl ey_Ways_setOf rfl rfl rfl rfl ⟨Nat.zero_le _, Nat.zero_le _⟩ ?_
        refine e_cVi C hR 1 (k_Ways_allLocked h2.1.1 hs) g506 g3 g503 g504 g505 d_C_reach_91 rfl ey_Ways_allLocked rfl rfl rfl rfl ⟨Nat.zero_le _, Nat.zero_le _⟩ ?_
        refine e_if_eq C d_C_reach_94 (tgt := 99) (by decide) (fun h94 => ?_) (fun h94 => ?_)
        · rw [bI_0] at h94
          rw [if_neg (by rw [show allL c.2 wd (sN S x) = false from h94]; decide)] at E
          refine e_aload_n C d_C_reach_99 rfl ?_
          refine e_iload_n C d_C_reach_100 rfl ?_
          refine e_iload_n C d_C_reach_101 rfl ?_
          refine e_iconst C d_C_reach_102 (v := 0) (by decide) ?_
          refine e_cVv C hR 0 (k_C_place h2 x bit NB.z (fun w hw => (rChoose_lt h2.1 hs hw).1)) g510 g1 g507 g509 (gt_sel 7 (by decide +kernel) (by decide +kernel)) d_C_reach_103 rfl ey_C_place rfl rfl rfl rfl ⟨Nat.zero_le _, Nat.zero_le _⟩ ?_
          refine e_iconst C d_C_reach_106 (v := 3) (by decide) ?_
          exact e_iret C E d_C_reach_107 (Nat.le_refl _) (Nat.le_refl _) rfl ⟨rfl, rfl⟩
        · rw [bI_n] at h94
          rw [if_pos (show allL c.2 wd (sN S x) = true from h94)] at E
          refine e_iconst C d_C_reach_97 (v := 4) (by decide) ?_
          exact e_iret C E d_C_reach_98 (Nat.le_refl _) (Nat.le_refl _) rfl ⟨rfl, rfl⟩
      refine e_iload_n C d_C_reach_56 rfl ?_
      refine e_if_eq C d_C_reach_57 (tgt := 69) (by decide) (fun h57 => ?_) (fun h57 => ?_)
      · exact e_lv2 (fet (fun q => q.1 h57)) rfl
      · skip
        refine e_aload_n C d_C_reach_60 rfl ?_
        refine e_get C 0 (k := 7) in_C g271 d_C_reach_61 rfl rfl rfl rfl ?_
        refine e_if_ne C d_C_reach_64 (tgt := 69) (by decide) (fun h64 => ?_) (fun h64 => ?_)
        · exact e_lv2 (fet (fun q => h64 q.2)) rfl
        · rw [if_pos (⟨h57, h64⟩ : ¬ wt = 0 ∧ c.1 1 = 0)] at E
          refine e_iconst C d_C_reach_67 (v := 3) (by decide) ?_
          exact e_iret C E d_C_reach_68 (Nat.le_refl _) (Nat.le_refl _) rfl ⟨rfl, rfl⟩
    · rw [oI_n1 (fb (by have := hz.2.2; omega))] at h45
      obtain ⟨k, hk⟩ := Option.ne_none_iff_exists'.mp h45
      have hk2 := fst1_some hk
      rw [hk] at E
      rw [hk]
      dsimp only at E
      refine e_aload_n C d_C_reach_48 rfl ?_
      refine e_iload C d_C_reach_49 rfl ?_
      refine e_iload_n C d_C_reach_51 rfl ?_
      refine e_cVi C hR 0 (k_C_recall h (by rw [hze]; omega) hbit (fun c' _ hc' s w hs2 hw => (rChoose_lt hc' hs2 hw).1)) g502 g1 g499 g501 (gt_sel 6 (by decide +kernel) (by decide +kernel)) d_C_reach_52 rfl ey_C_recall rfl rfl rfl rfl ⟨Nat.zero_le _, Nat.zero_le _⟩ ?_
      exact e_iret C E d_C_reach_55 (Nat.le_refl _) (Nat.le_refl _) rfl ⟨rfl, rfl⟩
  · rw [oI_n1 (fb (by omega))] at h13
    obtain ⟨j, hj⟩ := Option.ne_none_iff_exists'.mp h13
    have hj2 := fst1_some hj
    obtain ⟨w, rfl⟩ : ∃ w, j = sN S x * wd + w := ⟨j - sN S x * wd, by omega⟩
    rw [hj] at E
    rw [hj]
    dsimp only at E
    rw [show sN S x * wd + w - sN S x * wd = w by omega] at E
    refine e_aload_n C d_C_reach_16 rfl ?_
    refine e_aload_n C d_C_reach_17 rfl ?_
    refine e_get C 0 (k := 0) in_C g264 d_C_reach_18 rfl rfl rfl rfl ?_
    refine e_iload_n C d_C_reach_21 rfl ?_
    refine e_cVi C hR 1 (k_Ways_setOf hC x) g316 g3 g465 g314 g315 d_C_reach_22 rfl ey_Ways_setOf rfl rfl rfl rfl ⟨Nat.zero_le _, Nat.zero_le _⟩ ?_
    refine e_iload C d_C_reach_25 rfl ?_
    refine e_iload_n C d_C_reach_27 rfl ?_
    refine e_cVi C hR 0 (k_C_useWay h.1 hs (show w < wd by omega) bit) g469 g1 g466 g468 (gt_sel 3 (by decide +kernel) (by decide +kernel)) d_C_reach_28 rfl ey_C_useWay rfl rfl rfl rfl ⟨Nat.zero_le _, Nat.zero_le _⟩ ?_
    exact e_iret C E d_C_reach_31 (Nat.le_refl _) (Nat.le_refl _) rfl ⟨rfl, rfl⟩
set_option maxRecDepth 100000 in
theorem k_C_perform (h : CI S wd V kd c) {hs : Nat} (hH : HD c.1 hs) (x : Int32) {p : Nat} (hp : p < 4) (wt : Int32) : Con l G y_C_perform c_C_perform 6 (some .int) (rz 5 124) [.ref (a 0), .int x, .int (nI p), .int wt] (wK G a c S wd V kd) (DI (pfK S wd V kd c x p wt) (wK G a (pfS S wd V kd c x p wt) S wd V kd)) := by
  refine Con.of rfl rfl (fun X C E hR hl hnm => ?_)
  have h1 := ntS_CI h x
  have h2 := rhS_CI h1 x (bitI p) wt
  obtain ⟨q, hq, eq⟩ := rhS_kind S wd V kd (ntS c x) x (bitI p) wt
  have hcl : (pfK S wd V kd c x p wt).toNatClampNeg = q := by unfold pfK; rw [eq]; exact nI_clamp (by omega)
  unfold pfS at E
  rw [hcl] at E
  have eK : pfK S wd V kd c x p wt = nI q := eq
  have tail : ∀ c3 : CS, c3 = pf3 S wd V kd c x p wt → EW X G 6 0 0 34 [(0, .ref (a 0)), (5, .int (nI q))] [] (wK G a c3 S wd V kd) := by
    intro c3 e
    rw [← e, eK] at E
    refine e_aload_n C d_C_perform_34 rfl ?_
    refine e_dup C d_C_perform_35 rfl ?_
    refine e_get C 0 (k := 8) in_C g272 d_C_perform_36 rfl rfl rfl rfl ?_
    refine e_iconst C d_C_perform_39 (v := 1) (by decide) ?_
    refine e_iadd C d_C_perform_40 ?_
    refine e_put C 0 (k := 8) in_C tk_C nm_C g272 d_C_perform_41 rfl rfl rfl rfl rfl rfl rfl rfl ?_
    refine e_aload_n C d_C_perform_44 rfl ?_
    refine e_get C 0 (k := 5) in_C g269 d_C_perform_45 rfl rfl rfl rfl ?_
    refine e_iload C d_C_perform_48 rfl ?_
    refine e_dup2 C d_C_perform_50 rfl rfl ?_
    refine e_iald C 20 0 d_C_perform_51 rfl rfl q rfl (by omega) (by omega) ?_
    refine e_iconst C d_C_perform_52 (v := 1) (by decide) ?_
    refine e_iadd C d_C_perform_53 ?_
    refine e_iast C 20 0 d_C_perform_54 rfl rfl q rfl (by omega) (by omega) ?_
    refine e_eq (wK_of (c := c3) (c' := (upd c3.1 2 (c3.1 2 + 1), up2 c3.2 20 (upd (c3.2 20) q (c3.2 20 q + 1)))) ⟨⟨rfl, rfl, rfl, rfl, rfl, rfl, rfl⟩, rfl, rfl, rfl⟩ G a S wd V kd) ?_
    refine e_iload C d_C_perform_55 rfl ?_
    exact e_iret C E d_C_perform_57 (Nat.le_refl _) (Nat.le_refl _) rfl ⟨rfl, rfl⟩
  refine e_iconst C d_C_perform_0 (v := 1) (by decide) ?_
  refine e_iload_n C d_C_perform_1 rfl ?_
  refine e_ishl C d_C_perform_2 ?_
  refine e_istore C d_C_perform_3 rfl ?_
  refine e_aload_n C d_C_perform_5 rfl ?_
  refine e_get C 0 (k := 4) in_C g268 d_C_perform_6 rfl rfl rfl rfl ?_
  refine e_iload_n C d_C_perform_9 rfl ?_
  refine e_cVv C hR 17 (k_Hist_note hH x) g459 g13 g456 g457 g458 d_C_perform_10 rfl ey_Hist_note rfl rfl rfl rfl ⟨Nat.zero_le _, Nat.zero_le _⟩ ?_
  refine e_eq (ws' := wK G a (ntS c x) S wd V kd) (by rw [← wK_of (ntS_RA c x) G a S wd V kd]; unfold ntS; rw [nh_eq hH]) ?_
  refine e_aload_n C d_C_perform_13 rfl ?_
  refine e_iload_n C d_C_perform_14 rfl ?_
  refine e_iload C d_C_perform_15 rfl ?_
  refine e_iload_n C d_C_perform_17 rfl ?_
  refine e_cVi C hR 0 (k_C_reach h1 x (bitI_NB hp) wt) g464 g1 g461 g463 (gt_sel 2 (by decide +kernel) (by decide +kernel)) d_C_perform_18 rfl ey_C_reach rfl rfl rfl rfl ⟨Nat.zero_le _, Nat.zero_le _⟩ ?_
  refine e_top eq ?_
  refine e_istore C d_C_perform_21 rfl ?_
  refine e_iload_n C d_C_perform_23 rfl ?_
  refine e_if_eq C d_C_perform_24 (tgt := 34) (by decide) (fun h24 => ?_) (fun h24 => ?_)
  · refine e_lv2 (tail _ ?_) rfl
    simp only [pf3, if_pos h24]
  · obtain ⟨z, hz⟩ := h2.2.1
    refine e_aload_n C d_C_perform_27 rfl ?_
    refine e_iload_n C d_C_perform_28 rfl ?_
    refine e_iload C d_C_perform_29 rfl ?_
    refine e_cVv C hR 0 (k_C_writePart h2.1.1 hz x (bitI p)) g609 g1 g606 g608 (gt_sel 10 (by decide +kernel) (by decide +kernel)) d_C_perform_31 rfl ey_C_writePart rfl rfl rfl rfl ⟨Nat.zero_le _, Nat.zero_le _⟩ ?_
    refine e_eq (wK_of (wpS_RA S wd (rhS S wd V kd (ntS c x) x (bitI p) wt).1 x (bitI p)) G a S wd V kd) ?_
    refine e_lv2 (tail _ ?_) rfl
    simp only [pf3, if_neg h24]
end CPriv
