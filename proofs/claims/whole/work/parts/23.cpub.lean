/-! THE CLASS'S PUBLIC METHODS, where they return -/
theorem ey_C_mode : eY y_C_mode 2 = true := by decide +kernel
theorem d_C_mode_0 : decode c_C_mode 0 = .ok (.aload_n 0, 1) := by decide +kernel
theorem d_C_mode_1 : decode c_C_mode 1 = .ok (.getfield 59, 3) := by decide +kernel
theorem d_C_mode_4 : decode c_C_mode 4 = .ok (.ifCond .eq 7, 3) := by decide +kernel
theorem d_C_mode_7 : decode c_C_mode 7 = .ok (.iconst 1, 1) := by decide +kernel
theorem d_C_mode_8 : decode c_C_mode 8 = .ok (.goto 4, 3) := by decide +kernel
theorem d_C_mode_11 : decode c_C_mode 11 = .ok (.iconst 0, 1) := by decide +kernel
theorem d_C_mode_12 : decode c_C_mode 12 = .ok (.aload_n 0, 1) := by decide +kernel
theorem d_C_mode_13 : decode c_C_mode 13 = .ok (.getfield 63, 3) := by decide +kernel
theorem d_C_mode_16 : decode c_C_mode 16 = .ok (.ifCond .eq 7, 3) := by decide +kernel
theorem d_C_mode_19 : decode c_C_mode 19 = .ok (.iconst 2, 1) := by decide +kernel
theorem d_C_mode_20 : decode c_C_mode 20 = .ok (.goto 4, 3) := by decide +kernel
theorem d_C_mode_23 : decode c_C_mode 23 = .ok (.iconst 0, 1) := by decide +kernel
theorem d_C_mode_24 : decode c_C_mode 24 = .ok (.iadd, 1) := by decide +kernel
theorem d_C_mode_25 : decode c_C_mode 25 = .ok (.istore_n 3, 1) := by decide +kernel
theorem d_C_mode_26 : decode c_C_mode 26 = .ok (.aload_n 0, 1) := by decide +kernel
theorem d_C_mode_27 : decode c_C_mode 27 = .ok (.iload_n 1, 1) := by decide +kernel
theorem d_C_mode_28 : decode c_C_mode 28 = .ok (.putfield 59, 3) := by decide +kernel
theorem d_C_mode_31 : decode c_C_mode 31 = .ok (.aload_n 0, 1) := by decide +kernel
theorem d_C_mode_32 : decode c_C_mode 32 = .ok (.iload_n 2, 1) := by decide +kernel
theorem d_C_mode_33 : decode c_C_mode 33 = .ok (.putfield 63, 3) := by decide +kernel
theorem d_C_mode_36 : decode c_C_mode 36 = .ok (.iload_n 3, 1) := by decide +kernel
theorem d_C_mode_37 : decode c_C_mode 37 = .ok (.ireturn, 1) := by decide +kernel
theorem ey_C_lock : eY y_C_lock 2 = true := by decide +kernel
theorem d_C_lock_0 : decode c_C_lock 0 = .ok (.aload_n 0, 1) := by decide +kernel
theorem d_C_lock_1 : decode c_C_lock 1 = .ok (.getfield 18, 3) := by decide +kernel
theorem d_C_lock_4 : decode c_C_lock 4 = .ok (.iload_n 1, 1) := by decide +kernel
theorem d_C_lock_5 : decode c_C_lock 5 = .ok (.invokevirtual 101, 3) := by decide +kernel
theorem d_C_lock_8 : decode c_C_lock 8 = .ok (.istore_n 3, 1) := by decide +kernel
theorem d_C_lock_9 : decode c_C_lock 9 = .ok (.iload_n 3, 1) := by decide +kernel
theorem d_C_lock_10 : decode c_C_lock 10 = .ok (.iconst (-1), 1) := by decide +kernel
theorem d_C_lock_11 : decode c_C_lock 11 = .ok (.if_icmp .eq 16, 3) := by decide +kernel
theorem d_C_lock_14 : decode c_C_lock 14 = .ok (.aload_n 0, 1) := by decide +kernel
theorem d_C_lock_15 : decode c_C_lock 15 = .ok (.getfield 18, 3) := by decide +kernel
theorem d_C_lock_18 : decode c_C_lock 18 = .ok (.getfield 144, 3) := by decide +kernel
theorem d_C_lock_21 : decode c_C_lock 21 = .ok (.iload_n 3, 1) := by decide +kernel
theorem d_C_lock_22 : decode c_C_lock 22 = .ok (.baload, 1) := by decide +kernel
theorem d_C_lock_23 : decode c_C_lock 23 = .ok (.iload_n 2, 1) := by decide +kernel
theorem d_C_lock_24 : decode c_C_lock 24 = .ok (.if_icmp .ne 5, 3) := by decide +kernel
theorem d_C_lock_27 : decode c_C_lock 27 = .ok (.iconst 0, 1) := by decide +kernel
theorem d_C_lock_28 : decode c_C_lock 28 = .ok (.ireturn, 1) := by decide +kernel
theorem d_C_lock_29 : decode c_C_lock 29 = .ok (.aload_n 0, 1) := by decide +kernel
theorem d_C_lock_30 : decode c_C_lock 30 = .ok (.getfield 18, 3) := by decide +kernel
theorem d_C_lock_33 : decode c_C_lock 33 = .ok (.getfield 144, 3) := by decide +kernel
theorem d_C_lock_36 : decode c_C_lock 36 = .ok (.iload_n 3, 1) := by decide +kernel
theorem d_C_lock_37 : decode c_C_lock 37 = .ok (.iload_n 2, 1) := by decide +kernel
theorem d_C_lock_38 : decode c_C_lock 38 = .ok (.bastore, 1) := by decide +kernel
theorem d_C_lock_39 : decode c_C_lock 39 = .ok (.iconst 1, 1) := by decide +kernel
theorem d_C_lock_40 : decode c_C_lock 40 = .ok (.ireturn, 1) := by decide +kernel
theorem ey_C_clean : eY y_C_clean 1 = true := by decide +kernel
theorem d_C_clean_0 : decode c_C_clean 0 = .ok (.iconst 0, 1) := by decide +kernel
theorem d_C_clean_1 : decode c_C_clean 1 = .ok (.istore_n 2, 1) := by decide +kernel
theorem d_C_clean_2 : decode c_C_clean 2 = .ok (.aload_n 0, 1) := by decide +kernel
theorem d_C_clean_3 : decode c_C_clean 3 = .ok (.getfield 18, 3) := by decide +kernel
theorem d_C_clean_6 : decode c_C_clean 6 = .ok (.iload_n 1, 1) := by decide +kernel
theorem d_C_clean_7 : decode c_C_clean 7 = .ok (.invokevirtual 101, 3) := by decide +kernel
theorem d_C_clean_10 : decode c_C_clean 10 = .ok (.istore_n 3, 1) := by decide +kernel
theorem d_C_clean_11 : decode c_C_clean 11 = .ok (.aload_n 0, 1) := by decide +kernel
theorem d_C_clean_12 : decode c_C_clean 12 = .ok (.getfield 29, 3) := by decide +kernel
theorem d_C_clean_15 : decode c_C_clean 15 = .ok (.iload_n 1, 1) := by decide +kernel
theorem d_C_clean_16 : decode c_C_clean 16 = .ok (.invokevirtual 148, 3) := by decide +kernel
theorem d_C_clean_19 : decode c_C_clean 19 = .ok (.istore 4, 2) := by decide +kernel
theorem d_C_clean_21 : decode c_C_clean 21 = .ok (.iload_n 3, 1) := by decide +kernel
theorem d_C_clean_22 : decode c_C_clean 22 = .ok (.iconst (-1), 1) := by decide +kernel
theorem d_C_clean_23 : decode c_C_clean 23 = .ok (.if_icmp .eq 15, 3) := by decide +kernel
theorem d_C_clean_26 : decode c_C_clean 26 = .ok (.aload_n 0, 1) := by decide +kernel
theorem d_C_clean_27 : decode c_C_clean 27 = .ok (.getfield 18, 3) := by decide +kernel
theorem d_C_clean_30 : decode c_C_clean 30 = .ok (.iload_n 3, 1) := by decide +kernel
theorem d_C_clean_31 : decode c_C_clean 31 = .ok (.invokevirtual 149, 3) := by decide +kernel
theorem d_C_clean_34 : decode c_C_clean 34 = .ok (.istore_n 2, 1) := by decide +kernel
theorem d_C_clean_35 : decode c_C_clean 35 = .ok (.goto 19, 3) := by decide +kernel
theorem d_C_clean_38 : decode c_C_clean 38 = .ok (.iload 4, 2) := by decide +kernel
theorem d_C_clean_40 : decode c_C_clean 40 = .ok (.iconst (-1), 1) := by decide +kernel
theorem d_C_clean_41 : decode c_C_clean 41 = .ok (.if_icmp .eq 13, 3) := by decide +kernel
theorem d_C_clean_44 : decode c_C_clean 44 = .ok (.aload_n 0, 1) := by decide +kernel
theorem d_C_clean_45 : decode c_C_clean 45 = .ok (.getfield 29, 3) := by decide +kernel
theorem d_C_clean_48 : decode c_C_clean 48 = .ok (.iload 4, 2) := by decide +kernel
theorem d_C_clean_50 : decode c_C_clean 50 = .ok (.invokevirtual 152, 3) := by decide +kernel
theorem d_C_clean_53 : decode c_C_clean 53 = .ok (.istore_n 2, 1) := by decide +kernel
theorem d_C_clean_54 : decode c_C_clean 54 = .ok (.aload_n 0, 1) := by decide +kernel
theorem d_C_clean_55 : decode c_C_clean 55 = .ok (.dup, 1) := by decide +kernel
theorem d_C_clean_56 : decode c_C_clean 56 = .ok (.getfield 155, 3) := by decide +kernel
theorem d_C_clean_59 : decode c_C_clean 59 = .ok (.iload_n 2, 1) := by decide +kernel
theorem d_C_clean_60 : decode c_C_clean 60 = .ok (.iadd, 1) := by decide +kernel
theorem d_C_clean_61 : decode c_C_clean 61 = .ok (.putfield 155, 3) := by decide +kernel
theorem d_C_clean_64 : decode c_C_clean 64 = .ok (.iload_n 2, 1) := by decide +kernel
theorem d_C_clean_65 : decode c_C_clean 65 = .ok (.ireturn, 1) := by decide +kernel
theorem ey_C_cleanAll : eY y_C_cleanAll 0 = true := by decide +kernel
theorem d_C_cleanAll_0 : decode c_C_cleanAll 0 = .ok (.iconst 0, 1) := by decide +kernel
theorem d_C_cleanAll_1 : decode c_C_cleanAll 1 = .ok (.istore_n 1, 1) := by decide +kernel
theorem d_C_cleanAll_2 : decode c_C_cleanAll 2 = .ok (.iconst 0, 1) := by decide +kernel
theorem d_C_cleanAll_3 : decode c_C_cleanAll 3 = .ok (.istore_n 2, 1) := by decide +kernel
theorem d_C_cleanAll_4 : decode c_C_cleanAll 4 = .ok (.iload_n 2, 1) := by decide +kernel
theorem d_C_cleanAll_5 : decode c_C_cleanAll 5 = .ok (.aload_n 0, 1) := by decide +kernel
theorem d_C_cleanAll_6 : decode c_C_cleanAll 6 = .ok (.getfield 18, 3) := by decide +kernel
theorem d_C_cleanAll_9 : decode c_C_cleanAll 9 = .ok (.getfield 158, 3) := by decide +kernel
theorem d_C_cleanAll_12 : decode c_C_cleanAll 12 = .ok (.if_icmp .ge 20, 3) := by decide +kernel
theorem d_C_cleanAll_15 : decode c_C_cleanAll 15 = .ok (.iload_n 1, 1) := by decide +kernel
theorem d_C_cleanAll_16 : decode c_C_cleanAll 16 = .ok (.aload_n 0, 1) := by decide +kernel
theorem d_C_cleanAll_17 : decode c_C_cleanAll 17 = .ok (.getfield 18, 3) := by decide +kernel
theorem d_C_cleanAll_20 : decode c_C_cleanAll 20 = .ok (.iload_n 2, 1) := by decide +kernel
theorem d_C_cleanAll_21 : decode c_C_cleanAll 21 = .ok (.invokevirtual 149, 3) := by decide +kernel
theorem d_C_cleanAll_24 : decode c_C_cleanAll 24 = .ok (.iadd, 1) := by decide +kernel
theorem d_C_cleanAll_25 : decode c_C_cleanAll 25 = .ok (.istore_n 1, 1) := by decide +kernel
theorem d_C_cleanAll_26 : decode c_C_cleanAll 26 = .ok (.iinc 2 1, 3) := by decide +kernel
theorem d_C_cleanAll_29 : decode c_C_cleanAll 29 = .ok (.goto (-25), 3) := by decide +kernel
theorem d_C_cleanAll_32 : decode c_C_cleanAll 32 = .ok (.iconst 0, 1) := by decide +kernel
theorem d_C_cleanAll_33 : decode c_C_cleanAll 33 = .ok (.istore_n 2, 1) := by decide +kernel
theorem d_C_cleanAll_34 : decode c_C_cleanAll 34 = .ok (.iload_n 2, 1) := by decide +kernel
theorem d_C_cleanAll_35 : decode c_C_cleanAll 35 = .ok (.aload_n 0, 1) := by decide +kernel
theorem d_C_cleanAll_36 : decode c_C_cleanAll 36 = .ok (.getfield 29, 3) := by decide +kernel
theorem d_C_cleanAll_39 : decode c_C_cleanAll 39 = .ok (.getfield 161, 3) := by decide +kernel
theorem d_C_cleanAll_42 : decode c_C_cleanAll 42 = .ok (.if_icmp .ge 20, 3) := by decide +kernel
theorem d_C_cleanAll_45 : decode c_C_cleanAll 45 = .ok (.iload_n 1, 1) := by decide +kernel
theorem d_C_cleanAll_46 : decode c_C_cleanAll 46 = .ok (.aload_n 0, 1) := by decide +kernel
theorem d_C_cleanAll_47 : decode c_C_cleanAll 47 = .ok (.getfield 29, 3) := by decide +kernel
theorem d_C_cleanAll_50 : decode c_C_cleanAll 50 = .ok (.iload_n 2, 1) := by decide +kernel
theorem d_C_cleanAll_51 : decode c_C_cleanAll 51 = .ok (.invokevirtual 152, 3) := by decide +kernel
theorem d_C_cleanAll_54 : decode c_C_cleanAll 54 = .ok (.iadd, 1) := by decide +kernel
theorem d_C_cleanAll_55 : decode c_C_cleanAll 55 = .ok (.istore_n 1, 1) := by decide +kernel
theorem d_C_cleanAll_56 : decode c_C_cleanAll 56 = .ok (.iinc 2 1, 3) := by decide +kernel
theorem d_C_cleanAll_59 : decode c_C_cleanAll 59 = .ok (.goto (-25), 3) := by decide +kernel
theorem d_C_cleanAll_62 : decode c_C_cleanAll 62 = .ok (.aload_n 0, 1) := by decide +kernel
theorem d_C_cleanAll_63 : decode c_C_cleanAll 63 = .ok (.dup, 1) := by decide +kernel
theorem d_C_cleanAll_64 : decode c_C_cleanAll 64 = .ok (.getfield 155, 3) := by decide +kernel
theorem d_C_cleanAll_67 : decode c_C_cleanAll 67 = .ok (.iload_n 1, 1) := by decide +kernel
theorem d_C_cleanAll_68 : decode c_C_cleanAll 68 = .ok (.iadd, 1) := by decide +kernel
theorem d_C_cleanAll_69 : decode c_C_cleanAll 69 = .ok (.putfield 155, 3) := by decide +kernel
theorem d_C_cleanAll_72 : decode c_C_cleanAll 72 = .ok (.iload_n 1, 1) := by decide +kernel
theorem d_C_cleanAll_73 : decode c_C_cleanAll 73 = .ok (.ireturn, 1) := by decide +kernel
theorem ey_C_drop : eY y_C_drop 1 = true := by decide +kernel
theorem d_C_drop_0 : decode c_C_drop 0 = .ok (.aload_n 0, 1) := by decide +kernel
theorem d_C_drop_1 : decode c_C_drop 1 = .ok (.getfield 18, 3) := by decide +kernel
theorem d_C_drop_4 : decode c_C_drop 4 = .ok (.iload_n 1, 1) := by decide +kernel
theorem d_C_drop_5 : decode c_C_drop 5 = .ok (.invokevirtual 101, 3) := by decide +kernel
theorem d_C_drop_8 : decode c_C_drop 8 = .ok (.istore_n 2, 1) := by decide +kernel
theorem d_C_drop_9 : decode c_C_drop 9 = .ok (.iload_n 2, 1) := by decide +kernel
theorem d_C_drop_10 : decode c_C_drop 10 = .ok (.iconst (-1), 1) := by decide +kernel
theorem d_C_drop_11 : decode c_C_drop 11 = .ok (.if_icmp .eq 26, 3) := by decide +kernel
theorem d_C_drop_14 : decode c_C_drop 14 = .ok (.aload_n 0, 1) := by decide +kernel
theorem d_C_drop_15 : decode c_C_drop 15 = .ok (.getfield 18, 3) := by decide +kernel
theorem d_C_drop_18 : decode c_C_drop 18 = .ok (.getfield 164, 3) := by decide +kernel
theorem d_C_drop_21 : decode c_C_drop 21 = .ok (.iload_n 2, 1) := by decide +kernel
theorem d_C_drop_22 : decode c_C_drop 22 = .ok (.iaload, 1) := by decide +kernel
theorem d_C_drop_23 : decode c_C_drop 23 = .ok (.invokestatic 167, 3) := by decide +kernel
theorem d_C_drop_26 : decode c_C_drop 26 = .ok (.istore_n 3, 1) := by decide +kernel
theorem d_C_drop_27 : decode c_C_drop 27 = .ok (.aload_n 0, 1) := by decide +kernel
theorem d_C_drop_28 : decode c_C_drop 28 = .ok (.getfield 18, 3) := by decide +kernel
theorem d_C_drop_31 : decode c_C_drop 31 = .ok (.iload_n 2, 1) := by decide +kernel
theorem d_C_drop_32 : decode c_C_drop 32 = .ok (.invokevirtual 172, 3) := by decide +kernel
theorem d_C_drop_35 : decode c_C_drop 35 = .ok (.iload_n 3, 1) := by decide +kernel
theorem d_C_drop_36 : decode c_C_drop 36 = .ok (.ireturn, 1) := by decide +kernel
theorem d_C_drop_37 : decode c_C_drop 37 = .ok (.aload_n 0, 1) := by decide +kernel
theorem d_C_drop_38 : decode c_C_drop 38 = .ok (.getfield 29, 3) := by decide +kernel
theorem d_C_drop_41 : decode c_C_drop 41 = .ok (.iload_n 1, 1) := by decide +kernel
theorem d_C_drop_42 : decode c_C_drop 42 = .ok (.invokevirtual 148, 3) := by decide +kernel
theorem d_C_drop_45 : decode c_C_drop 45 = .ok (.istore_n 3, 1) := by decide +kernel
theorem d_C_drop_46 : decode c_C_drop 46 = .ok (.iload_n 3, 1) := by decide +kernel
theorem d_C_drop_47 : decode c_C_drop 47 = .ok (.iconst (-1), 1) := by decide +kernel
theorem d_C_drop_48 : decode c_C_drop 48 = .ok (.if_icmp .eq 28, 3) := by decide +kernel
theorem d_C_drop_51 : decode c_C_drop 51 = .ok (.aload_n 0, 1) := by decide +kernel
theorem d_C_drop_52 : decode c_C_drop 52 = .ok (.getfield 29, 3) := by decide +kernel
theorem d_C_drop_55 : decode c_C_drop 55 = .ok (.getfield 175, 3) := by decide +kernel
theorem d_C_drop_58 : decode c_C_drop 58 = .ok (.iload_n 3, 1) := by decide +kernel
theorem d_C_drop_59 : decode c_C_drop 59 = .ok (.iaload, 1) := by decide +kernel
theorem d_C_drop_60 : decode c_C_drop 60 = .ok (.invokestatic 167, 3) := by decide +kernel
theorem d_C_drop_63 : decode c_C_drop 63 = .ok (.istore 4, 2) := by decide +kernel
theorem d_C_drop_65 : decode c_C_drop 65 = .ok (.aload_n 0, 1) := by decide +kernel
theorem d_C_drop_66 : decode c_C_drop 66 = .ok (.getfield 29, 3) := by decide +kernel
theorem d_C_drop_69 : decode c_C_drop 69 = .ok (.iload_n 3, 1) := by decide +kernel
theorem d_C_drop_70 : decode c_C_drop 70 = .ok (.invokevirtual 176, 3) := by decide +kernel
theorem d_C_drop_73 : decode c_C_drop 73 = .ok (.iload 4, 2) := by decide +kernel
theorem d_C_drop_75 : decode c_C_drop 75 = .ok (.ireturn, 1) := by decide +kernel
theorem d_C_drop_76 : decode c_C_drop 76 = .ok (.iconst (-1), 1) := by decide +kernel
theorem d_C_drop_77 : decode c_C_drop 77 = .ok (.ireturn, 1) := by decide +kernel
theorem ey_C_distance : eY y_C_distance 1 = true := by decide +kernel
theorem d_C_distance_0 : decode c_C_distance 0 = .ok (.aload_n 0, 1) := by decide +kernel
theorem d_C_distance_1 : decode c_C_distance 1 = .ok (.getfield 51, 3) := by decide +kernel
theorem d_C_distance_4 : decode c_C_distance 4 = .ok (.iload_n 1, 1) := by decide +kernel
theorem d_C_distance_5 : decode c_C_distance 5 = .ok (.invokevirtual 218, 3) := by decide +kernel
theorem d_C_distance_8 : decode c_C_distance 8 = .ok (.ireturn, 1) := by decide +kernel
theorem ey_C_count : eY y_C_count 1 = true := by decide +kernel
theorem d_C_count_0 : decode c_C_count 0 = .ok (.iload_n 1, 1) := by decide +kernel
theorem d_C_count_1 : decode c_C_count 1 = .ok (.iconst 1, 1) := by decide +kernel
theorem d_C_count_2 : decode c_C_count 2 = .ok (.if_icmp .lt 17, 3) := by decide +kernel
theorem d_C_count_5 : decode c_C_count 5 = .ok (.iload_n 1, 1) := by decide +kernel
theorem d_C_count_6 : decode c_C_count 6 = .ok (.iconst 5, 1) := by decide +kernel
theorem d_C_count_7 : decode c_C_count 7 = .ok (.if_icmp .gt 12, 3) := by decide +kernel
theorem d_C_count_10 : decode c_C_count 10 = .ok (.aload_n 0, 1) := by decide +kernel
theorem d_C_count_11 : decode c_C_count 11 = .ok (.getfield 55, 3) := by decide +kernel
theorem d_C_count_14 : decode c_C_count 14 = .ok (.iload_n 1, 1) := by decide +kernel
theorem d_C_count_15 : decode c_C_count 15 = .ok (.iconst 1, 1) := by decide +kernel
theorem d_C_count_16 : decode c_C_count 16 = .ok (.isub, 1) := by decide +kernel
theorem d_C_count_17 : decode c_C_count 17 = .ok (.iaload, 1) := by decide +kernel
theorem d_C_count_18 : decode c_C_count 18 = .ok (.ireturn, 1) := by decide +kernel
theorem d_C_count_19 : decode c_C_count 19 = .ok (.iload_n 1, 1) := by decide +kernel
theorem d_C_count_20 : decode c_C_count 20 = .ok (.tableswitch 132 0 13 #[72, 132, 132, 132, 132, 132, 77, 82, 87, 92, 100, 108, 116, 124], 72) := by decide +kernel
theorem d_C_count_92 : decode c_C_count 92 = .ok (.aload_n 0, 1) := by decide +kernel
theorem d_C_count_93 : decode c_C_count 93 = .ok (.getfield 219, 3) := by decide +kernel
theorem d_C_count_96 : decode c_C_count 96 = .ok (.ireturn, 1) := by decide +kernel
theorem d_C_count_97 : decode c_C_count 97 = .ok (.aload_n 0, 1) := by decide +kernel
theorem d_C_count_98 : decode c_C_count 98 = .ok (.getfield 222, 3) := by decide +kernel
theorem d_C_count_101 : decode c_C_count 101 = .ok (.ireturn, 1) := by decide +kernel
theorem d_C_count_102 : decode c_C_count 102 = .ok (.aload_n 0, 1) := by decide +kernel
theorem d_C_count_103 : decode c_C_count 103 = .ok (.getfield 155, 3) := by decide +kernel
theorem d_C_count_106 : decode c_C_count 106 = .ok (.ireturn, 1) := by decide +kernel
theorem d_C_count_107 : decode c_C_count 107 = .ok (.aload_n 0, 1) := by decide +kernel
theorem d_C_count_108 : decode c_C_count 108 = .ok (.getfield 225, 3) := by decide +kernel
theorem d_C_count_111 : decode c_C_count 111 = .ok (.ireturn, 1) := by decide +kernel
theorem d_C_count_112 : decode c_C_count 112 = .ok (.aload_n 0, 1) := by decide +kernel
theorem d_C_count_113 : decode c_C_count 113 = .ok (.getfield 29, 3) := by decide +kernel
theorem d_C_count_116 : decode c_C_count 116 = .ok (.getfield 161, 3) := by decide +kernel
theorem d_C_count_119 : decode c_C_count 119 = .ok (.ireturn, 1) := by decide +kernel
theorem d_C_count_120 : decode c_C_count 120 = .ok (.aload_n 0, 1) := by decide +kernel
theorem d_C_count_121 : decode c_C_count 121 = .ok (.getfield 44, 3) := by decide +kernel
theorem d_C_count_124 : decode c_C_count 124 = .ok (.getfield 228, 3) := by decide +kernel
theorem d_C_count_127 : decode c_C_count 127 = .ok (.ireturn, 1) := by decide +kernel
theorem d_C_count_128 : decode c_C_count 128 = .ok (.aload_n 0, 1) := by decide +kernel
theorem d_C_count_129 : decode c_C_count 129 = .ok (.getfield 44, 3) := by decide +kernel
theorem d_C_count_132 : decode c_C_count 132 = .ok (.getfield 120, 3) := by decide +kernel
theorem d_C_count_135 : decode c_C_count 135 = .ok (.ireturn, 1) := by decide +kernel
theorem d_C_count_136 : decode c_C_count 136 = .ok (.aload_n 0, 1) := by decide +kernel
theorem d_C_count_137 : decode c_C_count 137 = .ok (.getfield 18, 3) := by decide +kernel
theorem d_C_count_140 : decode c_C_count 140 = .ok (.getfield 179, 3) := by decide +kernel
theorem d_C_count_143 : decode c_C_count 143 = .ok (.ireturn, 1) := by decide +kernel
theorem d_C_count_144 : decode c_C_count 144 = .ok (.aload_n 0, 1) := by decide +kernel
theorem d_C_count_145 : decode c_C_count 145 = .ok (.getfield 18, 3) := by decide +kernel
theorem d_C_count_148 : decode c_C_count 148 = .ok (.getfield 182, 3) := by decide +kernel
theorem d_C_count_151 : decode c_C_count 151 = .ok (.ireturn, 1) := by decide +kernel
theorem d_C_count_152 : decode c_C_count 152 = .ok (.iconst (-1), 1) := by decide +kernel
theorem d_C_count_153 : decode c_C_count 153 = .ok (.ireturn, 1) := by decide +kernel
theorem ey_C_isNoPart : eY y_C_isNoPart 1 = true := by decide +kernel
theorem d_C_isNoPart_0 : decode c_C_isNoPart 0 = .ok (.iload_n 0, 1) := by decide +kernel
theorem d_C_isNoPart_1 : decode c_C_isNoPart 1 = .ok (.ifCond .lt 8, 3) := by decide +kernel
theorem d_C_isNoPart_4 : decode c_C_isNoPart 4 = .ok (.iload_n 0, 1) := by decide +kernel
theorem d_C_isNoPart_5 : decode c_C_isNoPart 5 = .ok (.iconst 4, 1) := by decide +kernel
theorem d_C_isNoPart_6 : decode c_C_isNoPart 6 = .ok (.if_icmp .lt 7, 3) := by decide +kernel
theorem d_C_isNoPart_9 : decode c_C_isNoPart 9 = .ok (.iconst 1, 1) := by decide +kernel
theorem d_C_isNoPart_10 : decode c_C_isNoPart 10 = .ok (.goto 4, 3) := by decide +kernel
theorem d_C_isNoPart_13 : decode c_C_isNoPart 13 = .ok (.iconst 0, 1) := by decide +kernel
theorem d_C_isNoPart_14 : decode c_C_isNoPart 14 = .ok (.ireturn, 1) := by decide +kernel
theorem ey_C_access : eY y_C_access 3 = true := by decide +kernel
theorem d_C_access_0 : decode c_C_access 0 = .ok (.iload_n 2, 1) := by decide +kernel
theorem d_C_access_1 : decode c_C_access 1 = .ok (.invokestatic 86, 3) := by decide +kernel
theorem d_C_access_4 : decode c_C_access 4 = .ok (.ifCond .eq 13, 3) := by decide +kernel
theorem d_C_access_7 : decode c_C_access 7 = .ok (.new 90, 3) := by decide +kernel
theorem d_C_access_10 : decode c_C_access 10 = .ok (.dup, 1) := by decide +kernel
theorem d_C_access_11 : decode c_C_access 11 = .ok (.ldc 92, 2) := by decide +kernel
theorem d_C_access_13 : decode c_C_access 13 = .ok (.invokespecial 94, 3) := by decide +kernel
theorem d_C_access_16 : decode c_C_access 16 = .ok (.athrow, 1) := by decide +kernel
theorem d_C_access_17 : decode c_C_access 17 = .ok (.aload_n 0, 1) := by decide +kernel
theorem d_C_access_18 : decode c_C_access 18 = .ok (.iload_n 1, 1) := by decide +kernel
theorem d_C_access_19 : decode c_C_access 19 = .ok (.iload_n 2, 1) := by decide +kernel
theorem d_C_access_20 : decode c_C_access 20 = .ok (.iload_n 3, 1) := by decide +kernel
theorem d_C_access_21 : decode c_C_access 21 = .ok (.invokevirtual 97, 3) := by decide +kernel
theorem d_C_access_24 : decode c_C_access 24 = .ok (.ireturn, 1) := by decide +kernel
theorem ey_C_ask : eY y_C_ask 2 = true := by decide +kernel
theorem d_C_ask_0 : decode c_C_ask 0 = .ok (.iload_n 2, 1) := by decide +kernel
theorem d_C_ask_1 : decode c_C_ask 1 = .ok (.invokestatic 86, 3) := by decide +kernel
theorem d_C_ask_4 : decode c_C_ask 4 = .ok (.ifCond .eq 13, 3) := by decide +kernel
theorem d_C_ask_7 : decode c_C_ask 7 = .ok (.new 90, 3) := by decide +kernel
theorem d_C_ask_10 : decode c_C_ask 10 = .ok (.dup, 1) := by decide +kernel
theorem d_C_ask_11 : decode c_C_ask 11 = .ok (.ldc 92, 2) := by decide +kernel
theorem d_C_ask_13 : decode c_C_ask 13 = .ok (.invokespecial 94, 3) := by decide +kernel
theorem d_C_ask_16 : decode c_C_ask 16 = .ok (.athrow, 1) := by decide +kernel
theorem d_C_ask_17 : decode c_C_ask 17 = .ok (.aload_n 0, 1) := by decide +kernel
theorem d_C_ask_18 : decode c_C_ask 18 = .ok (.getfield 18, 3) := by decide +kernel
theorem d_C_ask_21 : decode c_C_ask 21 = .ok (.iload_n 1, 1) := by decide +kernel
theorem d_C_ask_22 : decode c_C_ask 22 = .ok (.invokevirtual 101, 3) := by decide +kernel
theorem d_C_ask_25 : decode c_C_ask 25 = .ok (.istore_n 3, 1) := by decide +kernel
theorem d_C_ask_26 : decode c_C_ask 26 = .ok (.iload_n 3, 1) := by decide +kernel
theorem d_C_ask_27 : decode c_C_ask 27 = .ok (.iconst (-1), 1) := by decide +kernel
theorem d_C_ask_28 : decode c_C_ask 28 = .ok (.if_icmp .eq 29, 3) := by decide +kernel
theorem d_C_ask_31 : decode c_C_ask 31 = .ok (.aload_n 0, 1) := by decide +kernel
theorem d_C_ask_32 : decode c_C_ask 32 = .ok (.getfield 18, 3) := by decide +kernel
theorem d_C_ask_35 : decode c_C_ask 35 = .ok (.getfield 105, 3) := by decide +kernel
theorem d_C_ask_38 : decode c_C_ask 38 = .ok (.iload_n 3, 1) := by decide +kernel
theorem d_C_ask_39 : decode c_C_ask 39 = .ok (.iaload, 1) := by decide +kernel
theorem d_C_ask_40 : decode c_C_ask 40 = .ok (.iconst 1, 1) := by decide +kernel
theorem d_C_ask_41 : decode c_C_ask 41 = .ok (.iload_n 2, 1) := by decide +kernel
theorem d_C_ask_42 : decode c_C_ask 42 = .ok (.ishl, 1) := by decide +kernel
theorem d_C_ask_43 : decode c_C_ask 43 = .ok (.iand, 1) := by decide +kernel
theorem d_C_ask_44 : decode c_C_ask 44 = .ok (.ifCond .eq 13, 3) := by decide +kernel
theorem d_C_ask_47 : decode c_C_ask 47 = .ok (.aload_n 0, 1) := by decide +kernel
theorem d_C_ask_48 : decode c_C_ask 48 = .ok (.iload_n 1, 1) := by decide +kernel
theorem d_C_ask_49 : decode c_C_ask 49 = .ok (.iload_n 2, 1) := by decide +kernel
theorem d_C_ask_50 : decode c_C_ask 50 = .ok (.iconst 0, 1) := by decide +kernel
theorem d_C_ask_51 : decode c_C_ask 51 = .ok (.invokevirtual 97, 3) := by decide +kernel
theorem d_C_ask_54 : decode c_C_ask 54 = .ok (.pop, 1) := by decide +kernel
theorem d_C_ask_55 : decode c_C_ask 55 = .ok (.iconst 0, 1) := by decide +kernel
theorem d_C_ask_56 : decode c_C_ask 56 = .ok (.ireturn, 1) := by decide +kernel
theorem d_C_ask_57 : decode c_C_ask 57 = .ok (.aload_n 0, 1) := by decide +kernel
theorem d_C_ask_58 : decode c_C_ask 58 = .ok (.getfield 44, 3) := by decide +kernel
theorem d_C_ask_61 : decode c_C_ask 61 = .ok (.iload_n 1, 1) := by decide +kernel
theorem d_C_ask_62 : decode c_C_ask 62 = .ok (.invokevirtual 108, 3) := by decide +kernel
theorem d_C_ask_65 : decode c_C_ask 65 = .ok (.ifCond .ne 13, 3) := by decide +kernel
theorem d_C_ask_68 : decode c_C_ask 68 = .ok (.new 111, 3) := by decide +kernel
theorem d_C_ask_71 : decode c_C_ask 71 = .ok (.dup, 1) := by decide +kernel
theorem d_C_ask_72 : decode c_C_ask 72 = .ok (.ldc 113, 2) := by decide +kernel
theorem d_C_ask_74 : decode c_C_ask 74 = .ok (.invokespecial 115, 3) := by decide +kernel
theorem d_C_ask_77 : decode c_C_ask 77 = .ok (.athrow, 1) := by decide +kernel
theorem d_C_ask_78 : decode c_C_ask 78 = .ok (.aload_n 0, 1) := by decide +kernel
theorem d_C_ask_79 : decode c_C_ask 79 = .ok (.getfield 44, 3) := by decide +kernel
theorem d_C_ask_82 : decode c_C_ask 82 = .ok (.iload_n 1, 1) := by decide +kernel
theorem d_C_ask_83 : decode c_C_ask 83 = .ok (.iload_n 2, 1) := by decide +kernel
theorem d_C_ask_84 : decode c_C_ask 84 = .ok (.invokevirtual 116, 3) := by decide +kernel
theorem d_C_ask_87 : decode c_C_ask 87 = .ok (.ifCond .eq 7, 3) := by decide +kernel
theorem d_C_ask_90 : decode c_C_ask 90 = .ok (.iconst 1, 1) := by decide +kernel
theorem d_C_ask_91 : decode c_C_ask 91 = .ok (.goto 4, 3) := by decide +kernel
theorem d_C_ask_94 : decode c_C_ask 94 = .ok (.iconst 2, 1) := by decide +kernel
theorem d_C_ask_95 : decode c_C_ask 95 = .ok (.ireturn, 1) := by decide +kernel
theorem ey_C_answer : eY y_C_answer 0 = true := by decide +kernel
theorem d_C_answer_0 : decode c_C_answer 0 = .ok (.aload_n 0, 1) := by decide +kernel
theorem d_C_answer_1 : decode c_C_answer 1 = .ok (.getfield 44, 3) := by decide +kernel
theorem d_C_answer_4 : decode c_C_answer 4 = .ok (.getfield 120, 3) := by decide +kernel
theorem d_C_answer_7 : decode c_C_answer 7 = .ok (.ifCond .ne 13, 3) := by decide +kernel
theorem d_C_answer_10 : decode c_C_answer 10 = .ok (.new 124, 3) := by decide +kernel
theorem d_C_answer_13 : decode c_C_answer 13 = .ok (.dup, 1) := by decide +kernel
theorem d_C_answer_14 : decode c_C_answer 14 = .ok (.ldc 126, 2) := by decide +kernel
theorem d_C_answer_16 : decode c_C_answer 16 = .ok (.invokespecial 128, 3) := by decide +kernel
theorem d_C_answer_19 : decode c_C_answer 19 = .ok (.athrow, 1) := by decide +kernel
theorem d_C_answer_20 : decode c_C_answer 20 = .ok (.aload_n 0, 1) := by decide +kernel
theorem d_C_answer_21 : decode c_C_answer 21 = .ok (.getfield 44, 3) := by decide +kernel
theorem d_C_answer_24 : decode c_C_answer 24 = .ok (.invokevirtual 129, 3) := by decide +kernel
theorem d_C_answer_27 : decode c_C_answer 27 = .ok (.istore_n 1, 1) := by decide +kernel
theorem d_C_answer_28 : decode c_C_answer 28 = .ok (.iconst 0, 1) := by decide +kernel
theorem d_C_answer_29 : decode c_C_answer 29 = .ok (.istore_n 2, 1) := by decide +kernel
theorem d_C_answer_30 : decode c_C_answer 30 = .ok (.iload_n 2, 1) := by decide +kernel
theorem d_C_answer_31 : decode c_C_answer 31 = .ok (.aload_n 0, 1) := by decide +kernel
theorem d_C_answer_32 : decode c_C_answer 32 = .ok (.getfield 44, 3) := by decide +kernel
theorem d_C_answer_35 : decode c_C_answer 35 = .ok (.getfield 133, 3) := by decide +kernel
theorem d_C_answer_38 : decode c_C_answer 38 = .ok (.if_icmp .ge 33, 3) := by decide +kernel
theorem d_C_answer_41 : decode c_C_answer 41 = .ok (.aload_n 0, 1) := by decide +kernel
theorem d_C_answer_42 : decode c_C_answer 42 = .ok (.getfield 44, 3) := by decide +kernel
theorem d_C_answer_45 : decode c_C_answer 45 = .ok (.getfield 136, 3) := by decide +kernel
theorem d_C_answer_48 : decode c_C_answer 48 = .ok (.iload_n 2, 1) := by decide +kernel
theorem d_C_answer_49 : decode c_C_answer 49 = .ok (.aload_n 0, 1) := by decide +kernel
theorem d_C_answer_50 : decode c_C_answer 50 = .ok (.iload_n 1, 1) := by decide +kernel
theorem d_C_answer_51 : decode c_C_answer 51 = .ok (.aload_n 0, 1) := by decide +kernel
theorem d_C_answer_52 : decode c_C_answer 52 = .ok (.getfield 44, 3) := by decide +kernel
theorem d_C_answer_55 : decode c_C_answer 55 = .ok (.getfield 139, 3) := by decide +kernel
theorem d_C_answer_58 : decode c_C_answer 58 = .ok (.iload_n 2, 1) := by decide +kernel
theorem d_C_answer_59 : decode c_C_answer 59 = .ok (.iaload, 1) := by decide +kernel
theorem d_C_answer_60 : decode c_C_answer 60 = .ok (.iconst 0, 1) := by decide +kernel
theorem d_C_answer_61 : decode c_C_answer 61 = .ok (.invokevirtual 97, 3) := by decide +kernel
theorem d_C_answer_64 : decode c_C_answer 64 = .ok (.iastore, 1) := by decide +kernel
theorem d_C_answer_65 : decode c_C_answer 65 = .ok (.iinc 2 1, 3) := by decide +kernel
theorem d_C_answer_68 : decode c_C_answer 68 = .ok (.goto (-38), 3) := by decide +kernel
theorem d_C_answer_71 : decode c_C_answer 71 = .ok (.aload_n 0, 1) := by decide +kernel
theorem d_C_answer_72 : decode c_C_answer 72 = .ok (.getfield 44, 3) := by decide +kernel
theorem d_C_answer_75 : decode c_C_answer 75 = .ok (.getfield 133, 3) := by decide +kernel
theorem d_C_answer_78 : decode c_C_answer 78 = .ok (.ireturn, 1) := by decide +kernel
theorem ey_C_answered : eY y_C_answered 2 = true := by decide +kernel
theorem d_C_answered_0 : decode c_C_answered 0 = .ok (.iload_n 1, 1) := by decide +kernel
theorem d_C_answered_1 : decode c_C_answered 1 = .ok (.ifCond .lt 23, 3) := by decide +kernel
theorem d_C_answered_4 : decode c_C_answered 4 = .ok (.iload_n 1, 1) := by decide +kernel
theorem d_C_answered_5 : decode c_C_answered 5 = .ok (.aload_n 0, 1) := by decide +kernel
theorem d_C_answered_6 : decode c_C_answered 6 = .ok (.getfield 44, 3) := by decide +kernel
theorem d_C_answered_9 : decode c_C_answered 9 = .ok (.getfield 133, 3) := by decide +kernel
theorem d_C_answered_12 : decode c_C_answered 12 = .ok (.if_icmp .ge 12, 3) := by decide +kernel
theorem d_C_answered_15 : decode c_C_answered 15 = .ok (.iload_n 2, 1) := by decide +kernel
theorem d_C_answered_16 : decode c_C_answered 16 = .ok (.ifCond .lt 8, 3) := by decide +kernel
theorem d_C_answered_19 : decode c_C_answered 19 = .ok (.iload_n 2, 1) := by decide +kernel
theorem d_C_answered_20 : decode c_C_answered 20 = .ok (.iconst 1, 1) := by decide +kernel
theorem d_C_answered_21 : decode c_C_answered 21 = .ok (.if_icmp .le 13, 3) := by decide +kernel
theorem d_C_answered_24 : decode c_C_answered 24 = .ok (.new 90, 3) := by decide +kernel
theorem d_C_answered_27 : decode c_C_answered 27 = .ok (.dup, 1) := by decide +kernel
theorem d_C_answered_28 : decode c_C_answered 28 = .ok (.ldc 142, 2) := by decide +kernel
theorem d_C_answered_30 : decode c_C_answered 30 = .ok (.invokespecial 94, 3) := by decide +kernel
theorem d_C_answered_33 : decode c_C_answered 33 = .ok (.athrow, 1) := by decide +kernel
theorem d_C_answered_34 : decode c_C_answered 34 = .ok (.iload_n 2, 1) := by decide +kernel
theorem d_C_answered_35 : decode c_C_answered 35 = .ok (.ifCond .ne 15, 3) := by decide +kernel
theorem d_C_answered_38 : decode c_C_answered 38 = .ok (.aload_n 0, 1) := by decide +kernel
theorem d_C_answered_39 : decode c_C_answered 39 = .ok (.getfield 44, 3) := by decide +kernel
theorem d_C_answered_42 : decode c_C_answered 42 = .ok (.getfield 139, 3) := by decide +kernel
theorem d_C_answered_45 : decode c_C_answered 45 = .ok (.iload_n 1, 1) := by decide +kernel
theorem d_C_answered_46 : decode c_C_answered 46 = .ok (.iaload, 1) := by decide +kernel
theorem d_C_answered_47 : decode c_C_answered 47 = .ok (.goto 12, 3) := by decide +kernel
theorem d_C_answered_50 : decode c_C_answered 50 = .ok (.aload_n 0, 1) := by decide +kernel
theorem d_C_answered_51 : decode c_C_answered 51 = .ok (.getfield 44, 3) := by decide +kernel
theorem d_C_answered_54 : decode c_C_answered 54 = .ok (.getfield 136, 3) := by decide +kernel
theorem d_C_answered_57 : decode c_C_answered 57 = .ok (.iload_n 1, 1) := by decide +kernel
theorem d_C_answered_58 : decode c_C_answered 58 = .ok (.iaload, 1) := by decide +kernel
theorem d_C_answered_59 : decode c_C_answered 59 = .ok (.ireturn, 1) := by decide +kernel
theorem ey_C_way : eY y_C_way 3 = true := by decide +kernel
theorem d_C_way_0 : decode c_C_way 0 = .ok (.iload_n 1, 1) := by decide +kernel
theorem d_C_way_1 : decode c_C_way 1 = .ok (.ifCond .lt 29, 3) := by decide +kernel
theorem d_C_way_4 : decode c_C_way 4 = .ok (.iload_n 1, 1) := by decide +kernel
theorem d_C_way_5 : decode c_C_way 5 = .ok (.aload_n 0, 1) := by decide +kernel
theorem d_C_way_6 : decode c_C_way 6 = .ok (.getfield 18, 3) := by decide +kernel
theorem d_C_way_9 : decode c_C_way 9 = .ok (.getfield 179, 3) := by decide +kernel
theorem d_C_way_12 : decode c_C_way 12 = .ok (.if_icmp .ge 18, 3) := by decide +kernel
theorem d_C_way_15 : decode c_C_way 15 = .ok (.iload_n 2, 1) := by decide +kernel
theorem d_C_way_16 : decode c_C_way 16 = .ok (.ifCond .lt 14, 3) := by decide +kernel
theorem d_C_way_19 : decode c_C_way 19 = .ok (.iload_n 2, 1) := by decide +kernel
theorem d_C_way_20 : decode c_C_way 20 = .ok (.aload_n 0, 1) := by decide +kernel
theorem d_C_way_21 : decode c_C_way 21 = .ok (.getfield 18, 3) := by decide +kernel
theorem d_C_way_24 : decode c_C_way 24 = .ok (.getfield 182, 3) := by decide +kernel
theorem d_C_way_27 : decode c_C_way 27 = .ok (.if_icmp .lt 13, 3) := by decide +kernel
theorem d_C_way_30 : decode c_C_way 30 = .ok (.new 90, 3) := by decide +kernel
theorem d_C_way_33 : decode c_C_way 33 = .ok (.dup, 1) := by decide +kernel
theorem d_C_way_34 : decode c_C_way 34 = .ok (.ldc 185, 2) := by decide +kernel
theorem d_C_way_36 : decode c_C_way 36 = .ok (.invokespecial 94, 3) := by decide +kernel
theorem d_C_way_39 : decode c_C_way 39 = .ok (.athrow, 1) := by decide +kernel
theorem d_C_way_40 : decode c_C_way 40 = .ok (.iload_n 1, 1) := by decide +kernel
theorem d_C_way_41 : decode c_C_way 41 = .ok (.aload_n 0, 1) := by decide +kernel
theorem d_C_way_42 : decode c_C_way 42 = .ok (.getfield 18, 3) := by decide +kernel
theorem d_C_way_45 : decode c_C_way 45 = .ok (.getfield 182, 3) := by decide +kernel
theorem d_C_way_48 : decode c_C_way 48 = .ok (.imul, 1) := by decide +kernel
theorem d_C_way_49 : decode c_C_way 49 = .ok (.iload_n 2, 1) := by decide +kernel
theorem d_C_way_50 : decode c_C_way 50 = .ok (.iadd, 1) := by decide +kernel
theorem d_C_way_51 : decode c_C_way 51 = .ok (.istore 4, 2) := by decide +kernel
theorem d_C_way_53 : decode c_C_way 53 = .ok (.iload_n 3, 1) := by decide +kernel
theorem d_C_way_54 : decode c_C_way 54 = .ok (.tableswitch 105 0 4 #[34, 45, 64, 75, 86], 34) := by decide +kernel
theorem d_C_way_88 : decode c_C_way 88 = .ok (.aload_n 0, 1) := by decide +kernel
theorem d_C_way_89 : decode c_C_way 89 = .ok (.getfield 18, 3) := by decide +kernel
theorem d_C_way_92 : decode c_C_way 92 = .ok (.getfield 187, 3) := by decide +kernel
theorem d_C_way_95 : decode c_C_way 95 = .ok (.iload 4, 2) := by decide +kernel
theorem d_C_way_97 : decode c_C_way 97 = .ok (.iaload, 1) := by decide +kernel
theorem d_C_way_98 : decode c_C_way 98 = .ok (.ireturn, 1) := by decide +kernel
theorem d_C_way_99 : decode c_C_way 99 = .ok (.aload_n 0, 1) := by decide +kernel
theorem d_C_way_100 : decode c_C_way 100 = .ok (.getfield 18, 3) := by decide +kernel
theorem d_C_way_103 : decode c_C_way 103 = .ok (.getfield 190, 3) := by decide +kernel
theorem d_C_way_106 : decode c_C_way 106 = .ok (.iload 4, 2) := by decide +kernel
theorem d_C_way_108 : decode c_C_way 108 = .ok (.baload, 1) := by decide +kernel
theorem d_C_way_109 : decode c_C_way 109 = .ok (.ifCond .eq 7, 3) := by decide +kernel
theorem d_C_way_112 : decode c_C_way 112 = .ok (.iconst 1, 1) := by decide +kernel
theorem d_C_way_113 : decode c_C_way 113 = .ok (.goto 4, 3) := by decide +kernel
theorem d_C_way_116 : decode c_C_way 116 = .ok (.iconst 0, 1) := by decide +kernel
theorem d_C_way_117 : decode c_C_way 117 = .ok (.ireturn, 1) := by decide +kernel
theorem d_C_way_118 : decode c_C_way 118 = .ok (.aload_n 0, 1) := by decide +kernel
theorem d_C_way_119 : decode c_C_way 119 = .ok (.getfield 18, 3) := by decide +kernel
theorem d_C_way_122 : decode c_C_way 122 = .ok (.getfield 105, 3) := by decide +kernel
theorem d_C_way_125 : decode c_C_way 125 = .ok (.iload 4, 2) := by decide +kernel
theorem d_C_way_127 : decode c_C_way 127 = .ok (.iaload, 1) := by decide +kernel
theorem d_C_way_128 : decode c_C_way 128 = .ok (.ireturn, 1) := by decide +kernel
theorem d_C_way_129 : decode c_C_way 129 = .ok (.aload_n 0, 1) := by decide +kernel
theorem d_C_way_130 : decode c_C_way 130 = .ok (.getfield 18, 3) := by decide +kernel
theorem d_C_way_133 : decode c_C_way 133 = .ok (.getfield 164, 3) := by decide +kernel
theorem d_C_way_136 : decode c_C_way 136 = .ok (.iload 4, 2) := by decide +kernel
theorem d_C_way_138 : decode c_C_way 138 = .ok (.iaload, 1) := by decide +kernel
theorem d_C_way_139 : decode c_C_way 139 = .ok (.ireturn, 1) := by decide +kernel
theorem d_C_way_140 : decode c_C_way 140 = .ok (.aload_n 0, 1) := by decide +kernel
theorem d_C_way_141 : decode c_C_way 141 = .ok (.getfield 18, 3) := by decide +kernel
theorem d_C_way_144 : decode c_C_way 144 = .ok (.getfield 144, 3) := by decide +kernel
theorem d_C_way_147 : decode c_C_way 147 = .ok (.iload 4, 2) := by decide +kernel
theorem d_C_way_149 : decode c_C_way 149 = .ok (.baload, 1) := by decide +kernel
theorem d_C_way_150 : decode c_C_way 150 = .ok (.ifCond .eq 7, 3) := by decide +kernel
theorem d_C_way_153 : decode c_C_way 153 = .ok (.iconst 1, 1) := by decide +kernel
theorem d_C_way_154 : decode c_C_way 154 = .ok (.goto 4, 3) := by decide +kernel
theorem d_C_way_157 : decode c_C_way 157 = .ok (.iconst 0, 1) := by decide +kernel
theorem d_C_way_158 : decode c_C_way 158 = .ok (.ireturn, 1) := by decide +kernel
theorem d_C_way_159 : decode c_C_way 159 = .ok (.new 90, 3) := by decide +kernel
theorem d_C_way_162 : decode c_C_way 162 = .ok (.dup, 1) := by decide +kernel
theorem d_C_way_163 : decode c_C_way 163 = .ok (.ldc 193, 2) := by decide +kernel
theorem d_C_way_165 : decode c_C_way 165 = .ok (.invokespecial 94, 3) := by decide +kernel
theorem d_C_way_168 : decode c_C_way 168 = .ok (.athrow, 1) := by decide +kernel
theorem ey_C_caught : eY y_C_caught 2 = true := by decide +kernel
theorem d_C_caught_0 : decode c_C_caught 0 = .ok (.iload_n 1, 1) := by decide +kernel
theorem d_C_caught_1 : decode c_C_caught 1 = .ok (.ifCond .lt 14, 3) := by decide +kernel
theorem d_C_caught_4 : decode c_C_caught 4 = .ok (.iload_n 1, 1) := by decide +kernel
theorem d_C_caught_5 : decode c_C_caught 5 = .ok (.aload_n 0, 1) := by decide +kernel
theorem d_C_caught_6 : decode c_C_caught 6 = .ok (.getfield 29, 3) := by decide +kernel
theorem d_C_caught_9 : decode c_C_caught 9 = .ok (.getfield 161, 3) := by decide +kernel
theorem d_C_caught_12 : decode c_C_caught 12 = .ok (.if_icmp .lt 13, 3) := by decide +kernel
theorem d_C_caught_15 : decode c_C_caught 15 = .ok (.new 90, 3) := by decide +kernel
theorem d_C_caught_18 : decode c_C_caught 18 = .ok (.dup, 1) := by decide +kernel
theorem d_C_caught_19 : decode c_C_caught 19 = .ok (.ldc 195, 2) := by decide +kernel
theorem d_C_caught_21 : decode c_C_caught 21 = .ok (.invokespecial 94, 3) := by decide +kernel
theorem d_C_caught_24 : decode c_C_caught 24 = .ok (.athrow, 1) := by decide +kernel
theorem d_C_caught_25 : decode c_C_caught 25 = .ok (.iload_n 2, 1) := by decide +kernel
theorem d_C_caught_26 : decode c_C_caught 26 = .ok (.tableswitch 56 0 2 #[26, 36, 46], 26) := by decide +kernel
theorem d_C_caught_52 : decode c_C_caught 52 = .ok (.aload_n 0, 1) := by decide +kernel
theorem d_C_caught_53 : decode c_C_caught 53 = .ok (.getfield 29, 3) := by decide +kernel
theorem d_C_caught_56 : decode c_C_caught 56 = .ok (.getfield 197, 3) := by decide +kernel
theorem d_C_caught_59 : decode c_C_caught 59 = .ok (.iload_n 1, 1) := by decide +kernel
theorem d_C_caught_60 : decode c_C_caught 60 = .ok (.iaload, 1) := by decide +kernel
theorem d_C_caught_61 : decode c_C_caught 61 = .ok (.ireturn, 1) := by decide +kernel
theorem d_C_caught_62 : decode c_C_caught 62 = .ok (.aload_n 0, 1) := by decide +kernel
theorem d_C_caught_63 : decode c_C_caught 63 = .ok (.getfield 29, 3) := by decide +kernel
theorem d_C_caught_66 : decode c_C_caught 66 = .ok (.getfield 198, 3) := by decide +kernel
theorem d_C_caught_69 : decode c_C_caught 69 = .ok (.iload_n 1, 1) := by decide +kernel
theorem d_C_caught_70 : decode c_C_caught 70 = .ok (.iaload, 1) := by decide +kernel
theorem d_C_caught_71 : decode c_C_caught 71 = .ok (.ireturn, 1) := by decide +kernel
theorem d_C_caught_72 : decode c_C_caught 72 = .ok (.aload_n 0, 1) := by decide +kernel
theorem d_C_caught_73 : decode c_C_caught 73 = .ok (.getfield 29, 3) := by decide +kernel
theorem d_C_caught_76 : decode c_C_caught 76 = .ok (.getfield 175, 3) := by decide +kernel
theorem d_C_caught_79 : decode c_C_caught 79 = .ok (.iload_n 1, 1) := by decide +kernel
theorem d_C_caught_80 : decode c_C_caught 80 = .ok (.iaload, 1) := by decide +kernel
theorem d_C_caught_81 : decode c_C_caught 81 = .ok (.ireturn, 1) := by decide +kernel
theorem d_C_caught_82 : decode c_C_caught 82 = .ok (.new 90, 3) := by decide +kernel
theorem d_C_caught_85 : decode c_C_caught 85 = .ok (.dup, 1) := by decide +kernel
theorem d_C_caught_86 : decode c_C_caught 86 = .ok (.ldc 193, 2) := by decide +kernel
theorem d_C_caught_88 : decode c_C_caught 88 = .ok (.invokespecial 94, 3) := by decide +kernel
theorem d_C_caught_91 : decode c_C_caught 91 = .ok (.athrow, 1) := by decide +kernel
theorem ey_C_next : eY y_C_next 1 = true := by decide +kernel
theorem d_C_next_0 : decode c_C_next 0 = .ok (.iload_n 1, 1) := by decide +kernel
theorem d_C_next_1 : decode c_C_next 1 = .ok (.ifCond .lt 14, 3) := by decide +kernel
theorem d_C_next_4 : decode c_C_next 4 = .ok (.iload_n 1, 1) := by decide +kernel
theorem d_C_next_5 : decode c_C_next 5 = .ok (.aload_n 0, 1) := by decide +kernel
theorem d_C_next_6 : decode c_C_next 6 = .ok (.getfield 18, 3) := by decide +kernel
theorem d_C_next_9 : decode c_C_next 9 = .ok (.getfield 179, 3) := by decide +kernel
theorem d_C_next_12 : decode c_C_next 12 = .ok (.if_icmp .lt 13, 3) := by decide +kernel
theorem d_C_next_15 : decode c_C_next 15 = .ok (.new 90, 3) := by decide +kernel
theorem d_C_next_18 : decode c_C_next 18 = .ok (.dup, 1) := by decide +kernel
theorem d_C_next_19 : decode c_C_next 19 = .ok (.ldc 199, 2) := by decide +kernel
theorem d_C_next_21 : decode c_C_next 21 = .ok (.invokespecial 94, 3) := by decide +kernel
theorem d_C_next_24 : decode c_C_next 24 = .ok (.athrow, 1) := by decide +kernel
theorem d_C_next_25 : decode c_C_next 25 = .ok (.aload_n 0, 1) := by decide +kernel
theorem d_C_next_26 : decode c_C_next 26 = .ok (.getfield 18, 3) := by decide +kernel
theorem d_C_next_29 : decode c_C_next 29 = .ok (.iload_n 1, 1) := by decide +kernel
theorem d_C_next_30 : decode c_C_next 30 = .ok (.invokevirtual 201, 3) := by decide +kernel
theorem d_C_next_33 : decode c_C_next 33 = .ok (.iconst (-1), 1) := by decide +kernel
theorem d_C_next_34 : decode c_C_next 34 = .ok (.if_icmp .eq 7, 3) := by decide +kernel
theorem d_C_next_37 : decode c_C_next 37 = .ok (.iconst (-1), 1) := by decide +kernel
theorem d_C_next_38 : decode c_C_next 38 = .ok (.goto 18, 3) := by decide +kernel
theorem d_C_next_41 : decode c_C_next 41 = .ok (.aload_n 0, 1) := by decide +kernel
theorem d_C_next_42 : decode c_C_next 42 = .ok (.getfield 37, 3) := by decide +kernel
theorem d_C_next_45 : decode c_C_next 45 = .ok (.iload_n 1, 1) := by decide +kernel
theorem d_C_next_46 : decode c_C_next 46 = .ok (.aload_n 0, 1) := by decide +kernel
theorem d_C_next_47 : decode c_C_next 47 = .ok (.getfield 18, 3) := by decide +kernel
theorem d_C_next_50 : decode c_C_next 50 = .ok (.getfield 144, 3) := by decide +kernel
theorem d_C_next_53 : decode c_C_next 53 = .ok (.invokevirtual 204, 3) := by decide +kernel
theorem d_C_next_56 : decode c_C_next 56 = .ok (.ireturn, 1) := by decide +kernel
theorem ey_C_misses : eY y_C_misses 1 = true := by decide +kernel
theorem d_C_misses_0 : decode c_C_misses 0 = .ok (.iload_n 1, 1) := by decide +kernel
theorem d_C_misses_1 : decode c_C_misses 1 = .ok (.iconst 1, 1) := by decide +kernel
theorem d_C_misses_2 : decode c_C_misses 2 = .ok (.if_icmp .lt 9, 3) := by decide +kernel
theorem d_C_misses_5 : decode c_C_misses 5 = .ok (.iload_n 1, 1) := by decide +kernel
theorem d_C_misses_6 : decode c_C_misses 6 = .ok (.bipush 64, 2) := by decide +kernel
theorem d_C_misses_8 : decode c_C_misses 8 = .ok (.if_icmp .le 13, 3) := by decide +kernel
theorem d_C_misses_11 : decode c_C_misses 11 = .ok (.new 210, 3) := by decide +kernel
theorem d_C_misses_14 : decode c_C_misses 14 = .ok (.dup, 1) := by decide +kernel
theorem d_C_misses_15 : decode c_C_misses 15 = .ok (.ldc 212, 2) := by decide +kernel
theorem d_C_misses_17 : decode c_C_misses 17 = .ok (.invokespecial 214, 3) := by decide +kernel
theorem d_C_misses_20 : decode c_C_misses 20 = .ok (.athrow, 1) := by decide +kernel
theorem d_C_misses_21 : decode c_C_misses 21 = .ok (.aload_n 0, 1) := by decide +kernel
theorem d_C_misses_22 : decode c_C_misses 22 = .ok (.getfield 51, 3) := by decide +kernel
theorem d_C_misses_25 : decode c_C_misses 25 = .ok (.iload_n 1, 1) := by decide +kernel
theorem d_C_misses_26 : decode c_C_misses 26 = .ok (.invokevirtual 215, 3) := by decide +kernel
theorem d_C_misses_29 : decode c_C_misses 29 = .ok (.ireturn, 1) := by decide +kernel
theorem narrow_bI (b : Bool) : narrow .boolean (.int (bI b)) = .int (bI b) := by cases b <;> rfl
theorem fits_bI (b : Bool) : fits .boolean (.int (bI b)) = true := by cases b <;> rfl
theorem nar_bI (b : Bool) : vp_nar .boolean (bI b) = bI b := by cases b <;> rfl
/-- the slot that has the line -/
def fdW (S wd : Nat) (c : CS) (x : Int32) : Option Nat := fst1 (hasL c.2 x) (sN S x * wd) wd
/-- the row that has the line -/
def fdR (c : CS) (x : Int32) : Option Nat := fst1 (fun k => c.2 8 k == x) 0 (nz c)
def lkS (S wd : Nat) (c : CS) (x : Int32) (b : Bool) : CS × Int32 := match fdW S wd c x with
  | none => (c, 0)
  | some j => if c.2 6 j = bI b then (c, 0) else ((c.1, up2 c.2 6 (upd (c.2 6) j (bI b))), 1)
def clS (S wd : Nat) (c : CS) (x : Int32) : CS × Int32 := match fdW S wd c x with
  | some j => ((upd c.1 4 (c.1 4 + popI (c.2 5 j)), up2 c.2 5 (upd (c.2 5) j 0)), popI (c.2 5 j))
  | none => match fdR c x with
    | some k => ((upd c.1 4 (c.1 4 + popI (c.2 10 k)), up2 c.2 10 (upd (c.2 10) k 0)), popI (c.2 10 k))
    | none => ((upd c.1 4 (c.1 4 + 0), c.2), 0)
def dpS (S wd : Nat) (c : CS) (x : Int32) : CS × Int32 := match fdW S wd c x with
  | some j => ((c.1, emptyF c.2 j), popI (c.2 5 j))
  | none => match fdR c x with
    | some k => ((upd c.1 10 (nI (nz c - 1)), rmF c.2 k (nz c - 1)), popI (c.2 10 k))
    | none => (c, -1)
section CPub
variable {l : Launch} {G : EG} {a : Nat → Nat} {c : CS} {n S wd V kd z : Nat} {wr ws : va_W}
set_option maxRecDepth 100000 in
theorem k_C_mode (t p : Bool) : Con l G y_C_mode c_C_mode 4 (some .int) (rz 0 0) [.ref (a 0), .int (bI t), .int (bI p)] (cF G a c.1 c.2 n V wr) (DI ((if c.1 0 = 0 then 0 else 1) + (if c.1 1 = 0 then 0 else 2)) (cF G a (upd (upd c.1 0 (bI t)) 1 (bI p)) c.2 n V wr)) := by
  refine Con.of rfl rfl (fun X C E hR hl hnm => ?_)
  have tail : ∀ y : Int32, y = ((if c.1 0 = 0 then 0 else 1) + (if c.1 1 = 0 then 0 else 2)) → EW X G 4 0 0 25 [(0, .ref (a 0)), (1, .int (bI t)), (2, .int (bI p))] [.int y] (cF G a c.1 c.2 n V wr) := by
    intro y hy
    rw [← hy] at E
    refine e_istore_n C d_C_mode_25 rfl ?_
    refine e_aload_n C d_C_mode_26 rfl ?_
    refine e_iload_n C d_C_mode_27 rfl ?_
    refine e_put C 0 (k := 6) in_C tk_C nm_C g270 d_C_mode_28 rfl rfl rfl rfl rfl rfl (narrow_bI t) (fits_bI t) ?_
    refine e_aload_n C d_C_mode_31 rfl ?_
    refine e_iload_n C d_C_mode_32 rfl ?_
    refine e_put C 0 (k := 7) in_C tk_C nm_C g271 d_C_mode_33 rfl rfl rfl rfl rfl rfl (narrow_bI p) (fits_bI p) ?_
    refine e_iload_n C d_C_mode_36 rfl ?_
    exact e_iret C E d_C_mode_37 (Nat.le_refl _) (Nat.le_refl _) rfl ⟨rfl, rfl⟩
  have mid : ∀ y : Int32, y = (if c.1 0 = 0 then 0 else 1) → EW X G 4 0 0 12 [(0, .ref (a 0)), (1, .int (bI t)), (2, .int (bI p))] [.int y] (cF G a c.1 c.2 n V wr) := by
    intro y hy
    refine e_aload_n C d_C_mode_12 rfl ?_
    refine e_get C 0 (k := 7) in_C g271 d_C_mode_13 rfl rfl rfl rfl ?_
    refine e_if_eq C d_C_mode_16 (tgt := 23) (by decide) (fun h16 => ?_) (fun h16 => ?_)
    · skip
      refine e_iconst C d_C_mode_23 (v := 0) (by decide) ?_
      refine e_iadd C d_C_mode_24 ?_
      exact tail _ (by rw [hy, if_pos (show c.1 1 = 0 from h16)])
    · skip
      refine e_iconst C d_C_mode_19 (v := 2) (by decide) ?_
      refine e_goto C d_C_mode_20 (tgt := 24) (by decide) ?_
      refine e_iadd C d_C_mode_24 ?_
      exact tail _ (by rw [hy, if_neg (show ¬ c.1 1 = 0 from h16)])
  refine e_aload_n C d_C_mode_0 rfl ?_
  refine e_get C 0 (k := 6) in_C g270 d_C_mode_1 rfl rfl rfl rfl ?_
  refine e_if_eq C d_C_mode_4 (tgt := 11) (by decide) (fun h4 => ?_) (fun h4 => ?_)
  · skip
    refine e_iconst C d_C_mode_11 (v := 0) (by decide) ?_
    exact e_lv2 (mid _ (by rw [if_pos (show c.1 0 = 0 from h4)])) rfl
  · skip
    refine e_iconst C d_C_mode_7 (v := 1) (by decide) ?_
    refine e_goto C d_C_mode_8 (tgt := 12) (by decide) ?_
    exact e_lv2 (mid _ (by rw [if_neg (show ¬ c.1 0 = 0 from h4)])) rfl
set_option maxRecDepth 100000 in
theorem k_C_lock (h : CD c.1 S wd) (x : Int32) (b : Bool) : Con l G y_C_lock c_C_lock 4 (some .boolean) (rz 2 44) [.ref (a 0), .int x, .int (bI b)] (cF G a c.1 c.2 (S * wd) V wr) (DI (lkS S wd c x b).2 (cF G a (lkS S wd c x b).1.1 (lkS S wd c x b).1.2 (S * wd) V wr)) := by
  refine Con.of rfl rfl (fun X C E hR hl hnm => ?_)
  have hn1 := h.n128
  have hs := sN_lt h x
  have hb2 : sN S x * wd + wd ≤ S * wd := by
    have := slot_lt (wd := wd) (w := wd - 1) hs (by have := h.2.2.2.2; omega)
    have := h.2.2.2.2
    omega
  unfold lkS fdW at E
  refine e_aload_n C d_C_lock_0 rfl ?_
  refine e_get C 0 (k := 0) in_C g264 d_C_lock_1 rfl rfl rfl rfl ?_
  refine e_iload_n C d_C_lock_4 rfl ?_
  refine e_cVi C hR 1 (k_Ways_find h x) g312 g3 g309 g310 g311 d_C_lock_5 rfl ey_Ways_find rfl rfl rfl rfl ⟨Nat.zero_le _, Nat.zero_le _⟩ ?_
  refine e_istore_n C d_C_lock_8 rfl ?_
  refine e_iload_n C d_C_lock_9 rfl ?_
  refine e_iconst C d_C_lock_10 (v := (-1)) (by decide) ?_
  refine e_icmp_eq C d_C_lock_11 (tgt := 27) (by decide) (fun h11 => ?_) (fun h11 => ?_)
  · rw [oI_n1 (fb (by omega))] at h11
    rw [h11] at E
    refine e_iconst C d_C_lock_27 (v := 0) (by decide) ?_
    exact e_iret C E d_C_lock_28 (Nat.le_refl _) (Nat.le_refl _) rfl ⟨rfl, rfl⟩
  · rw [oI_n1 (fb (by omega))] at h11
    obtain ⟨j, hj⟩ := Option.ne_none_iff_exists'.mp h11
    have hj2 := fst1_some hj
    rw [hj] at E ⊢
    dsimp only at E
    refine e_aload_n C d_C_lock_14 rfl ?_
    refine e_get C 0 (k := 0) in_C g264 d_C_lock_15 rfl rfl rfl rfl ?_
    refine e_get C 1 (k := 7) in_Ways g55 d_C_lock_18 rfl rfl rfl rfl ?_
    refine e_iload_n C d_C_lock_21 rfl ?_
    refine e_zald C 6 1 d_C_lock_22 rfl rfl j rfl (by omega) (by omega) ?_
    refine e_iload_n C d_C_lock_23 rfl ?_
    refine e_icmp_ne C d_C_lock_24 (tgt := 29) (by decide) (fun h24 => ?_) (fun h24 => ?_)
    · have h24 : ¬ c.2 6 j = bI b := h24
      rw [if_neg h24] at E
      refine e_aload_n C d_C_lock_29 rfl ?_
      refine e_get C 0 (k := 0) in_C g264 d_C_lock_30 rfl rfl rfl rfl ?_
      refine e_get C 1 (k := 7) in_Ways g55 d_C_lock_33 rfl rfl rfl rfl ?_
      refine e_iload_n C d_C_lock_36 rfl ?_
      refine e_iload_n C d_C_lock_37 rfl ?_
      refine e_zast C 6 1 d_C_lock_38 rfl rfl j rfl (by omega) (by omega) (nar_bI b) ?_
      refine e_iconst C d_C_lock_39 (v := 1) (by decide) ?_
      exact e_iret C E d_C_lock_40 (Nat.le_refl _) (Nat.le_refl _) rfl ⟨rfl, rfl⟩
    · have h24 : c.2 6 j = bI b := h24
      rw [if_pos h24] at E
      refine e_iconst C d_C_lock_27 (v := 0) (by decide) ?_
      exact e_iret C E d_C_lock_28 (Nat.le_refl _) (Nat.le_refl _) rfl ⟨rfl, rfl⟩
set_option maxRecDepth 100000 in
theorem k_C_clean (h : CD c.1 S wd) (hz : RD c.1 V z) (h5 : ∀ j, NB (c.2 5 j)) (h10 : ∀ j, NB (c.2 10 j)) (x : Int32) : Con l G y_C_clean c_C_clean 5 (some .int) (rz 2 44) [.ref (a 0), .int x] (cF G a c.1 c.2 (S * wd) V wr) (DI (clS S wd c x).2 (cF G a (clS S wd c x).1.1 (clS S wd c x).1.2 (S * wd) V wr)) := by
  refine Con.of rfl rfl (fun X C E hR hl hnm => ?_)
  have hze := nz_eq hz
  have hn1 := h.n128
  have hs := sN_lt h x
  have hb2 : sN S x * wd + wd ≤ S * wd := by
    have := slot_lt (wd := wd) (w := wd - 1) hs (by have := h.2.2.2.2; omega)
    have := h.2.2.2.2
    omega
  unfold clS fdW fdR at E
  rw [hze] at E
  refine e_iconst C d_C_clean_0 (v := 0) (by decide) ?_
  refine e_istore_n C d_C_clean_1 rfl ?_
  refine e_aload_n C d_C_clean_2 rfl ?_
  refine e_get C 0 (k := 0) in_C g264 d_C_clean_3 rfl rfl rfl rfl ?_
  refine e_iload_n C d_C_clean_6 rfl ?_
  refine e_cVi C hR 1 (k_Ways_find h x) g312 g3 g309 g310 g311 d_C_clean_7 rfl ey_Ways_find rfl rfl rfl rfl ⟨Nat.zero_le _, Nat.zero_le _⟩ ?_
  refine e_istore_n C d_C_clean_10 rfl ?_
  refine e_aload_n C d_C_clean_11 rfl ?_
  refine e_get C 0 (k := 1) in_C g265 d_C_clean_12 rfl rfl rfl rfl ?_
  refine e_iload_n C d_C_clean_15 rfl ?_
  refine e_cVi C hR 7 (k_Rows_find hz x) g324 g4 g321 g322 g323 d_C_clean_16 rfl ey_Rows_find rfl rfl rfl rfl ⟨Nat.zero_le _, Nat.zero_le _⟩ ?_
  refine e_istore C d_C_clean_19 rfl ?_
  refine e_iload_n C d_C_clean_21 rfl ?_
  refine e_iconst C d_C_clean_22 (v := (-1)) (by decide) ?_
  refine e_icmp_eq C d_C_clean_23 (tgt := 38) (by decide) (fun h23 => ?_) (fun h23 => ?_)
  · rw [oI_n1 (fb (by omega))] at h23
    rw [h23] at E
    dsimp only at E
    refine e_iload C d_C_clean_38 rfl ?_
    refine e_iconst C d_C_clean_40 (v := (-1)) (by decide) ?_
    refine e_icmp_eq C d_C_clean_41 (tgt := 54) (by decide) (fun h41 => ?_) (fun h41 => ?_)
    · rw [oI_n1 (fb (by have := hz.2.2; omega))] at h41
      rw [h41] at E
      refine e_aload_n C d_C_clean_54 rfl ?_
      refine e_dup C d_C_clean_55 rfl ?_
      refine e_get C 0 (k := 10) in_C g274 d_C_clean_56 rfl rfl rfl rfl ?_
      refine e_iload_n C d_C_clean_59 rfl ?_
      refine e_iadd C d_C_clean_60 ?_
      refine e_put C 0 (k := 10) in_C tk_C nm_C g274 d_C_clean_61 rfl rfl rfl rfl rfl rfl rfl rfl ?_
      refine e_iload_n C d_C_clean_64 rfl ?_
      exact e_iret C E d_C_clean_65 (Nat.le_refl _) (Nat.le_refl _) rfl ⟨rfl, rfl⟩
    · rw [oI_n1 (fb (by have := hz.2.2; omega))] at h41
      obtain ⟨k, hk⟩ := Option.ne_none_iff_exists'.mp h41
      have hk2 := fst1_some hk
      obtain ⟨b, hb, eb⟩ := h10 k
      rw [hk] at E ⊢
      dsimp only at E
      rw [show popI (c.2 10 k) = nI (pop4 b) by rw [eb, popI_eq hb]] at E
      refine e_aload_n C d_C_clean_44 rfl ?_
      refine e_get C 0 (k := 1) in_C g265 d_C_clean_45 rfl rfl rfl rfl ?_
      refine e_iload C d_C_clean_48 rfl ?_
      refine e_cVi C hR 7 (k_Rows_cleanRow hz (show k < z by omega) hb eb) g338 g4 g335 g336 g337 d_C_clean_50 rfl ey_Rows_cleanRow rfl rfl rfl rfl ⟨Nat.zero_le _, Nat.zero_le _⟩ ?_
      refine e_istore_n C d_C_clean_53 rfl ?_
      refine e_aload_n C d_C_clean_54 rfl ?_
      refine e_dup C d_C_clean_55 rfl ?_
      refine e_get C 0 (k := 10) in_C g274 d_C_clean_56 rfl rfl rfl rfl ?_
      refine e_iload_n C d_C_clean_59 rfl ?_
      refine e_iadd C d_C_clean_60 ?_
      refine e_put C 0 (k := 10) in_C tk_C nm_C g274 d_C_clean_61 rfl rfl rfl rfl rfl rfl rfl rfl ?_
      refine e_iload_n C d_C_clean_64 rfl ?_
      exact e_iret C E d_C_clean_65 (Nat.le_refl _) (Nat.le_refl _) rfl ⟨rfl, rfl⟩
  · rw [oI_n1 (fb (by omega))] at h23
    obtain ⟨j, hj⟩ := Option.ne_none_iff_exists'.mp h23
    have hj2 := fst1_some hj
    obtain ⟨b, hb, eb⟩ := h5 j
    rw [hj] at E ⊢
    dsimp only at E
    rw [show popI (c.2 5 j) = nI (pop4 b) by rw [eb, popI_eq hb]] at E
    refine e_aload_n C d_C_clean_26 rfl ?_
    refine e_get C 0 (k := 0) in_C g264 d_C_clean_27 rfl rfl rfl rfl ?_
    refine e_iload_n C d_C_clean_30 rfl ?_
    refine e_cVi C hR 1 (k_Ways_cleanSlot h (show j < S * wd by omega) hb eb) g328 g3 g325 g326 g327 d_C_clean_31 rfl ey_Ways_cleanSlot rfl rfl rfl rfl ⟨Nat.zero_le _, Nat.zero_le _⟩ ?_
    refine e_istore_n C d_C_clean_34 rfl ?_
    refine e_goto C d_C_clean_35 (tgt := 54) (by decide) ?_
    refine e_aload_n C d_C_clean_54 rfl ?_
    refine e_dup C d_C_clean_55 rfl ?_
    refine e_get C 0 (k := 10) in_C g274 d_C_clean_56 rfl rfl rfl rfl ?_
    refine e_iload_n C d_C_clean_59 rfl ?_
    refine e_iadd C d_C_clean_60 ?_
    refine e_put C 0 (k := 10) in_C tk_C nm_C g274 d_C_clean_61 rfl rfl rfl rfl rfl rfl rfl rfl ?_
    refine e_iload_n C d_C_clean_64 rfl ?_
    exact e_iret C E d_C_clean_65 (Nat.le_refl _) (Nat.le_refl _) rfl ⟨rfl, rfl⟩
set_option maxRecDepth 100000 in
theorem k_C_drop (h : CD c.1 S wd) (hz : RD c.1 V z) (h5 : ∀ j, NB (c.2 5 j)) (h10 : ∀ j, NB (c.2 10 j)) (x : Int32) : Con l G y_C_drop c_C_drop 5 (some .int) (rz 2 44) [.ref (a 0), .int x] (cF G a c.1 c.2 (S * wd) V wr) (DI (dpS S wd c x).2 (cF G a (dpS S wd c x).1.1 (dpS S wd c x).1.2 (S * wd) V wr)) := by
  refine Con.of rfl rfl (fun X C E hR hl hnm => ?_)
  have hze := nz_eq hz
  have hn1 := h.n128
  have hs := sN_lt h x
  have hb2 : sN S x * wd + wd ≤ S * wd := by
    have := slot_lt (wd := wd) (w := wd - 1) hs (by have := h.2.2.2.2; omega)
    have := h.2.2.2.2
    omega
  unfold dpS fdW fdR at E
  rw [hze] at E
  refine e_aload_n C d_C_drop_0 rfl ?_
  refine e_get C 0 (k := 0) in_C g264 d_C_drop_1 rfl rfl rfl rfl ?_
  refine e_iload_n C d_C_drop_4 rfl ?_
  refine e_cVi C hR 1 (k_Ways_find h x) g312 g3 g309 g310 g311 d_C_drop_5 rfl ey_Ways_find rfl rfl rfl rfl ⟨Nat.zero_le _, Nat.zero_le _⟩ ?_
  refine e_istore_n C d_C_drop_8 rfl ?_
  refine e_iload_n C d_C_drop_9 rfl ?_
  refine e_iconst C d_C_drop_10 (v := (-1)) (by decide) ?_
  refine e_icmp_eq C d_C_drop_11 (tgt := 37) (by decide) (fun h11 => ?_) (fun h11 => ?_)
  · rw [oI_n1 (fb (by omega))] at h11
    rw [h11] at E
    dsimp only at E
    refine e_aload_n C d_C_drop_37 rfl ?_
    refine e_get C 0 (k := 1) in_C g265 d_C_drop_38 rfl rfl rfl rfl ?_
    refine e_iload_n C d_C_drop_41 rfl ?_
    refine e_cVi C hR 7 (k_Rows_find hz x) g324 g4 g321 g322 g323 d_C_drop_42 rfl ey_Rows_find rfl rfl rfl rfl ⟨Nat.zero_le _, Nat.zero_le _⟩ ?_
    refine e_istore_n C d_C_drop_45 rfl ?_
    refine e_iload_n C d_C_drop_46 rfl ?_
    refine e_iconst C d_C_drop_47 (v := (-1)) (by decide) ?_
    refine e_icmp_eq C d_C_drop_48 (tgt := 76) (by decide) (fun h48 => ?_) (fun h48 => ?_)
    · rw [oI_n1 (fb (by have := hz.2.2; omega))] at h48
      rw [h48] at E
      refine e_iconst C d_C_drop_76 (v := (-1)) (by decide) ?_
      exact e_iret C E d_C_drop_77 (Nat.le_refl _) (Nat.le_refl _) rfl ⟨rfl, rfl⟩
    · rw [oI_n1 (fb (by have := hz.2.2; omega))] at h48
      obtain ⟨k, hk⟩ := Option.ne_none_iff_exists'.mp h48
      have hk2 := fst1_some hk
      have hz2 := hz.2.2
      obtain ⟨b, hb, eb⟩ := h10 k
      rw [hk] at E ⊢
      dsimp only at E
      rw [show popI (c.2 10 k) = nI (pop4 b) by rw [eb, popI_eq hb]] at E
      refine e_aload_n C d_C_drop_51 rfl ?_
      refine e_get C 0 (k := 1) in_C g265 d_C_drop_52 rfl rfl rfl rfl ?_
      refine e_get C 7 (k := 3) in_Rows g88 d_C_drop_55 rfl rfl rfl rfl ?_
      refine e_iload_n C d_C_drop_58 rfl ?_
      refine e_iald C 10 0 d_C_drop_59 rfl rfl k rfl (by omega) (by omega) ?_
      refine e_top eb ?_
      refine e_cSi C hR (k_bitCount hb) g331 g19 g348 g330 d_C_drop_60 rfl ey_Integer_bitCount rfl rfl ⟨Nat.zero_le _, Nat.zero_le _⟩ ?_
      refine e_istore C d_C_drop_63 rfl ?_
      refine e_aload_n C d_C_drop_65 rfl ?_
      refine e_get C 0 (k := 1) in_C g265 d_C_drop_66 rfl rfl rfl rfl ?_
      refine e_iload_n C d_C_drop_69 rfl ?_
      refine e_cVv C hR 7 (k_Rows_remove hz (show k < z by omega)) g356 g4 g353 g354 g355 d_C_drop_70 rfl ey_Rows_remove rfl rfl rfl rfl ⟨Nat.zero_le _, Nat.zero_le _⟩ ?_
      refine e_iload C d_C_drop_73 rfl ?_
      exact e_iret C E d_C_drop_75 (Nat.le_refl _) (Nat.le_refl _) rfl ⟨rfl, rfl⟩
  · rw [oI_n1 (fb (by omega))] at h11
    obtain ⟨j, hj⟩ := Option.ne_none_iff_exists'.mp h11
    have hj2 := fst1_some hj
    obtain ⟨b, hb, eb⟩ := h5 j
    rw [hj] at E ⊢
    dsimp only at E
    rw [show popI (c.2 5 j) = nI (pop4 b) by rw [eb, popI_eq hb]] at E
    refine e_aload_n C d_C_drop_14 rfl ?_
    refine e_get C 0 (k := 0) in_C g264 d_C_drop_15 rfl rfl rfl rfl ?_
    refine e_get C 1 (k := 6) in_Ways g53 d_C_drop_18 rfl rfl rfl rfl ?_
    refine e_iload_n C d_C_drop_21 rfl ?_
    refine e_iald C 5 0 d_C_drop_22 rfl rfl j rfl (by omega) (by omega) ?_
    refine e_top eb ?_
    refine e_cSi C hR (k_bitCount hb) g331 g19 g348 g330 d_C_drop_23 rfl ey_Integer_bitCount rfl rfl ⟨Nat.zero_le _, Nat.zero_le _⟩ ?_
    refine e_istore_n C d_C_drop_26 rfl ?_
    refine e_aload_n C d_C_drop_27 rfl ?_
    refine e_get C 0 (k := 0) in_C g264 d_C_drop_28 rfl rfl rfl rfl ?_
    refine e_iload_n C d_C_drop_31 rfl ?_
    refine e_cVv C hR 1 (k_Ways_empty h (show j < S * wd by omega)) g352 g3 g349 g350 g351 d_C_drop_32 rfl ey_Ways_empty rfl rfl rfl rfl ⟨Nat.zero_le _, Nat.zero_le _⟩ ?_
    refine e_iload_n C d_C_drop_35 rfl ?_
    exact e_iret C E d_C_drop_36 (Nat.le_refl _) (Nat.le_refl _) rfl ⟨rfl, rfl⟩
/-- the first k are 0 -/
def zr (g : Nat → Int32) (k : Nat) : Nat → Int32 := fun j => if j < k then 0 else g j
theorem zr_0 (g : Nat → Int32) : zr g 0 = g := by
  funext j
  simp [zr]
theorem zr_s (g : Nat → Int32) (k : Nat) : zr g (k + 1) = upd (zr g k) k 0 := by
  funext j
  by_cases hj : j = k
  · subst hj
    rw [pk_us]
    simp [zr]
  · rw [pk_un hj]
    unfold zr
    by_cases h2 : j < k
    · rw [if_pos (by omega), if_pos h2]
    · rw [if_neg (by omega), if_neg h2]
theorem zr_k (g : Nat → Int32) (k : Nat) : zr g k k = g k := by simp [zr]
def spS (g : Nat → Int32) : Nat → Int32
  | 0 => 0
  | k + 1 => spS g k + popI (g k)
/-- how many, from a sum on -/
def spA (g : Nat → Int32) (y : Int32) : Nat → Int32
  | 0 => y
  | k + 1 => spA g y k + popI (g k)
set_option maxRecDepth 100000 in
theorem k_C_cleanAll (h : CD c.1 S wd) (hz : RD c.1 V z) (h5 : ∀ j, NB (c.2 5 j)) (h10 : ∀ j, NB (c.2 10 j)) : Con l G y_C_cleanAll c_C_cleanAll 3 (some .int) (rz 2 42) [.ref (a 0)] (cF G a c.1 c.2 (S * wd) V wr) (DI (spA (c.2 10) (spA (c.2 5) 0 (S * wd)) z) (cF G a (upd c.1 4 (c.1 4 + spA (c.2 10) (spA (c.2 5) 0 (S * wd)) z)) (up2 (up2 c.2 5 (zr (c.2 5) (S * wd))) 10 (zr (c.2 10) z)) (S * wd) V wr)) := by
  refine Con.of rfl rfl (fun X C E hR hl hnm => ?_)
  have hn1 := h.n128
  have hz0 := hz
  obtain ⟨r9, r10, r1, r2⟩ := hz
  refine e_iconst C d_C_cleanAll_0 (v := 0) (by decide) ?_
  refine e_istore_n C d_C_cleanAll_1 rfl ?_
  refine e_iconst C d_C_cleanAll_2 (v := 0) (by decide) ?_
  refine e_istore_n C d_C_cleanAll_3 rfl ?_
  have L : ∀ m k : Nat, k + m = S * wd → EW X G 3 0 0 4 [(0, .ref (a 0)), (1, .int (spA (c.2 5) 0 k)), (2, .int (nI k))] [] (cF G a c.1 (up2 c.2 5 (zr (c.2 5) k)) (S * wd) V wr) := by
    intro m
    induction m with
    | zero =>
      intro k hk
      obtain rfl : k = S * wd := by omega
      refine e_iload_n C d_C_cleanAll_4 rfl ?_
      refine e_aload_n C d_C_cleanAll_5 rfl ?_
      refine e_get C 0 (k := 0) in_C g264 d_C_cleanAll_6 rfl rfl rfl rfl ?_
      refine e_get C 1 (k := 2) in_Ways g45 d_C_cleanAll_9 rfl rfl rfl rfl ?_
      refine e_top h.2.2.1 ?_
      refine e_icmp_ge C d_C_cleanAll_12 (tgt := 32) (by decide) (fun h12 => ?_) (fun h12 => ?_)
      · skip
        refine e_iconst C d_C_cleanAll_32 (v := 0) (by decide) ?_
        refine e_istore_n C d_C_cleanAll_33 rfl ?_
        have L2 : ∀ m k : Nat, k + m = z → EW X G 3 0 0 34 [(0, .ref (a 0)), (1, .int (spA (c.2 10) (spA (c.2 5) 0 (S * wd)) k)), (2, .int (nI k))] [] (cF G a c.1 (up2 (up2 c.2 5 (zr (c.2 5) (S * wd))) 10 (zr (c.2 10) k)) (S * wd) V wr) := by
          intro m
          induction m with
          | zero =>
            intro k hk
            obtain rfl : k = z := by omega
            refine e_iload_n C d_C_cleanAll_34 rfl ?_
            refine e_aload_n C d_C_cleanAll_35 rfl ?_
            refine e_get C 0 (k := 1) in_C g265 d_C_cleanAll_36 rfl rfl rfl rfl ?_
            refine e_get C 7 (k := 4) in_Rows g90 d_C_cleanAll_39 rfl rfl rfl rfl ?_
            refine e_top r10 ?_
            refine e_icmp_ge C d_C_cleanAll_42 (tgt := 62) (by decide) (fun h42 => ?_) (fun h42 => ?_)
            · skip
              refine e_aload_n C d_C_cleanAll_62 rfl ?_
              refine e_dup C d_C_cleanAll_63 rfl ?_
              refine e_get C 0 (k := 10) in_C g274 d_C_cleanAll_64 rfl rfl rfl rfl ?_
              refine e_iload_n C d_C_cleanAll_67 rfl ?_
              refine e_iadd C d_C_cleanAll_68 ?_
              refine e_put C 0 (k := 10) in_C tk_C nm_C g274 d_C_cleanAll_69 rfl rfl rfl rfl rfl rfl rfl rfl ?_
              refine e_iload_n C d_C_cleanAll_72 rfl ?_
              exact e_iret C E d_C_cleanAll_73 (Nat.le_refl _) (Nat.le_refl _) rfl ⟨rfl, rfl⟩
            · exact absurd (nI_le (by omega) (by omega)) h42
          | succ m ih =>
            intro k hk
            obtain ⟨b, hb, eb⟩ := h10 k
            have ih := ih (k + 1) (by omega)
            rw [zr_s, spA, show popI (c.2 10 k) = nI (pop4 b) by rw [eb, popI_eq hb]] at ih
            refine e_iload_n C d_C_cleanAll_34 rfl ?_
            refine e_aload_n C d_C_cleanAll_35 rfl ?_
            refine e_get C 0 (k := 1) in_C g265 d_C_cleanAll_36 rfl rfl rfl rfl ?_
            refine e_get C 7 (k := 4) in_Rows g90 d_C_cleanAll_39 rfl rfl rfl rfl ?_
            refine e_top r10 ?_
            refine e_icmp_ge C d_C_cleanAll_42 (tgt := 62) (by decide) (fun h42 => ?_) (fun h42 => ?_)
            · exact absurd h42 (nI_ge (by omega) (by omega))
            · skip
              refine e_iload_n C d_C_cleanAll_45 rfl ?_
              refine e_aload_n C d_C_cleanAll_46 rfl ?_
              refine e_get C 0 (k := 1) in_C g265 d_C_cleanAll_47 rfl rfl rfl rfl ?_
              refine e_iload_n C d_C_cleanAll_50 rfl ?_
              refine e_cVi C hR 7 (k_Rows_cleanRow (f := up2 (up2 c.2 5 (zr (c.2 5) (S * wd))) 10 (zr (c.2 10) k)) hz0 (show k < z by omega) hb (show zr (c.2 10) k k = nI b by rw [zr_k]; exact eb)) g338 g4 g335 g336 g337 d_C_cleanAll_51 rfl ey_Rows_cleanRow rfl rfl rfl rfl ⟨Nat.zero_le _, Nat.zero_le _⟩ ?_
              refine e_iadd C d_C_cleanAll_54 ?_
              refine e_istore_n C d_C_cleanAll_55 rfl ?_
              refine e_iinc C d_C_cleanAll_56 rfl (nI_1 k) rfl ?_
              refine e_goto C d_C_cleanAll_59 (tgt := 34) (by decide) ?_
              exact e_lv2 ih rfl
        refine e_eq (ws' := cF G a c.1 (up2 (up2 c.2 5 (zr (c.2 5) (S * wd))) 10 (zr (c.2 10) 0)) (S * wd) V wr) (by rw [zr_0]; rfl) ?_
        exact e_lv2 (L2 z 0 (by omega)) rfl
      · exact absurd (nI_le (by omega) (by omega)) h12
    | succ m ih =>
      intro k hk
      obtain ⟨b, hb, eb⟩ := h5 k
      have ih := ih (k + 1) (by omega)
      rw [zr_s, spA, show popI (c.2 5 k) = nI (pop4 b) by rw [eb, popI_eq hb]] at ih
      refine e_iload_n C d_C_cleanAll_4 rfl ?_
      refine e_aload_n C d_C_cleanAll_5 rfl ?_
      refine e_get C 0 (k := 0) in_C g264 d_C_cleanAll_6 rfl rfl rfl rfl ?_
      refine e_get C 1 (k := 2) in_Ways g45 d_C_cleanAll_9 rfl rfl rfl rfl ?_
      refine e_top h.2.2.1 ?_
      refine e_icmp_ge C d_C_cleanAll_12 (tgt := 32) (by decide) (fun h12 => ?_) (fun h12 => ?_)
      · exact absurd h12 (nI_ge (by omega) (by omega))
      · skip
        refine e_iload_n C d_C_cleanAll_15 rfl ?_
        refine e_aload_n C d_C_cleanAll_16 rfl ?_
        refine e_get C 0 (k := 0) in_C g264 d_C_cleanAll_17 rfl rfl rfl rfl ?_
        refine e_iload_n C d_C_cleanAll_20 rfl ?_
        refine e_cVi C hR 1 (k_Ways_cleanSlot (f := up2 c.2 5 (zr (c.2 5) k)) h (show k < S * wd by omega) hb (show zr (c.2 5) k k = nI b by rw [zr_k]; exact eb)) g328 g3 g325 g326 g327 d_C_cleanAll_21 rfl ey_Ways_cleanSlot rfl rfl rfl rfl ⟨Nat.zero_le _, Nat.zero_le _⟩ ?_
        refine e_iadd C d_C_cleanAll_24 ?_
        refine e_istore_n C d_C_cleanAll_25 rfl ?_
        refine e_iinc C d_C_cleanAll_26 rfl (nI_1 k) rfl ?_
        refine e_goto C d_C_cleanAll_29 (tgt := 4) (by decide) ?_
        exact e_lv2 ih rfl
  refine e_eq (ws' := cF G a c.1 (up2 c.2 5 (zr (c.2 5) 0)) (S * wd) V wr) (by rw [zr_0]; rfl) ?_
  exact e_lv2 (L (S * wd) 0 (by omega)) rfl
theorem k_C_distance {hs : Nat} (h : HD c.1 hs) (x : Int32) : Con l G y_C_distance c_C_distance 2 (some .int) (rz 1 22) [.ref (a 0), .int x] (cF G a c.1 c.2 n V wr) (DI (oI (hfd c.2 hs x)) (cF G a c.1 c.2 n V wr)) := by
  refine Con.of rfl rfl (fun X C E hR hl hnm => ?_)
  refine e_aload_n C d_C_distance_0 rfl ?_
  refine e_get C 0 (k := 4) in_C g268 d_C_distance_1 rfl rfl rfl rfl ?_
  refine e_iload_n C d_C_distance_4 rfl ?_
  refine e_cVi C hR 17 (k_Hist_find h x) g364 g13 g361 g362 g363 d_C_distance_5 rfl ey_Hist_find rfl rfl rfl rfl ⟨Nat.zero_le _, Nat.zero_le _⟩ ?_
  exact e_iret C E d_C_distance_8 (Nat.le_refl _) (Nat.le_refl _) rfl ⟨rfl, rfl⟩
theorem k_C_isNoPart0 {p : Nat} (hp : p < 4) : Con l G y_C_isNoPart c_C_isNoPart 1 (some .boolean) (rz 0 0) [.int (nI p)] ws (DI 0 ws) := by
  refine Con.of rfl rfl (fun X C E hR hl hnm => ?_)
  refine e_iload_n C d_C_isNoPart_0 rfl ?_
  refine e_if_lt C d_C_isNoPart_1 (tgt := 9) (by decide) (fun h1 => ?_) (fun h1 => ?_)
  · exact absurd h1 (nI_pos (by omega))
  · skip
    refine e_iload_n C d_C_isNoPart_4 rfl ?_
    refine e_iconst C d_C_isNoPart_5 (v := nI 4) (by decide) ?_
    refine e_icmp_lt C d_C_isNoPart_6 (tgt := 13) (by decide) (fun h6 => ?_) (fun h6 => ?_)
    · skip
      refine e_iconst C d_C_isNoPart_13 (v := 0) (by decide) ?_
      exact e_iret C E d_C_isNoPart_14 (Nat.le_refl _) (Nat.le_refl _) rfl ⟨rfl, rfl⟩
    · rw [nI_ltI (by omega) (by omega)] at h6
      omega
theorem k_C_isNoPart1 {p : Int32} (hp : p < 0 ∨ ¬ p < 4) : Con l G y_C_isNoPart c_C_isNoPart 1 (some .boolean) (rz 0 0) [.int p] ws (DI 1 ws) := by
  refine Con.of rfl rfl (fun X C E hR hl hnm => ?_)
  refine e_iload_n C d_C_isNoPart_0 rfl ?_
  refine e_if_lt C d_C_isNoPart_1 (tgt := 9) (by decide) (fun h1 => ?_) (fun h1 => ?_)
  · skip
    refine e_iconst C d_C_isNoPart_9 (v := 1) (by decide) ?_
    refine e_goto C d_C_isNoPart_10 (tgt := 14) (by decide) ?_
    exact e_iret C E d_C_isNoPart_14 (Nat.le_refl _) (Nat.le_refl _) rfl ⟨rfl, rfl⟩
  · skip
    refine e_iload_n C d_C_isNoPart_4 rfl ?_
    refine e_iconst C d_C_isNoPart_5 (v := 4) (by decide) ?_
    refine e_icmp_lt C d_C_isNoPart_6 (tgt := 13) (by decide) (fun h6 => ?_) (fun h6 => ?_)
    · rcases hp with q | q
      · exact absurd q h1
      · exact absurd h6 q
    · skip
      refine e_iconst C d_C_isNoPart_9 (v := 1) (by decide) ?_
      refine e_goto C d_C_isNoPart_10 (tgt := 14) (by decide) ?_
      exact e_iret C E d_C_isNoPart_14 (Nat.le_refl _) (Nat.le_refl _) rfl ⟨rfl, rfl⟩
theorem k_C_access (h : CI S wd V kd c) {hs : Nat} (hH : HD c.1 hs) (x : Int32) {p : Nat} (hp : p < 4) (wt : Int32) : Con l G y_C_access c_C_access 4 (some .int) (rz 6 149) [.ref (a 0), .int x, .int (nI p), .int wt] (wK G a c S wd V kd) (DI (pfK S wd V kd c x p wt) (wK G a (pfS S wd V kd c x p wt) S wd V kd)) := by
  refine Con.of rfl rfl (fun X C E hR hl hnm => ?_)
  refine e_iload_n C d_C_access_0 rfl ?_
  refine e_cSi C hR (k_C_isNoPart0 hp) g382 g1 g380 g381 d_C_access_1 rfl ey_C_isNoPart rfl rfl ⟨Nat.zero_le _, Nat.zero_le _⟩ ?_
  refine e_if_eq C d_C_access_4 (tgt := 17) (by decide) (fun h4 => ?_) (fun h4 => ?_)
  · skip
    refine e_aload_n C d_C_access_17 rfl ?_
    refine e_iload_n C d_C_access_18 rfl ?_
    refine e_iload_n C d_C_access_19 rfl ?_
    refine e_iload_n C d_C_access_20 rfl ?_
    refine e_cVi C hR 0 (k_C_perform h hH x hp wt) g455 g1 g452 g454 (gt_sel 1 (by decide +kernel) (by decide +kernel)) d_C_access_21 rfl ey_C_perform rfl rfl rfl rfl ⟨Nat.zero_le _, Nat.zero_le _⟩ ?_
    exact e_iret C E d_C_access_24 (Nat.le_refl _) (Nat.le_refl _) rfl ⟨rfl, rfl⟩
  · exact absurd rfl h4
end CPub
