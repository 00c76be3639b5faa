theorem dX5_find_25 : decode cX5_find 25 = .ok (.iload 8, 2) := by decide +kernel
theorem dX5_find_27 : decode cX5_find 27 = .ok (.iload_n 2, 1) := by decide +kernel
theorem dX5_find_28 : decode cX5_find 28 = .ok (.if_icmp .ge 73, 3) := by decide +kernel
theorem dX5_find_31 : decode cX5_find 31 = .ok (.aload_n 0, 1) := by decide +kernel
theorem dX5_find_32 : decode cX5_find 32 = .ok (.getfield 21, 3) := by decide +kernel
theorem dX5_find_35 : decode cX5_find 35 = .ok (.iload 8, 2) := by decide +kernel
theorem dX5_find_37 : decode cX5_find 37 = .ok (.invokevirtual 63, 3) := by decide +kernel
theorem dX5_find_40 : decode cX5_find 40 = .ok (.istore 9, 2) := by decide +kernel
theorem dX5_find_42 : decode cX5_find 42 = .ok (.iload 7, 2) := by decide +kernel
theorem dX5_find_44 : decode cX5_find 44 = .ok (.ifCond .ne 24, 3) := by decide +kernel
theorem dX5_find_47 : decode cX5_find 47 = .ok (.iload 9, 2) := by decide +kernel
theorem dX5_find_49 : decode cX5_find 49 = .ok (.iload 5, 2) := by decide +kernel
theorem dX5_find_51 : decode cX5_find 51 = .ok (.if_icmp .eq 14, 3) := by decide +kernel
theorem dX5_find_54 : decode cX5_find 54 = .ok (.iload 4, 2) := by decide +kernel
theorem dX5_find_56 : decode cX5_find 56 = .ok (.ifCond .eq 12, 3) := by decide +kernel
theorem dX5_find_59 : decode cX5_find 59 = .ok (.iload 9, 2) := by decide +kernel
theorem dX5_find_61 : decode cX5_find 61 = .ok (.iconst 2, 1) := by decide +kernel
theorem dX5_find_62 : decode cX5_find 62 = .ok (.if_icmp .ne 6, 3) := by decide +kernel
theorem dX5_find_65 : decode cX5_find 65 = .ok (.iload 8, 2) := by decide +kernel
theorem dX5_find_67 : decode cX5_find 67 = .ok (.ireturn, 1) := by decide +kernel
theorem dX5_find_68 : decode cX5_find 68 = .ok (.iload 9, 2) := by decide +kernel
theorem dX5_find_70 : decode cX5_find 70 = .ok (.iload 5, 2) := by decide +kernel
theorem dX5_find_72 : decode cX5_find 72 = .ok (.if_icmp .ne 9, 3) := by decide +kernel
theorem dX5_find_75 : decode cX5_find 75 = .ok (.iinc 7 (-1), 3) := by decide +kernel
theorem dX5_find_78 : decode cX5_find 78 = .ok (.goto 17, 3) := by decide +kernel
theorem dX5_find_81 : decode cX5_find 81 = .ok (.iload 6, 2) := by decide +kernel
theorem dX5_find_83 : decode cX5_find 83 = .ok (.ifCond .eq 12, 3) := by decide +kernel
theorem dX5_find_86 : decode cX5_find 86 = .ok (.iload 9, 2) := by decide +kernel
theorem dX5_find_88 : decode cX5_find 88 = .ok (.iload_n 3, 1) := by decide +kernel
theorem dX5_find_89 : decode cX5_find 89 = .ok (.if_icmp .ne 6, 3) := by decide +kernel
theorem dX5_find_92 : decode cX5_find 92 = .ok (.iinc 7 1, 3) := by decide +kernel
theorem dX5_find_95 : decode cX5_find 95 = .ok (.iinc 8 1, 3) := by decide +kernel
theorem dX5_find_98 : decode cX5_find 98 = .ok (.goto (-73), 3) := by decide +kernel
theorem dX5_find_101 : decode cX5_find 101 = .ok (.iconst (-1), 1) := by decide +kernel
theorem dX5_find_102 : decode cX5_find 102 = .ok (.ireturn, 1) := by decide +kernel
theorem dX6_init_0 : decode cX6_init 0 = .ok (.aload_n 0, 1) := by decide +kernel
theorem dX6_init_1 : decode cX6_init 1 = .ok (.invokespecial 3, 3) := by decide +kernel
theorem dX6_init_4 : decode cX6_init 4 = .ok (.aload_n 0, 1) := by decide +kernel
theorem dX6_init_5 : decode cX6_init 5 = .ok (.new 9, 3) := by decide +kernel
theorem dX6_init_8 : decode cX6_init 8 = .ok (.dup, 1) := by decide +kernel
theorem dX6_init_9 : decode cX6_init 9 = .ok (.invokespecial 11, 3) := by decide +kernel
theorem dX6_init_12 : decode cX6_init 12 = .ok (.putfield 12, 3) := by decide +kernel
theorem dX6_init_15 : decode cX6_init 15 = .ok (.aload_n 0, 1) := by decide +kernel
theorem dX6_init_16 : decode cX6_init 16 = .ok (.new 9, 3) := by decide +kernel
theorem dX6_init_19 : decode cX6_init 19 = .ok (.dup, 1) := by decide +kernel
theorem dX6_init_20 : decode cX6_init 20 = .ok (.invokespecial 11, 3) := by decide +kernel
theorem dX6_init_23 : decode cX6_init 23 = .ok (.putfield 18, 3) := by decide +kernel
theorem dX6_init_26 : decode cX6_init 26 = .ok (.aload_n 0, 1) := by decide +kernel
theorem dX6_init_27 : decode cX6_init 27 = .ok (.new 9, 3) := by decide +kernel
theorem dX6_init_30 : decode cX6_init 30 = .ok (.dup, 1) := by decide +kernel
theorem dX6_init_31 : decode cX6_init 31 = .ok (.invokespecial 11, 3) := by decide +kernel
theorem dX6_init_34 : decode cX6_init 34 = .ok (.putfield 21, 3) := by decide +kernel
theorem dX6_init_37 : decode cX6_init 37 = .ok (.aload_n 0, 1) := by decide +kernel
theorem dX6_init_38 : decode cX6_init 38 = .ok (.aload_n 1, 1) := by decide +kernel
theorem dX6_init_39 : decode cX6_init 39 = .ok (.putfield 24, 3) := by decide +kernel
theorem dX6_init_42 : decode cX6_init 42 = .ok (.return_, 1) := by decide +kernel
theorem dX6_count_0 : decode cX6_count 0 = .ok (.aload_n 0, 1) := by decide +kernel
theorem dX6_count_1 : decode cX6_count 1 = .ok (.getfield 12, 3) := by decide +kernel
theorem dX6_count_4 : decode cX6_count 4 = .ok (.invokevirtual 28, 3) := by decide +kernel
theorem dX6_count_7 : decode cX6_count 7 = .ok (.ireturn, 1) := by decide +kernel
theorem dX6_kind_0 : decode cX6_kind 0 = .ok (.aload_n 0, 1) := by decide +kernel
theorem dX6_kind_1 : decode cX6_kind 1 = .ok (.getfield 12, 3) := by decide +kernel
theorem dX6_kind_4 : decode cX6_kind 4 = .ok (.iload_n 1, 1) := by decide +kernel
theorem dX6_kind_5 : decode cX6_kind 5 = .ok (.invokevirtual 32, 3) := by decide +kernel
theorem dX6_kind_8 : decode cX6_kind 8 = .ok (.ireturn, 1) := by decide +kernel
theorem dX6_start_0 : decode cX6_start 0 = .ok (.aload_n 0, 1) := by decide +kernel
theorem dX6_start_1 : decode cX6_start 1 = .ok (.getfield 18, 3) := by decide +kernel
theorem dX6_start_4 : decode cX6_start 4 = .ok (.iload_n 1, 1) := by decide +kernel
theorem dX6_start_5 : decode cX6_start 5 = .ok (.invokevirtual 32, 3) := by decide +kernel
theorem dX6_start_8 : decode cX6_start 8 = .ok (.ireturn, 1) := by decide +kernel
theorem dX6_end_0 : decode cX6_end 0 = .ok (.aload_n 0, 1) := by decide +kernel
theorem dX6_end_1 : decode cX6_end 1 = .ok (.getfield 21, 3) := by decide +kernel
theorem dX6_end_4 : decode cX6_end 4 = .ok (.iload_n 1, 1) := by decide +kernel
theorem dX6_end_5 : decode cX6_end 5 = .ok (.invokevirtual 32, 3) := by decide +kernel
theorem dX6_end_8 : decode cX6_end 8 = .ok (.ireturn, 1) := by decide +kernel
theorem dX6_second_0 : decode cX6_second 0 = .ok (.aload_n 0, 1) := by decide +kernel
theorem dX6_second_1 : decode cX6_second 1 = .ok (.getfield 36, 3) := by decide +kernel
theorem dX6_second_4 : decode cX6_second 4 = .ok (.lreturn, 1) := by decide +kernel
theorem dX6_takeAll_0 : decode cX6_takeAll 0 = .ok (.aload_n 0, 1) := by decide +kernel
theorem dX6_takeAll_1 : decode cX6_takeAll 1 = .ok (.getfield 12, 3) := by decide +kernel
theorem dX6_takeAll_4 : decode cX6_takeAll 4 = .ok (.invokevirtual 40, 3) := by decide +kernel
theorem dX6_takeAll_7 : decode cX6_takeAll 7 = .ok (.aload_n 0, 1) := by decide +kernel
theorem dX6_takeAll_8 : decode cX6_takeAll 8 = .ok (.getfield 18, 3) := by decide +kernel
theorem dX6_takeAll_11 : decode cX6_takeAll 11 = .ok (.invokevirtual 40, 3) := by decide +kernel
theorem dX6_takeAll_14 : decode cX6_takeAll 14 = .ok (.aload_n 0, 1) := by decide +kernel
theorem dX6_takeAll_15 : decode cX6_takeAll 15 = .ok (.getfield 21, 3) := by decide +kernel
theorem dX6_takeAll_18 : decode cX6_takeAll 18 = .ok (.invokevirtual 40, 3) := by decide +kernel
theorem dX6_takeAll_21 : decode cX6_takeAll 21 = .ok (.aload_n 0, 1) := by decide +kernel
theorem dX6_takeAll_22 : decode cX6_takeAll 22 = .ok (.getfield 24, 3) := by decide +kernel
theorem dX6_takeAll_25 : decode cX6_takeAll 25 = .ok (.iconst 0, 1) := by decide +kernel
theorem dX6_takeAll_26 : decode cX6_takeAll 26 = .ok (.invokevirtual 43, 3) := by decide +kernel
theorem dX6_takeAll_29 : decode cX6_takeAll 29 = .ok (.istore_n 1, 1) := by decide +kernel
theorem dX6_takeAll_30 : decode cX6_takeAll 30 = .ok (.iconst 0, 1) := by decide +kernel
theorem dX6_takeAll_31 : decode cX6_takeAll 31 = .ok (.istore_n 2, 1) := by decide +kernel
theorem dX6_takeAll_32 : decode cX6_takeAll 32 = .ok (.iload_n 2, 1) := by decide +kernel
theorem dX6_takeAll_33 : decode cX6_takeAll 33 = .ok (.aload_n 0, 1) := by decide +kernel
theorem dX6_takeAll_34 : decode cX6_takeAll 34 = .ok (.getfield 24, 3) := by decide +kernel
theorem dX6_takeAll_37 : decode cX6_takeAll 37 = .ok (.invokevirtual 48, 3) := by decide +kernel
theorem dX6_takeAll_40 : decode cX6_takeAll 40 = .ok (.if_icmp .ge 106, 3) := by decide +kernel
theorem dX6_takeAll_43 : decode cX6_takeAll 43 = .ok (.iload_n 1, 1) := by decide +kernel
theorem dX6_takeAll_44 : decode cX6_takeAll 44 = .ok (.aload_n 0, 1) := by decide +kernel
theorem dX6_takeAll_45 : decode cX6_takeAll 45 = .ok (.getfield 24, 3) := by decide +kernel
theorem dX6_takeAll_48 : decode cX6_takeAll 48 = .ok (.invokevirtual 48, 3) := by decide +kernel
theorem dX6_takeAll_51 : decode cX6_takeAll 51 = .ok (.if_icmp .ge 16, 3) := by decide +kernel
theorem dX6_takeAll_54 : decode cX6_takeAll 54 = .ok (.aload_n 0, 1) := by decide +kernel
theorem dX6_takeAll_55 : decode cX6_takeAll 55 = .ok (.getfield 24, 3) := by decide +kernel
theorem dX6_takeAll_58 : decode cX6_takeAll 58 = .ok (.iload_n 1, 1) := by decide +kernel
theorem dX6_takeAll_59 : decode cX6_takeAll 59 = .ok (.invokevirtual 49, 3) := by decide +kernel
theorem dX6_takeAll_62 : decode cX6_takeAll 62 = .ok (.bipush 59, 2) := by decide +kernel
theorem dX6_takeAll_64 : decode cX6_takeAll 64 = .ok (.if_icmp .ne 5, 3) := by decide +kernel
theorem dX6_takeAll_67 : decode cX6_takeAll 67 = .ok (.iconst 1, 1) := by decide +kernel
theorem dX6_takeAll_68 : decode cX6_takeAll 68 = .ok (.ireturn, 1) := by decide +kernel
theorem dX6_takeAll_69 : decode cX6_takeAll 69 = .ok (.aload_n 0, 1) := by decide +kernel
theorem dX6_takeAll_70 : decode cX6_takeAll 70 = .ok (.iload_n 1, 1) := by decide +kernel
theorem dX6_takeAll_71 : decode cX6_takeAll 71 = .ok (.invokevirtual 50, 3) := by decide +kernel
theorem dX6_takeAll_74 : decode cX6_takeAll 74 = .ok (.istore_n 3, 1) := by decide +kernel
theorem dX6_takeAll_75 : decode cX6_takeAll 75 = .ok (.iload_n 3, 1) := by decide +kernel
theorem dX6_takeAll_76 : decode cX6_takeAll 76 = .ok (.iconst (-1), 1) := by decide +kernel
theorem dX6_takeAll_77 : decode cX6_takeAll 77 = .ok (.if_icmp .ne 5, 3) := by decide +kernel
theorem dX6_takeAll_80 : decode cX6_takeAll 80 = .ok (.iconst 0, 1) := by decide +kernel
theorem dX6_takeAll_81 : decode cX6_takeAll 81 = .ok (.ireturn, 1) := by decide +kernel
theorem dX6_takeAll_82 : decode cX6_takeAll 82 = .ok (.aload_n 0, 1) := by decide +kernel
theorem dX6_takeAll_83 : decode cX6_takeAll 83 = .ok (.getfield 12, 3) := by decide +kernel
theorem dX6_takeAll_86 : decode cX6_takeAll 86 = .ok (.invokevirtual 28, 3) := by decide +kernel
theorem dX6_takeAll_89 : decode cX6_takeAll 89 = .ok (.iconst 1, 1) := by decide +kernel
theorem dX6_takeAll_90 : decode cX6_takeAll 90 = .ok (.if_icmp .ne 11, 3) := by decide +kernel
theorem dX6_takeAll_93 : decode cX6_takeAll 93 = .ok (.aload_n 0, 1) := by decide +kernel
theorem dX6_takeAll_94 : decode cX6_takeAll 94 = .ok (.aload_n 0, 1) := by decide +kernel
theorem dX6_takeAll_95 : decode cX6_takeAll 95 = .ok (.getfield 53, 3) := by decide +kernel
theorem dX6_takeAll_98 : decode cX6_takeAll 98 = .ok (.putfield 36, 3) := by decide +kernel
theorem dX6_takeAll_101 : decode cX6_takeAll 101 = .ok (.aload_n 0, 1) := by decide +kernel
theorem dX6_takeAll_102 : decode cX6_takeAll 102 = .ok (.getfield 12, 3) := by decide +kernel
theorem dX6_takeAll_105 : decode cX6_takeAll 105 = .ok (.iload_n 3, 1) := by decide +kernel
theorem dX6_takeAll_106 : decode cX6_takeAll 106 = .ok (.invokevirtual 56, 3) := by decide +kernel
theorem dX6_takeAll_109 : decode cX6_takeAll 109 = .ok (.aload_n 0, 1) := by decide +kernel
theorem dX6_takeAll_110 : decode cX6_takeAll 110 = .ok (.getfield 18, 3) := by decide +kernel
theorem dX6_takeAll_113 : decode cX6_takeAll 113 = .ok (.iload_n 1, 1) := by decide +kernel
theorem dX6_takeAll_114 : decode cX6_takeAll 114 = .ok (.invokevirtual 56, 3) := by decide +kernel
theorem dX6_takeAll_117 : decode cX6_takeAll 117 = .ok (.aload_n 0, 1) := by decide +kernel
theorem dX6_takeAll_118 : decode cX6_takeAll 118 = .ok (.getfield 21, 3) := by decide +kernel
theorem dX6_takeAll_121 : decode cX6_takeAll 121 = .ok (.aload_n 0, 1) := by decide +kernel
theorem dX6_takeAll_122 : decode cX6_takeAll 122 = .ok (.getfield 60, 3) := by decide +kernel
theorem dX6_takeAll_125 : decode cX6_takeAll 125 = .ok (.invokevirtual 56, 3) := by decide +kernel
theorem dX6_takeAll_128 : decode cX6_takeAll 128 = .ok (.aload_n 0, 1) := by decide +kernel
theorem dX6_takeAll_129 : decode cX6_takeAll 129 = .ok (.getfield 24, 3) := by decide +kernel
theorem dX6_takeAll_132 : decode cX6_takeAll 132 = .ok (.aload_n 0, 1) := by decide +kernel
theorem dX6_takeAll_133 : decode cX6_takeAll 133 = .ok (.getfield 60, 3) := by decide +kernel
theorem dX6_takeAll_136 : decode cX6_takeAll 136 = .ok (.invokevirtual 43, 3) := by decide +kernel
theorem dX6_takeAll_139 : decode cX6_takeAll 139 = .ok (.istore_n 1, 1) := by decide +kernel
theorem dX6_takeAll_140 : decode cX6_takeAll 140 = .ok (.iinc 2 1, 3) := by decide +kernel
theorem dX6_takeAll_143 : decode cX6_takeAll 143 = .ok (.goto (-111), 3) := by decide +kernel
theorem dX6_takeAll_146 : decode cX6_takeAll 146 = .ok (.iconst 1, 1) := by decide +kernel
theorem dX6_takeAll_147 : decode cX6_takeAll 147 = .ok (.ireturn, 1) := by decide +kernel
theorem dX6_take_0 : decode cX6_take 0 = .ok (.aload_n 0, 1) := by decide +kernel
theorem dX6_take_1 : decode cX6_take 1 = .ok (.getfield 24, 3) := by decide +kernel
theorem dX6_take_4 : decode cX6_take 4 = .ok (.iload_n 1, 1) := by decide +kernel
theorem dX6_take_5 : decode cX6_take 5 = .ok (.invokevirtual 49, 3) := by decide +kernel
theorem dX6_take_8 : decode cX6_take 8 = .ok (.istore_n 2, 1) := by decide +kernel
theorem dX6_take_9 : decode cX6_take 9 = .ok (.iload_n 2, 1) := by decide +kernel
theorem dX6_take_10 : decode cX6_take 10 = .ok (.invokestatic 64, 3) := by decide +kernel
theorem dX6_take_13 : decode cX6_take 13 = .ok (.ifCond .eq 9, 3) := by decide +kernel
theorem dX6_take_16 : decode cX6_take 16 = .ok (.aload_n 0, 1) := by decide +kernel
theorem dX6_take_17 : decode cX6_take 17 = .ok (.iload_n 1, 1) := by decide +kernel
theorem dX6_take_18 : decode cX6_take 18 = .ok (.invokevirtual 68, 3) := by decide +kernel
theorem dX6_take_21 : decode cX6_take 21 = .ok (.ireturn, 1) := by decide +kernel
theorem dX6_take_22 : decode cX6_take 22 = .ok (.iload_n 2, 1) := by decide +kernel
theorem dX6_take_23 : decode cX6_take 23 = .ok (.invokestatic 71, 3) := by decide +kernel
theorem dX6_take_26 : decode cX6_take 26 = .ok (.ifCond .eq 32, 3) := by decide +kernel
theorem dX6_take_29 : decode cX6_take 29 = .ok (.aload_n 0, 1) := by decide +kernel
theorem dX6_take_30 : decode cX6_take 30 = .ok (.aload_n 0, 1) := by decide +kernel
theorem dX6_take_31 : decode cX6_take 31 = .ok (.getfield 24, 3) := by decide +kernel
theorem dX6_take_34 : decode cX6_take 34 = .ok (.iload_n 1, 1) := by decide +kernel
theorem dX6_take_35 : decode cX6_take 35 = .ok (.invokevirtual 74, 3) := by decide +kernel
theorem dX6_take_38 : decode cX6_take 38 = .ok (.putfield 60, 3) := by decide +kernel
theorem dX6_take_41 : decode cX6_take 41 = .ok (.aload_n 0, 1) := by decide +kernel
theorem dX6_take_42 : decode cX6_take 42 = .ok (.getfield 60, 3) := by decide +kernel
theorem dX6_take_45 : decode cX6_take 45 = .ok (.iload_n 1, 1) := by decide +kernel
theorem dX6_take_46 : decode cX6_take 46 = .ok (.isub, 1) := by decide +kernel
theorem dX6_take_47 : decode cX6_take 47 = .ok (.bipush 63, 2) := by decide +kernel
theorem dX6_take_49 : decode cX6_take 49 = .ok (.if_icmp .gt 7, 3) := by decide +kernel
theorem dX6_take_52 : decode cX6_take 52 = .ok (.iconst 1, 1) := by decide +kernel
theorem dX6_take_53 : decode cX6_take 53 = .ok (.goto 4, 3) := by decide +kernel
theorem dX6_take_56 : decode cX6_take 56 = .ok (.iconst (-1), 1) := by decide +kernel
theorem dX6_take_57 : decode cX6_take 57 = .ok (.ireturn, 1) := by decide +kernel
theorem dX6_take_58 : decode cX6_take 58 = .ok (.iload_n 2, 1) := by decide +kernel
theorem dX6_take_59 : decode cX6_take 59 = .ok (.bipush 39, 2) := by decide +kernel
theorem dX6_take_61 : decode cX6_take 61 = .ok (.if_icmp .ne 9, 3) := by decide +kernel
theorem dX6_take_64 : decode cX6_take 64 = .ok (.aload_n 0, 1) := by decide +kernel
theorem dX6_take_65 : decode cX6_take 65 = .ok (.iload_n 1, 1) := by decide +kernel
theorem dX6_take_66 : decode cX6_take 66 = .ok (.invokevirtual 77, 3) := by decide +kernel
theorem dX6_take_69 : decode cX6_take 69 = .ok (.ireturn, 1) := by decide +kernel
theorem dX6_take_70 : decode cX6_take 70 = .ok (.iload_n 2, 1) := by decide +kernel
theorem dX6_take_71 : decode cX6_take 71 = .ok (.bipush 34, 2) := by decide +kernel
theorem dX6_take_73 : decode cX6_take 73 = .ok (.if_icmp .ne 11, 3) := by decide +kernel
theorem dX6_take_76 : decode cX6_take 76 = .ok (.aload_n 0, 1) := by decide +kernel
theorem dX6_take_77 : decode cX6_take 77 = .ok (.iload_n 1, 1) := by decide +kernel
theorem dX6_take_78 : decode cX6_take 78 = .ok (.invokevirtual 80, 3) := by decide +kernel
theorem dX6_take_81 : decode cX6_take 81 = .ok (.goto 9, 3) := by decide +kernel
theorem dX6_take_84 : decode cX6_take 84 = .ok (.aload_n 0, 1) := by decide +kernel
theorem dX6_take_85 : decode cX6_take 85 = .ok (.iload_n 1, 1) := by decide +kernel
theorem dX6_take_86 : decode cX6_take 86 = .ok (.iload_n 2, 1) := by decide +kernel
theorem dX6_take_87 : decode cX6_take 87 = .ok (.invokevirtual 83, 3) := by decide +kernel
theorem dX6_take_90 : decode cX6_take 90 = .ok (.ireturn, 1) := by decide +kernel
theorem dX6_takeNumber_0 : decode cX6_takeNumber 0 = .ok (.bipush 10, 2) := by decide +kernel
theorem dX6_takeNumber_2 : decode cX6_takeNumber 2 = .ok (.istore_n 2, 1) := by decide +kernel
theorem dX6_takeNumber_3 : decode cX6_takeNumber 3 = .ok (.aload_n 0, 1) := by decide +kernel
theorem dX6_takeNumber_4 : decode cX6_takeNumber 4 = .ok (.getfield 24, 3) := by decide +kernel
theorem dX6_takeNumber_7 : decode cX6_takeNumber 7 = .ok (.iload_n 1, 1) := by decide +kernel
theorem dX6_takeNumber_8 : decode cX6_takeNumber 8 = .ok (.invokevirtual 49, 3) := by decide +kernel
theorem dX6_takeNumber_11 : decode cX6_takeNumber 11 = .ok (.bipush 48, 2) := by decide +kernel
theorem dX6_takeNumber_13 : decode cX6_takeNumber 13 = .ok (.if_icmp .ne 17, 3) := by decide +kernel
theorem dX6_takeNumber_16 : decode cX6_takeNumber 16 = .ok (.aload_n 0, 1) := by decide +kernel
theorem dX6_takeNumber_17 : decode cX6_takeNumber 17 = .ok (.getfield 24, 3) := by decide +kernel
theorem dX6_takeNumber_20 : decode cX6_takeNumber 20 = .ok (.iload_n 1, 1) := by decide +kernel
theorem dX6_takeNumber_21 : decode cX6_takeNumber 21 = .ok (.iconst 1, 1) := by decide +kernel
theorem dX6_takeNumber_22 : decode cX6_takeNumber 22 = .ok (.iadd, 1) := by decide +kernel
theorem dX6_takeNumber_23 : decode cX6_takeNumber 23 = .ok (.invokevirtual 49, 3) := by decide +kernel
theorem dX6_takeNumber_26 : decode cX6_takeNumber 26 = .ok (.invokestatic 87, 3) := by decide +kernel
theorem dX6_takeNumber_29 : decode cX6_takeNumber 29 = .ok (.istore_n 2, 1) := by decide +kernel
theorem dX6_takeNumber_30 : decode cX6_takeNumber 30 = .ok (.iload_n 2, 1) := by decide +kernel
theorem dX6_takeNumber_31 : decode cX6_takeNumber 31 = .ok (.bipush 10, 2) := by decide +kernel
theorem dX6_takeNumber_33 : decode cX6_takeNumber 33 = .ok (.if_icmp .ne 7, 3) := by decide +kernel
theorem dX6_takeNumber_36 : decode cX6_takeNumber 36 = .ok (.iload_n 1, 1) := by decide +kernel
theorem dX6_takeNumber_37 : decode cX6_takeNumber 37 = .ok (.goto 6, 3) := by decide +kernel
theorem dX6_takeNumber_40 : decode cX6_takeNumber 40 = .ok (.iload_n 1, 1) := by decide +kernel
theorem dX6_takeNumber_41 : decode cX6_takeNumber 41 = .ok (.iconst 2, 1) := by decide +kernel
theorem dX6_takeNumber_42 : decode cX6_takeNumber 42 = .ok (.iadd, 1) := by decide +kernel
theorem dX6_takeNumber_43 : decode cX6_takeNumber 43 = .ok (.istore_n 3, 1) := by decide +kernel
theorem dX6_takeNumber_44 : decode cX6_takeNumber 44 = .ok (.iconst 1, 1) := by decide +kernel
theorem dX6_takeNumber_45 : decode cX6_takeNumber 45 = .ok (.istore 4, 2) := by decide +kernel
theorem dX6_takeNumber_47 : decode cX6_takeNumber 47 = .ok (.aload_n 0, 1) := by decide +kernel
theorem dX6_takeNumber_48 : decode cX6_takeNumber 48 = .ok (.lconst 0, 1) := by decide +kernel
theorem dX6_takeNumber_49 : decode cX6_takeNumber 49 = .ok (.putfield 53, 3) := by decide +kernel
theorem dX6_takeNumber_52 : decode cX6_takeNumber 52 = .ok (.aload_n 0, 1) := by decide +kernel
theorem dX6_takeNumber_53 : decode cX6_takeNumber 53 = .ok (.iload_n 3, 1) := by decide +kernel
theorem dX6_takeNumber_54 : decode cX6_takeNumber 54 = .ok (.putfield 60, 3) := by decide +kernel
theorem dX6_takeNumber_57 : decode cX6_takeNumber 57 = .ok (.aload_n 0, 1) := by decide +kernel
theorem dX6_takeNumber_58 : decode cX6_takeNumber 58 = .ok (.getfield 60, 3) := by decide +kernel
theorem dX6_takeNumber_61 : decode cX6_takeNumber 61 = .ok (.aload_n 0, 1) := by decide +kernel
theorem dX6_takeNumber_62 : decode cX6_takeNumber 62 = .ok (.getfield 24, 3) := by decide +kernel
theorem dX6_takeNumber_65 : decode cX6_takeNumber 65 = .ok (.invokevirtual 48, 3) := by decide +kernel
theorem dX6_takeNumber_68 : decode cX6_takeNumber 68 = .ok (.if_icmp .ge 88, 3) := by decide +kernel
theorem dX6_takeNumber_71 : decode cX6_takeNumber 71 = .ok (.iload_n 2, 1) := by decide +kernel
theorem dX6_takeNumber_72 : decode cX6_takeNumber 72 = .ok (.aload_n 0, 1) := by decide +kernel
theorem dX6_takeNumber_73 : decode cX6_takeNumber 73 = .ok (.getfield 24, 3) := by decide +kernel
theorem dX6_takeNumber_76 : decode cX6_takeNumber 76 = .ok (.aload_n 0, 1) := by decide +kernel
theorem dX6_takeNumber_77 : decode cX6_takeNumber 77 = .ok (.getfield 60, 3) := by decide +kernel
theorem dX6_takeNumber_80 : decode cX6_takeNumber 80 = .ok (.invokevirtual 49, 3) := by decide +kernel
theorem dX6_takeNumber_83 : decode cX6_takeNumber 83 = .ok (.invokestatic 90, 3) := by decide +kernel
theorem dX6_takeNumber_86 : decode cX6_takeNumber 86 = .ok (.ifCond .lt 70, 3) := by decide +kernel
theorem dX6_takeNumber_89 : decode cX6_takeNumber 89 = .ok (.iload_n 2, 1) := by decide +kernel
theorem dX6_takeNumber_90 : decode cX6_takeNumber 90 = .ok (.aload_n 0, 1) := by decide +kernel
theorem dX6_takeNumber_91 : decode cX6_takeNumber 91 = .ok (.getfield 24, 3) := by decide +kernel
theorem dX6_takeNumber_94 : decode cX6_takeNumber 94 = .ok (.aload_n 0, 1) := by decide +kernel
theorem dX6_takeNumber_95 : decode cX6_takeNumber 95 = .ok (.getfield 60, 3) := by decide +kernel
theorem dX6_takeNumber_98 : decode cX6_takeNumber 98 = .ok (.invokevirtual 49, 3) := by decide +kernel
theorem dX6_takeNumber_101 : decode cX6_takeNumber 101 = .ok (.invokestatic 90, 3) := by decide +kernel
theorem dX6_takeNumber_104 : decode cX6_takeNumber 104 = .ok (.istore 5, 2) := by decide +kernel
theorem dX6_takeNumber_106 : decode cX6_takeNumber 106 = .ok (.iload 4, 2) := by decide +kernel
theorem dX6_takeNumber_108 : decode cX6_takeNumber 108 = .ok (.ifCond .eq 17, 3) := by decide +kernel
theorem dX6_takeNumber_111 : decode cX6_takeNumber 111 = .ok (.aload_n 0, 1) := by decide +kernel
theorem dX6_takeNumber_112 : decode cX6_takeNumber 112 = .ok (.iload_n 2, 1) := by decide +kernel
theorem dX6_takeNumber_113 : decode cX6_takeNumber 113 = .ok (.iload 5, 2) := by decide +kernel
theorem dX6_takeNumber_115 : decode cX6_takeNumber 115 = .ok (.invokevirtual 93, 3) := by decide +kernel
theorem dX6_takeNumber_118 : decode cX6_takeNumber 118 = .ok (.ifCond .eq 7, 3) := by decide +kernel
theorem dX6_takeNumber_121 : decode cX6_takeNumber 121 = .ok (.iconst 1, 1) := by decide +kernel
theorem dX6_takeNumber_122 : decode cX6_takeNumber 122 = .ok (.goto 4, 3) := by decide +kernel
theorem dX6_takeNumber_125 : decode cX6_takeNumber 125 = .ok (.iconst 0, 1) := by decide +kernel
theorem dX6_takeNumber_126 : decode cX6_takeNumber 126 = .ok (.istore 4, 2) := by decide +kernel
theorem dX6_takeNumber_128 : decode cX6_takeNumber 128 = .ok (.aload_n 0, 1) := by decide +kernel
theorem dX6_takeNumber_129 : decode cX6_takeNumber 129 = .ok (.aload_n 0, 1) := by decide +kernel
theorem dX6_takeNumber_130 : decode cX6_takeNumber 130 = .ok (.getfield 53, 3) := by decide +kernel
theorem dX6_takeNumber_133 : decode cX6_takeNumber 133 = .ok (.iload_n 2, 1) := by decide +kernel
theorem dX6_takeNumber_134 : decode cX6_takeNumber 134 = .ok (.i2l, 1) := by decide +kernel
theorem dX6_takeNumber_135 : decode cX6_takeNumber 135 = .ok (.lmul, 1) := by decide +kernel
theorem dX6_takeNumber_136 : decode cX6_takeNumber 136 = .ok (.iload 5, 2) := by decide +kernel
theorem dX6_takeNumber_138 : decode cX6_takeNumber 138 = .ok (.i2l, 1) := by decide +kernel
theorem dX6_takeNumber_139 : decode cX6_takeNumber 139 = .ok (.ladd, 1) := by decide +kernel
theorem dX6_takeNumber_140 : decode cX6_takeNumber 140 = .ok (.putfield 53, 3) := by decide +kernel
theorem dX6_takeNumber_143 : decode cX6_takeNumber 143 = .ok (.aload_n 0, 1) := by decide +kernel
theorem dX6_takeNumber_144 : decode cX6_takeNumber 144 = .ok (.dup, 1) := by decide +kernel
theorem dX6_takeNumber_145 : decode cX6_takeNumber 145 = .ok (.getfield 60, 3) := by decide +kernel
theorem dX6_takeNumber_148 : decode cX6_takeNumber 148 = .ok (.iconst 1, 1) := by decide +kernel
theorem dX6_takeNumber_149 : decode cX6_takeNumber 149 = .ok (.iadd, 1) := by decide +kernel
theorem dX6_takeNumber_150 : decode cX6_takeNumber 150 = .ok (.putfield 60, 3) := by decide +kernel
theorem dX6_takeNumber_153 : decode cX6_takeNumber 153 = .ok (.goto (-96), 3) := by decide +kernel
theorem dX6_takeNumber_156 : decode cX6_takeNumber 156 = .ok (.iload 4, 2) := by decide +kernel
theorem dX6_takeNumber_158 : decode cX6_takeNumber 158 = .ok (.ifCond .eq 32, 3) := by decide +kernel
theorem dX6_takeNumber_161 : decode cX6_takeNumber 161 = .ok (.aload_n 0, 1) := by decide +kernel
theorem dX6_takeNumber_162 : decode cX6_takeNumber 162 = .ok (.getfield 60, 3) := by decide +kernel
theorem dX6_takeNumber_165 : decode cX6_takeNumber 165 = .ok (.iload_n 3, 1) := by decide +kernel
theorem dX6_takeNumber_166 : decode cX6_takeNumber 166 = .ok (.if_icmp .le 24, 3) := by decide +kernel
theorem dX6_takeNumber_169 : decode cX6_takeNumber 169 = .ok (.aload_n 0, 1) := by decide +kernel
theorem dX6_takeNumber_170 : decode cX6_takeNumber 170 = .ok (.getfield 24, 3) := by decide +kernel
theorem dX6_takeNumber_173 : decode cX6_takeNumber 173 = .ok (.aload_n 0, 1) := by decide +kernel
theorem dX6_takeNumber_174 : decode cX6_takeNumber 174 = .ok (.getfield 60, 3) := by decide +kernel
theorem dX6_takeNumber_177 : decode cX6_takeNumber 177 = .ok (.invokevirtual 49, 3) := by decide +kernel
theorem dX6_takeNumber_180 : decode cX6_takeNumber 180 = .ok (.invokestatic 71, 3) := by decide +kernel
theorem dX6_takeNumber_183 : decode cX6_takeNumber 183 = .ok (.ifCond .ne 7, 3) := by decide +kernel
theorem dX6_takeNumber_186 : decode cX6_takeNumber 186 = .ok (.iconst 2, 1) := by decide +kernel
theorem dX6_takeNumber_187 : decode cX6_takeNumber 187 = .ok (.goto 4, 3) := by decide +kernel
theorem dX6_takeNumber_190 : decode cX6_takeNumber 190 = .ok (.iconst (-1), 1) := by decide +kernel
theorem dX6_takeNumber_191 : decode cX6_takeNumber 191 = .ok (.ireturn, 1) := by decide +kernel
theorem dX6_baseMarked_0 : decode cX6_baseMarked 0 = .ok (.iload_n 0, 1) := by decide +kernel
theorem dX6_baseMarked_1 : decode cX6_baseMarked 1 = .ok (.bipush 120, 2) := by decide +kernel
theorem dX6_baseMarked_3 : decode cX6_baseMarked 3 = .ok (.if_icmp .ne 6, 3) := by decide +kernel
theorem dX6_baseMarked_6 : decode cX6_baseMarked 6 = .ok (.bipush 16, 2) := by decide +kernel
theorem dX6_baseMarked_8 : decode cX6_baseMarked 8 = .ok (.ireturn, 1) := by decide +kernel
theorem dX6_baseMarked_9 : decode cX6_baseMarked 9 = .ok (.iload_n 0, 1) := by decide +kernel
theorem dX6_baseMarked_10 : decode cX6_baseMarked 10 = .ok (.bipush 98, 2) := by decide +kernel
theorem dX6_baseMarked_12 : decode cX6_baseMarked 12 = .ok (.if_icmp .ne 7, 3) := by decide +kernel
theorem dX6_baseMarked_15 : decode cX6_baseMarked 15 = .ok (.iconst 2, 1) := by decide +kernel
theorem dX6_baseMarked_16 : decode cX6_baseMarked 16 = .ok (.goto 5, 3) := by decide +kernel
theorem dX6_baseMarked_19 : decode cX6_baseMarked 19 = .ok (.bipush 10, 2) := by decide +kernel
theorem dX6_baseMarked_21 : decode cX6_baseMarked 21 = .ok (.ireturn, 1) := by decide +kernel
theorem dX6_hasRoom_0 : decode cX6_hasRoom 0 = .ok (.iload_n 1, 1) := by decide +kernel
theorem dX6_hasRoom_1 : decode cX6_hasRoom 1 = .ok (.bipush 16, 2) := by decide +kernel
theorem dX6_hasRoom_3 : decode cX6_hasRoom 3 = .ok (.if_icmp .ne 21, 3) := by decide +kernel
theorem dX6_hasRoom_6 : decode cX6_hasRoom 6 = .ok (.aload_n 0, 1) := by decide +kernel
theorem dX6_hasRoom_7 : decode cX6_hasRoom 7 = .ok (.getfield 53, 3) := by decide +kernel
theorem dX6_hasRoom_10 : decode cX6_hasRoom 10 = .ok (.bipush 60, 2) := by decide +kernel
theorem dX6_hasRoom_12 : decode cX6_hasRoom 12 = .ok (.lushr, 1) := by decide +kernel
theorem dX6_hasRoom_13 : decode cX6_hasRoom 13 = .ok (.lconst 0, 1) := by decide +kernel
theorem dX6_hasRoom_14 : decode cX6_hasRoom 14 = .ok (.lcmp, 1) := by decide +kernel
theorem dX6_hasRoom_15 : decode cX6_hasRoom 15 = .ok (.ifCond .ne 7, 3) := by decide +kernel
theorem dX6_hasRoom_18 : decode cX6_hasRoom 18 = .ok (.iconst 1, 1) := by decide +kernel
theorem dX6_hasRoom_19 : decode cX6_hasRoom 19 = .ok (.goto 4, 3) := by decide +kernel
theorem dX6_hasRoom_22 : decode cX6_hasRoom 22 = .ok (.iconst 0, 1) := by decide +kernel
theorem dX6_hasRoom_23 : decode cX6_hasRoom 23 = .ok (.ireturn, 1) := by decide +kernel
theorem dX6_hasRoom_24 : decode cX6_hasRoom 24 = .ok (.iload_n 1, 1) := by decide +kernel
theorem dX6_hasRoom_25 : decode cX6_hasRoom 25 = .ok (.iconst 2, 1) := by decide +kernel
theorem dX6_hasRoom_26 : decode cX6_hasRoom 26 = .ok (.if_icmp .ne 21, 3) := by decide +kernel
theorem dX6_hasRoom_29 : decode cX6_hasRoom 29 = .ok (.aload_n 0, 1) := by decide +kernel
theorem dX6_hasRoom_30 : decode cX6_hasRoom 30 = .ok (.getfield 53, 3) := by decide +kernel
theorem dX6_hasRoom_33 : decode cX6_hasRoom 33 = .ok (.bipush 63, 2) := by decide +kernel
theorem dX6_hasRoom_35 : decode cX6_hasRoom 35 = .ok (.lushr, 1) := by decide +kernel
theorem dX6_hasRoom_36 : decode cX6_hasRoom 36 = .ok (.lconst 0, 1) := by decide +kernel
theorem dX6_hasRoom_37 : decode cX6_hasRoom 37 = .ok (.lcmp, 1) := by decide +kernel
theorem dX6_hasRoom_38 : decode cX6_hasRoom 38 = .ok (.ifCond .ne 7, 3) := by decide +kernel
theorem dX6_hasRoom_41 : decode cX6_hasRoom 41 = .ok (.iconst 1, 1) := by decide +kernel
theorem dX6_hasRoom_42 : decode cX6_hasRoom 42 = .ok (.goto 4, 3) := by decide +kernel
theorem dX6_hasRoom_45 : decode cX6_hasRoom 45 = .ok (.iconst 0, 1) := by decide +kernel
theorem dX6_hasRoom_46 : decode cX6_hasRoom 46 = .ok (.ireturn, 1) := by decide +kernel
theorem dX6_hasRoom_47 : decode cX6_hasRoom 47 = .ok (.ldc2_w 97, 3) := by decide +kernel
theorem dX6_hasRoom_50 : decode cX6_hasRoom 50 = .ok (.lstore_n 3, 1) := by decide +kernel
theorem dX6_hasRoom_51 : decode cX6_hasRoom 51 = .ok (.aload_n 0, 1) := by decide +kernel
theorem dX6_hasRoom_52 : decode cX6_hasRoom 52 = .ok (.getfield 53, 3) := by decide +kernel
theorem dX6_hasRoom_55 : decode cX6_hasRoom 55 = .ok (.lconst 0, 1) := by decide +kernel
theorem dX6_hasRoom_56 : decode cX6_hasRoom 56 = .ok (.lcmp, 1) := by decide +kernel
theorem dX6_hasRoom_57 : decode cX6_hasRoom 57 = .ok (.ifCond .lt 30, 3) := by decide +kernel
theorem dX6_hasRoom_60 : decode cX6_hasRoom 60 = .ok (.aload_n 0, 1) := by decide +kernel
theorem dX6_hasRoom_61 : decode cX6_hasRoom 61 = .ok (.getfield 53, 3) := by decide +kernel
theorem dX6_hasRoom_64 : decode cX6_hasRoom 64 = .ok (.lload_n 3, 1) := by decide +kernel
theorem dX6_hasRoom_65 : decode cX6_hasRoom 65 = .ok (.lcmp, 1) := by decide +kernel
theorem dX6_hasRoom_66 : decode cX6_hasRoom 66 = .ok (.ifCond .lt 17, 3) := by decide +kernel
theorem dX6_hasRoom_69 : decode cX6_hasRoom 69 = .ok (.aload_n 0, 1) := by decide +kernel
theorem dX6_hasRoom_70 : decode cX6_hasRoom 70 = .ok (.getfield 53, 3) := by decide +kernel
theorem dX6_hasRoom_73 : decode cX6_hasRoom 73 = .ok (.lload_n 3, 1) := by decide +kernel
theorem dX6_hasRoom_74 : decode cX6_hasRoom 74 = .ok (.lcmp, 1) := by decide +kernel
theorem dX6_hasRoom_75 : decode cX6_hasRoom 75 = .ok (.ifCond .ne 12, 3) := by decide +kernel
theorem dX6_hasRoom_78 : decode cX6_hasRoom 78 = .ok (.iload_n 2, 1) := by decide +kernel
theorem dX6_hasRoom_79 : decode cX6_hasRoom 79 = .ok (.iconst 5, 1) := by decide +kernel
theorem dX6_hasRoom_80 : decode cX6_hasRoom 80 = .ok (.if_icmp .gt 7, 3) := by decide +kernel
theorem dX6_hasRoom_83 : decode cX6_hasRoom 83 = .ok (.iconst 1, 1) := by decide +kernel
theorem dX6_hasRoom_84 : decode cX6_hasRoom 84 = .ok (.goto 4, 3) := by decide +kernel
theorem dX6_hasRoom_87 : decode cX6_hasRoom 87 = .ok (.iconst 0, 1) := by decide +kernel
theorem dX6_hasRoom_88 : decode cX6_hasRoom 88 = .ok (.ireturn, 1) := by decide +kernel
theorem dX6_takeCharacter_0 : decode cX6_takeCharacter 0 = .ok (.aload_n 0, 1) := by decide +kernel
theorem dX6_takeCharacter_1 : decode cX6_takeCharacter 1 = .ok (.iload_n 1, 1) := by decide +kernel
theorem dX6_takeCharacter_2 : decode cX6_takeCharacter 2 = .ok (.iconst 1, 1) := by decide +kernel
theorem dX6_takeCharacter_3 : decode cX6_takeCharacter 3 = .ok (.iadd, 1) := by decide +kernel
theorem dX6_takeCharacter_4 : decode cX6_takeCharacter 4 = .ok (.bipush 39, 2) := by decide +kernel
theorem dX6_takeCharacter_6 : decode cX6_takeCharacter 6 = .ok (.invokevirtual 99, 3) := by decide +kernel
theorem dX6_takeCharacter_9 : decode cX6_takeCharacter 9 = .ok (.istore_n 2, 1) := by decide +kernel
theorem dX6_takeCharacter_10 : decode cX6_takeCharacter 10 = .ok (.iload_n 2, 1) := by decide +kernel
theorem dX6_takeCharacter_11 : decode cX6_takeCharacter 11 = .ok (.ifCond .lt 32, 3) := by decide +kernel
theorem dX6_takeCharacter_14 : decode cX6_takeCharacter 14 = .ok (.aload_n 0, 1) := by decide +kernel
theorem dX6_takeCharacter_15 : decode cX6_takeCharacter 15 = .ok (.getfield 24, 3) := by decide +kernel
theorem dX6_takeCharacter_18 : decode cX6_takeCharacter 18 = .ok (.iload_n 2, 1) := by decide +kernel
theorem dX6_takeCharacter_19 : decode cX6_takeCharacter 19 = .ok (.invokevirtual 49, 3) := by decide +kernel
theorem dX6_takeCharacter_22 : decode cX6_takeCharacter 22 = .ok (.bipush 39, 2) := by decide +kernel
theorem dX6_takeCharacter_24 : decode cX6_takeCharacter 24 = .ok (.if_icmp .ne 19, 3) := by decide +kernel
theorem dX6_takeCharacter_27 : decode cX6_takeCharacter 27 = .ok (.aload_n 0, 1) := by decide +kernel
theorem dX6_takeCharacter_28 : decode cX6_takeCharacter 28 = .ok (.getfield 24, 3) := by decide +kernel
theorem dX6_takeCharacter_31 : decode cX6_takeCharacter 31 = .ok (.iload_n 2, 1) := by decide +kernel
theorem dX6_takeCharacter_32 : decode cX6_takeCharacter 32 = .ok (.iconst 1, 1) := by decide +kernel
theorem dX6_takeCharacter_33 : decode cX6_takeCharacter 33 = .ok (.iadd, 1) := by decide +kernel
theorem dX6_takeCharacter_34 : decode cX6_takeCharacter 34 = .ok (.invokevirtual 49, 3) := by decide +kernel
theorem dX6_takeCharacter_37 : decode cX6_takeCharacter 37 = .ok (.invokestatic 71, 3) := by decide +kernel
theorem dX6_takeCharacter_40 : decode cX6_takeCharacter 40 = .ok (.ifCond .eq 5, 3) := by decide +kernel
theorem dX6_takeCharacter_43 : decode cX6_takeCharacter 43 = .ok (.iconst (-1), 1) := by decide +kernel
theorem dX6_takeCharacter_44 : decode cX6_takeCharacter 44 = .ok (.ireturn, 1) := by decide +kernel
theorem dX6_takeCharacter_45 : decode cX6_takeCharacter 45 = .ok (.aload_n 0, 1) := by decide +kernel
theorem dX6_takeCharacter_46 : decode cX6_takeCharacter 46 = .ok (.iload_n 2, 1) := by decide +kernel
theorem dX6_takeCharacter_47 : decode cX6_takeCharacter 47 = .ok (.iconst 1, 1) := by decide +kernel
theorem dX6_takeCharacter_48 : decode cX6_takeCharacter 48 = .ok (.iadd, 1) := by decide +kernel
theorem dX6_takeCharacter_49 : decode cX6_takeCharacter 49 = .ok (.putfield 60, 3) := by decide +kernel
theorem dX6_takeCharacter_52 : decode cX6_takeCharacter 52 = .ok (.iconst 2, 1) := by decide +kernel
theorem dX6_takeCharacter_53 : decode cX6_takeCharacter 53 = .ok (.ireturn, 1) := by decide +kernel
theorem dX6_takeText_0 : decode cX6_takeText 0 = .ok (.iload_n 1, 1) := by decide +kernel
theorem dX6_takeText_1 : decode cX6_takeText 1 = .ok (.iconst 1, 1) := by decide +kernel
theorem dX6_takeText_2 : decode cX6_takeText 2 = .ok (.iadd, 1) := by decide +kernel
theorem dX6_takeText_3 : decode cX6_takeText 3 = .ok (.istore_n 2, 1) := by decide +kernel
theorem dX6_takeText_4 : decode cX6_takeText 4 = .ok (.iconst 0, 1) := by decide +kernel
theorem dX6_takeText_5 : decode cX6_takeText 5 = .ok (.istore_n 3, 1) := by decide +kernel
theorem dX6_takeText_6 : decode cX6_takeText 6 = .ok (.iload_n 3, 1) := by decide +kernel
theorem dX6_takeText_7 : decode cX6_takeText 7 = .ok (.aload_n 0, 1) := by decide +kernel
theorem dX6_takeText_8 : decode cX6_takeText 8 = .ok (.getfield 24, 3) := by decide +kernel
theorem dX6_takeText_11 : decode cX6_takeText 11 = .ok (.invokevirtual 48, 3) := by decide +kernel
theorem dX6_takeText_14 : decode cX6_takeText 14 = .ok (.if_icmp .ge 45, 3) := by decide +kernel
theorem dX6_takeText_17 : decode cX6_takeText 17 = .ok (.aload_n 0, 1) := by decide +kernel
theorem dX6_takeText_18 : decode cX6_takeText 18 = .ok (.getfield 24, 3) := by decide +kernel
theorem dX6_takeText_21 : decode cX6_takeText 21 = .ok (.iload_n 2, 1) := by decide +kernel
theorem dX6_takeText_22 : decode cX6_takeText 22 = .ok (.invokevirtual 49, 3) := by decide +kernel
theorem dX6_takeText_25 : decode cX6_takeText 25 = .ok (.bipush 34, 2) := by decide +kernel
theorem dX6_takeText_27 : decode cX6_takeText 27 = .ok (.if_icmp .ne 12, 3) := by decide +kernel
theorem dX6_takeText_30 : decode cX6_takeText 30 = .ok (.aload_n 0, 1) := by decide +kernel
theorem dX6_takeText_31 : decode cX6_takeText 31 = .ok (.iload_n 2, 1) := by decide +kernel
theorem dX6_takeText_32 : decode cX6_takeText 32 = .ok (.iconst 1, 1) := by decide +kernel
theorem dX6_takeText_33 : decode cX6_takeText 33 = .ok (.iadd, 1) := by decide +kernel
theorem dX6_takeText_34 : decode cX6_takeText 34 = .ok (.putfield 60, 3) := by decide +kernel
theorem dX6_takeText_37 : decode cX6_takeText 37 = .ok (.iconst 3, 1) := by decide +kernel
theorem dX6_takeText_38 : decode cX6_takeText 38 = .ok (.ireturn, 1) := by decide +kernel
theorem dX6_takeText_39 : decode cX6_takeText 39 = .ok (.aload_n 0, 1) := by decide +kernel
theorem dX6_takeText_40 : decode cX6_takeText 40 = .ok (.iload_n 2, 1) := by decide +kernel
theorem dX6_takeText_41 : decode cX6_takeText 41 = .ok (.bipush 34, 2) := by decide +kernel
theorem dX6_takeText_43 : decode cX6_takeText 43 = .ok (.invokevirtual 99, 3) := by decide +kernel
theorem dX6_takeText_46 : decode cX6_takeText 46 = .ok (.istore_n 2, 1) := by decide +kernel
theorem dX6_takeText_47 : decode cX6_takeText 47 = .ok (.iload_n 2, 1) := by decide +kernel
theorem dX6_takeText_48 : decode cX6_takeText 48 = .ok (.ifCond .ge 5, 3) := by decide +kernel
theorem dX6_takeText_51 : decode cX6_takeText 51 = .ok (.iconst (-1), 1) := by decide +kernel
theorem dX6_takeText_52 : decode cX6_takeText 52 = .ok (.ireturn, 1) := by decide +kernel
theorem dX6_takeText_53 : decode cX6_takeText 53 = .ok (.iinc 3 1, 3) := by decide +kernel
theorem dX6_takeText_56 : decode cX6_takeText 56 = .ok (.goto (-50), 3) := by decide +kernel
theorem dX6_takeText_59 : decode cX6_takeText 59 = .ok (.iconst (-1), 1) := by decide +kernel
theorem dX6_takeText_60 : decode cX6_takeText 60 = .ok (.ireturn, 1) := by decide +kernel
theorem dX6_behindCharacter_0 : decode cX6_behindCharacter 0 = .ok (.aload_n 0, 1) := by decide +kernel
theorem dX6_behindCharacter_1 : decode cX6_behindCharacter 1 = .ok (.getfield 24, 3) := by decide +kernel
theorem dX6_behindCharacter_4 : decode cX6_behindCharacter 4 = .ok (.iload_n 1, 1) := by decide +kernel
theorem dX6_behindCharacter_5 : decode cX6_behindCharacter 5 = .ok (.invokevirtual 49, 3) := by decide +kernel
theorem dX6_behindCharacter_8 : decode cX6_behindCharacter 8 = .ok (.istore_n 3, 1) := by decide +kernel
theorem dX6_behindCharacter_9 : decode cX6_behindCharacter 9 = .ok (.iload_n 3, 1) := by decide +kernel
theorem dX6_behindCharacter_10 : decode cX6_behindCharacter 10 = .ok (.invokestatic 102, 3) := by decide +kernel
theorem dX6_behindCharacter_13 : decode cX6_behindCharacter 13 = .ok (.ifCond .eq 8, 3) := by decide +kernel
theorem dX6_behindCharacter_16 : decode cX6_behindCharacter 16 = .ok (.iload_n 3, 1) := by decide +kernel
theorem dX6_behindCharacter_17 : decode cX6_behindCharacter 17 = .ok (.iload_n 2, 1) := by decide +kernel
theorem dX6_behindCharacter_18 : decode cX6_behindCharacter 18 = .ok (.if_icmp .ne 5, 3) := by decide +kernel
theorem dX6_behindCharacter_21 : decode cX6_behindCharacter 21 = .ok (.iconst (-1), 1) := by decide +kernel
theorem dX6_behindCharacter_22 : decode cX6_behindCharacter 22 = .ok (.ireturn, 1) := by decide +kernel
theorem dX6_behindCharacter_23 : decode cX6_behindCharacter 23 = .ok (.iload_n 3, 1) := by decide +kernel
theorem dX6_behindCharacter_24 : decode cX6_behindCharacter 24 = .ok (.bipush 92, 2) := by decide +kernel
theorem dX6_behindCharacter_26 : decode cX6_behindCharacter 26 = .ok (.if_icmp .eq 13, 3) := by decide +kernel
theorem dX6_behindCharacter_29 : decode cX6_behindCharacter 29 = .ok (.aload_n 0, 1) := by decide +kernel
theorem dX6_behindCharacter_30 : decode cX6_behindCharacter 30 = .ok (.iload_n 3, 1) := by decide +kernel
theorem dX6_behindCharacter_31 : decode cX6_behindCharacter 31 = .ok (.i2l, 1) := by decide +kernel
theorem dX6_behindCharacter_32 : decode cX6_behindCharacter 32 = .ok (.putfield 53, 3) := by decide +kernel
theorem dX6_behindCharacter_35 : decode cX6_behindCharacter 35 = .ok (.iload_n 1, 1) := by decide +kernel
theorem dX6_behindCharacter_36 : decode cX6_behindCharacter 36 = .ok (.iconst 1, 1) := by decide +kernel
theorem dX6_behindCharacter_37 : decode cX6_behindCharacter 37 = .ok (.iadd, 1) := by decide +kernel
theorem dX6_behindCharacter_38 : decode cX6_behindCharacter 38 = .ok (.ireturn, 1) := by decide +kernel
theorem dX6_behindCharacter_39 : decode cX6_behindCharacter 39 = .ok (.aload_n 0, 1) := by decide +kernel
theorem dX6_behindCharacter_40 : decode cX6_behindCharacter 40 = .ok (.getfield 24, 3) := by decide +kernel
theorem dX6_behindCharacter_43 : decode cX6_behindCharacter 43 = .ok (.iload_n 1, 1) := by decide +kernel
theorem dX6_behindCharacter_44 : decode cX6_behindCharacter 44 = .ok (.iconst 1, 1) := by decide +kernel
theorem dX6_behindCharacter_45 : decode cX6_behindCharacter 45 = .ok (.iadd, 1) := by decide +kernel
theorem dX6_behindCharacter_46 : decode cX6_behindCharacter 46 = .ok (.invokevirtual 49, 3) := by decide +kernel
theorem dX6_behindCharacter_49 : decode cX6_behindCharacter 49 = .ok (.istore 4, 2) := by decide +kernel
theorem dX6_behindCharacter_51 : decode cX6_behindCharacter 51 = .ok (.iload 4, 2) := by decide +kernel
theorem dX6_behindCharacter_53 : decode cX6_behindCharacter 53 = .ok (.invokestatic 102, 3) := by decide +kernel
theorem dX6_behindCharacter_56 : decode cX6_behindCharacter 56 = .ok (.ifCond .ne 5, 3) := by decide +kernel
theorem dX6_behindCharacter_59 : decode cX6_behindCharacter 59 = .ok (.iconst (-1), 1) := by decide +kernel
theorem dX6_behindCharacter_60 : decode cX6_behindCharacter 60 = .ok (.ireturn, 1) := by decide +kernel
theorem dX6_behindCharacter_61 : decode cX6_behindCharacter 61 = .ok (.aload_n 0, 1) := by decide +kernel
theorem dX6_behindCharacter_62 : decode cX6_behindCharacter 62 = .ok (.iload 4, 2) := by decide +kernel
theorem dX6_behindCharacter_64 : decode cX6_behindCharacter 64 = .ok (.invokestatic 105, 3) := by decide +kernel
theorem dX6_behindCharacter_67 : decode cX6_behindCharacter 67 = .ok (.i2l, 1) := by decide +kernel
theorem dX6_behindCharacter_68 : decode cX6_behindCharacter 68 = .ok (.putfield 53, 3) := by decide +kernel
theorem dX6_behindCharacter_71 : decode cX6_behindCharacter 71 = .ok (.iload_n 1, 1) := by decide +kernel
theorem dX6_behindCharacter_72 : decode cX6_behindCharacter 72 = .ok (.iconst 2, 1) := by decide +kernel
theorem dX6_behindCharacter_73 : decode cX6_behindCharacter 73 = .ok (.iadd, 1) := by decide +kernel
theorem dX6_behindCharacter_74 : decode cX6_behindCharacter 74 = .ok (.ireturn, 1) := by decide +kernel
theorem dX6_worthOfEscape_0 : decode cX6_worthOfEscape 0 = .ok (.iload_n 0, 1) := by decide +kernel
theorem dX6_worthOfEscape_1 : decode cX6_worthOfEscape 1 = .ok (.lookupswitch 43 #[(48, 41), (110, 35), (116, 38)], 35) := by decide +kernel
theorem dX6_worthOfEscape_36 : decode cX6_worthOfEscape 36 = .ok (.bipush 10, 2) := by decide +kernel
theorem dX6_worthOfEscape_38 : decode cX6_worthOfEscape 38 = .ok (.ireturn, 1) := by decide +kernel
theorem dX6_worthOfEscape_39 : decode cX6_worthOfEscape 39 = .ok (.bipush 9, 2) := by decide +kernel
theorem dX6_worthOfEscape_41 : decode cX6_worthOfEscape 41 = .ok (.ireturn, 1) := by decide +kernel
theorem dX6_worthOfEscape_42 : decode cX6_worthOfEscape 42 = .ok (.iconst 0, 1) := by decide +kernel
theorem dX6_worthOfEscape_43 : decode cX6_worthOfEscape 43 = .ok (.ireturn, 1) := by decide +kernel
theorem dX6_worthOfEscape_44 : decode cX6_worthOfEscape 44 = .ok (.iload_n 0, 1) := by decide +kernel
theorem dX6_worthOfEscape_45 : decode cX6_worthOfEscape 45 = .ok (.ireturn, 1) := by decide +kernel
theorem dX6_takeSign_0 : decode cX6_takeSign 0 = .ok (.aload_n 0, 1) := by decide +kernel
theorem dX6_takeSign_1 : decode cX6_takeSign 1 = .ok (.iload_n 1, 1) := by decide +kernel
theorem dX6_takeSign_2 : decode cX6_takeSign 2 = .ok (.iconst 1, 1) := by decide +kernel
theorem dX6_takeSign_3 : decode cX6_takeSign 3 = .ok (.iadd, 1) := by decide +kernel
theorem dX6_takeSign_4 : decode cX6_takeSign 4 = .ok (.putfield 60, 3) := by decide +kernel
theorem dX6_takeSign_7 : decode cX6_takeSign 7 = .ok (.iload_n 2, 1) := by decide +kernel
theorem dX6_takeSign_8 : decode cX6_takeSign 8 = .ok (.lookupswitch 185 #[(36, 156), (37, 156), (38, 156), (40, 156), (41, 156), (42, 156), (43, 156), (44, 156), (45, 156), (47, 156), (58, 156), (60, 158), (62, 158), (91, 156), (93, 156), (94, 156), (124, 156), (126, 156)], 156) := by decide +kernel
theorem dX6_takeSign_164 : decode cX6_takeSign 164 = .ok (.iload_n 2, 1) := by decide +kernel
theorem dX6_takeSign_165 : decode cX6_takeSign 165 = .ok (.ireturn, 1) := by decide +kernel
theorem dX6_takeSign_166 : decode cX6_takeSign 166 = .ok (.aload_n 0, 1) := by decide +kernel
theorem dX6_takeSign_167 : decode cX6_takeSign 167 = .ok (.iload_n 1, 1) := by decide +kernel
theorem dX6_takeSign_168 : decode cX6_takeSign 168 = .ok (.iconst 2, 1) := by decide +kernel
theorem dX6_takeSign_169 : decode cX6_takeSign 169 = .ok (.iadd, 1) := by decide +kernel
theorem dX6_takeSign_170 : decode cX6_takeSign 170 = .ok (.putfield 60, 3) := by decide +kernel
theorem dX6_takeSign_173 : decode cX6_takeSign 173 = .ok (.aload_n 0, 1) := by decide +kernel
theorem dX6_takeSign_174 : decode cX6_takeSign 174 = .ok (.getfield 24, 3) := by decide +kernel
theorem dX6_takeSign_177 : decode cX6_takeSign 177 = .ok (.iload_n 1, 1) := by decide +kernel
theorem dX6_takeSign_178 : decode cX6_takeSign 178 = .ok (.iconst 1, 1) := by decide +kernel
theorem dX6_takeSign_179 : decode cX6_takeSign 179 = .ok (.iadd, 1) := by decide +kernel
theorem dX6_takeSign_180 : decode cX6_takeSign 180 = .ok (.invokevirtual 49, 3) := by decide +kernel
theorem dX6_takeSign_183 : decode cX6_takeSign 183 = .ok (.iload_n 2, 1) := by decide +kernel
theorem dX6_takeSign_184 : decode cX6_takeSign 184 = .ok (.if_icmp .ne 7, 3) := by decide +kernel
theorem dX6_takeSign_187 : decode cX6_takeSign 187 = .ok (.iload_n 2, 1) := by decide +kernel
theorem dX6_takeSign_188 : decode cX6_takeSign 188 = .ok (.goto 4, 3) := by decide +kernel
theorem dX6_takeSign_191 : decode cX6_takeSign 191 = .ok (.iconst (-1), 1) := by decide +kernel
theorem dX6_takeSign_192 : decode cX6_takeSign 192 = .ok (.ireturn, 1) := by decide +kernel
theorem dX6_takeSign_193 : decode cX6_takeSign 193 = .ok (.iconst (-1), 1) := by decide +kernel
theorem dX6_takeSign_194 : decode cX6_takeSign 194 = .ok (.ireturn, 1) := by decide +kernel
theorem dX7_init_0 : decode cX7_init 0 = .ok (.aload_n 0, 1) := by decide +kernel
theorem dX7_init_1 : decode cX7_init 1 = .ok (.invokespecial 1, 3) := by decide +kernel
theorem dX7_init_4 : decode cX7_init 4 = .ok (.aload_n 0, 1) := by decide +kernel
theorem dX7_init_5 : decode cX7_init 5 = .ok (.new 7, 3) := by decide +kernel
theorem dX7_init_8 : decode cX7_init 8 = .ok (.dup, 1) := by decide +kernel
theorem dX7_init_9 : decode cX7_init 9 = .ok (.invokespecial 9, 3) := by decide +kernel
theorem dX7_init_12 : decode cX7_init 12 = .ok (.putfield 10, 3) := by decide +kernel
theorem dX7_init_15 : decode cX7_init 15 = .ok (.aload_n 0, 1) := by decide +kernel
theorem dX7_init_16 : decode cX7_init 16 = .ok (.new 16, 3) := by decide +kernel
theorem dX7_init_19 : decode cX7_init 19 = .ok (.dup, 1) := by decide +kernel
theorem dX7_init_20 : decode cX7_init 20 = .ok (.sipush 1024, 3) := by decide +kernel
theorem dX7_init_23 : decode cX7_init 23 = .ok (.sipush 1024, 3) := by decide +kernel
theorem dX7_init_26 : decode cX7_init 26 = .ok (.invokespecial 18, 3) := by decide +kernel
theorem dX7_init_29 : decode cX7_init 29 = .ok (.putfield 21, 3) := by decide +kernel
theorem dX7_init_32 : decode cX7_init 32 = .ok (.aload_n 0, 1) := by decide +kernel
theorem dX7_init_33 : decode cX7_init 33 = .ok (.new 25, 3) := by decide +kernel
theorem dX7_init_36 : decode cX7_init 36 = .ok (.dup, 1) := by decide +kernel
theorem dX7_init_37 : decode cX7_init 37 = .ok (.aload_n 0, 1) := by decide +kernel
theorem dX7_init_38 : decode cX7_init 38 = .ok (.getfield 21, 3) := by decide +kernel
theorem dX7_init_41 : decode cX7_init 41 = .ok (.invokespecial 27, 3) := by decide +kernel
theorem dX7_init_44 : decode cX7_init 44 = .ok (.putfield 30, 3) := by decide +kernel
theorem dX7_init_47 : decode cX7_init 47 = .ok (.aload_n 0, 1) := by decide +kernel
theorem dX7_init_48 : decode cX7_init 48 = .ok (.new 34, 3) := by decide +kernel
theorem dX7_init_51 : decode cX7_init 51 = .ok (.dup, 1) := by decide +kernel
theorem dX7_init_52 : decode cX7_init 52 = .ok (.invokespecial 36, 3) := by decide +kernel
theorem dX7_init_55 : decode cX7_init 55 = .ok (.putfield 37, 3) := by decide +kernel
theorem dX7_init_58 : decode cX7_init 58 = .ok (.aload_n 0, 1) := by decide +kernel
theorem dX7_init_59 : decode cX7_init 59 = .ok (.new 41, 3) := by decide +kernel
theorem dX7_init_62 : decode cX7_init 62 = .ok (.dup, 1) := by decide +kernel
theorem dX7_init_63 : decode cX7_init 63 = .ok (.invokespecial 43, 3) := by decide +kernel
theorem dX7_init_66 : decode cX7_init 66 = .ok (.putfield 44, 3) := by decide +kernel
theorem dX7_init_69 : decode cX7_init 69 = .ok (.aload_n 0, 1) := by decide +kernel
theorem dX7_init_70 : decode cX7_init 70 = .ok (.new 16, 3) := by decide +kernel
theorem dX7_init_73 : decode cX7_init 73 = .ok (.dup, 1) := by decide +kernel
theorem dX7_init_74 : decode cX7_init 74 = .ok (.sipush 256, 3) := by decide +kernel
theorem dX7_init_77 : decode cX7_init 77 = .ok (.ldc 48, 2) := by decide +kernel
theorem dX7_init_79 : decode cX7_init 79 = .ok (.invokespecial 18, 3) := by decide +kernel
theorem dX7_init_82 : decode cX7_init 82 = .ok (.putfield 49, 3) := by decide +kernel
theorem dX7_init_85 : decode cX7_init 85 = .ok (.return_, 1) := by decide +kernel
theorem dX7_type_0 : decode cX7_type 0 = .ok (.iload_n 3, 1) := by decide +kernel
theorem dX7_type_1 : decode cX7_type 1 = .ok (.iconst 1, 1) := by decide +kernel
theorem dX7_type_2 : decode cX7_type 2 = .ok (.if_icmp .lt 23, 3) := by decide +kernel
theorem dX7_type_5 : decode cX7_type 5 = .ok (.iload_n 3, 1) := by decide +kernel
theorem dX7_type_6 : decode cX7_type 6 = .ok (.bipush 8, 2) := by decide +kernel
theorem dX7_type_8 : decode cX7_type 8 = .ok (.if_icmp .gt 17, 3) := by decide +kernel
theorem dX7_type_11 : decode cX7_type 11 = .ok (.aload_n 0, 1) := by decide +kernel
theorem dX7_type_12 : decode cX7_type 12 = .ok (.getfield 49, 3) := by decide +kernel
theorem dX7_type_15 : decode cX7_type 15 = .ok (.invokevirtual 52, 3) := by decide +kernel
theorem dX7_type_18 : decode cX7_type 18 = .ok (.iload_n 3, 1) := by decide +kernel
theorem dX7_type_19 : decode cX7_type 19 = .ok (.iadd, 1) := by decide +kernel
theorem dX7_type_20 : decode cX7_type 20 = .ok (.ldc 48, 2) := by decide +kernel
theorem dX7_type_22 : decode cX7_type 22 = .ok (.if_icmp .le 5, 3) := by decide +kernel
theorem dX7_type_25 : decode cX7_type 25 = .ok (.iconst 0, 1) := by decide +kernel
theorem dX7_type_26 : decode cX7_type 26 = .ok (.ireturn, 1) := by decide +kernel
theorem dX7_type_27 : decode cX7_type 27 = .ok (.iload_n 3, 1) := by decide +kernel
theorem dX7_type_28 : decode cX7_type 28 = .ok (.iconst 1, 1) := by decide +kernel
theorem dX7_type_29 : decode cX7_type 29 = .ok (.isub, 1) := by decide +kernel
theorem dX7_type_30 : decode cX7_type 30 = .ok (.istore 4, 2) := by decide +kernel
theorem dX7_type_32 : decode cX7_type 32 = .ok (.iload 4, 2) := by decide +kernel
theorem dX7_type_34 : decode cX7_type 34 = .ok (.ifCond .lt 29, 3) := by decide +kernel
theorem dX7_type_37 : decode cX7_type 37 = .ok (.aload_n 0, 1) := by decide +kernel
theorem dX7_type_38 : decode cX7_type 38 = .ok (.getfield 49, 3) := by decide +kernel
theorem dX7_type_41 : decode cX7_type 41 = .ok (.lload_n 1, 1) := by decide +kernel
theorem dX7_type_42 : decode cX7_type 42 = .ok (.bipush 8, 2) := by decide +kernel
theorem dX7_type_44 : decode cX7_type 44 = .ok (.iload 4, 2) := by decide +kernel
theorem dX7_type_46 : decode cX7_type 46 = .ok (.imul, 1) := by decide +kernel
theorem dX7_type_47 : decode cX7_type 47 = .ok (.lushr, 1) := by decide +kernel
theorem dX7_type_48 : decode cX7_type 48 = .ok (.l2i, 1) := by decide +kernel
theorem dX7_type_49 : decode cX7_type 49 = .ok (.sipush 255, 3) := by decide +kernel
theorem dX7_type_52 : decode cX7_type 52 = .ok (.iand, 1) := by decide +kernel
theorem dX7_type_53 : decode cX7_type 53 = .ok (.invokevirtual 56, 3) := by decide +kernel
theorem dX7_type_56 : decode cX7_type 56 = .ok (.pop, 1) := by decide +kernel
theorem dX7_type_57 : decode cX7_type 57 = .ok (.iinc 4 (-1), 3) := by decide +kernel
theorem dX7_type_60 : decode cX7_type 60 = .ok (.goto (-28), 3) := by decide +kernel
theorem dX7_type_63 : decode cX7_type 63 = .ok (.iconst 1, 1) := by decide +kernel
theorem dX7_type_64 : decode cX7_type 64 = .ok (.ireturn, 1) := by decide +kernel
theorem dX7_begin_0 : decode cX7_begin 0 = .ok (.aload_n 0, 1) := by decide +kernel
theorem dX7_begin_1 : decode cX7_begin 1 = .ok (.aload_n 0, 1) := by decide +kernel
theorem dX7_begin_2 : decode cX7_begin 2 = .ok (.getfield 10, 3) := by decide +kernel
theorem dX7_begin_5 : decode cX7_begin 5 = .ok (.aload_n 0, 1) := by decide +kernel
theorem dX7_begin_6 : decode cX7_begin 6 = .ok (.getfield 49, 3) := by decide +kernel
theorem dX7_begin_9 : decode cX7_begin 9 = .ok (.invokevirtual 60, 3) := by decide +kernel
theorem dX7_begin_12 : decode cX7_begin 12 = .ok (.putfield 49, 3) := by decide +kernel
theorem dX7_begin_15 : decode cX7_begin 15 = .ok (.aload_n 0, 1) := by decide +kernel
theorem dX7_begin_16 : decode cX7_begin 16 = .ok (.getfield 49, 3) := by decide +kernel
theorem dX7_begin_19 : decode cX7_begin 19 = .ok (.invokevirtual 64, 3) := by decide +kernel
theorem dX7_begin_22 : decode cX7_begin 22 = .ok (.aload_n 0, 1) := by decide +kernel
theorem dX7_begin_23 : decode cX7_begin 23 = .ok (.getfield 37, 3) := by decide +kernel
theorem dX7_begin_26 : decode cX7_begin 26 = .ok (.invokevirtual 67, 3) := by decide +kernel
theorem dX7_begin_29 : decode cX7_begin 29 = .ok (.aload_n 0, 1) := by decide +kernel
theorem dX7_begin_30 : decode cX7_begin 30 = .ok (.getfield 44, 3) := by decide +kernel
theorem dX7_begin_33 : decode cX7_begin 33 = .ok (.invokevirtual 68, 3) := by decide +kernel
theorem dX7_begin_36 : decode cX7_begin 36 = .ok (.aload_n 0, 1) := by decide +kernel
theorem dX7_begin_37 : decode cX7_begin 37 = .ok (.iconst 0, 1) := by decide +kernel
theorem dX7_begin_38 : decode cX7_begin 38 = .ok (.putfield 69, 3) := by decide +kernel
theorem dX7_begin_41 : decode cX7_begin 41 = .ok (.aload_n 0, 1) := by decide +kernel
theorem dX7_begin_42 : decode cX7_begin 42 = .ok (.iconst 0, 1) := by decide +kernel
theorem dX7_begin_43 : decode cX7_begin 43 = .ok (.putfield 73, 3) := by decide +kernel
theorem dX7_begin_46 : decode cX7_begin 46 = .ok (.aload_n 0, 1) := by decide +kernel
theorem dX7_begin_47 : decode cX7_begin 47 = .ok (.iconst 0, 1) := by decide +kernel
theorem dX7_begin_48 : decode cX7_begin 48 = .ok (.putfield 76, 3) := by decide +kernel
theorem dX7_begin_51 : decode cX7_begin 51 = .ok (.aload_n 0, 1) := by decide +kernel
theorem dX7_begin_52 : decode cX7_begin 52 = .ok (.iconst 0, 1) := by decide +kernel
theorem dX7_begin_53 : decode cX7_begin 53 = .ok (.putfield 79, 3) := by decide +kernel
theorem dX7_begin_56 : decode cX7_begin 56 = .ok (.aload_n 0, 1) := by decide +kernel
theorem dX7_begin_57 : decode cX7_begin 57 = .ok (.iconst 0, 1) := by decide +kernel
theorem dX7_begin_58 : decode cX7_begin 58 = .ok (.putfield 82, 3) := by decide +kernel
theorem dX7_begin_61 : decode cX7_begin 61 = .ok (.aload_n 0, 1) := by decide +kernel
theorem dX7_begin_62 : decode cX7_begin 62 = .ok (.iconst 1, 1) := by decide +kernel
theorem dX7_begin_63 : decode cX7_begin 63 = .ok (.putfield 85, 3) := by decide +kernel
theorem dX7_begin_66 : decode cX7_begin 66 = .ok (.aload_n 0, 1) := by decide +kernel
theorem dX7_begin_67 : decode cX7_begin 67 = .ok (.iconst 0, 1) := by decide +kernel
theorem dX7_begin_68 : decode cX7_begin 68 = .ok (.putfield 89, 3) := by decide +kernel
theorem dX7_begin_71 : decode cX7_begin 71 = .ok (.aload_n 0, 1) := by decide +kernel
theorem dX7_begin_72 : decode cX7_begin 72 = .ok (.getfield 10, 3) := by decide +kernel
theorem dX7_begin_75 : decode cX7_begin 75 = .ok (.invokevirtual 92, 3) := by decide +kernel
theorem dX7_begin_78 : decode cX7_begin 78 = .ok (.ireturn, 1) := by decide +kernel
theorem dX7_next_0 : decode cX7_next 0 = .ok (.aload_n 0, 1) := by decide +kernel
theorem dX7_next_1 : decode cX7_next 1 = .ok (.iconst 0, 1) := by decide +kernel
theorem dX7_next_2 : decode cX7_next 2 = .ok (.putfield 89, 3) := by decide +kernel
theorem dX7_next_5 : decode cX7_next 5 = .ok (.aload_n 0, 1) := by decide +kernel
theorem dX7_next_6 : decode cX7_next 6 = .ok (.getfield 85, 3) := by decide +kernel
theorem dX7_next_9 : decode cX7_next 9 = .ok (.ifCond .ne 5, 3) := by decide +kernel
theorem dX7_next_12 : decode cX7_next 12 = .ok (.iconst (-1), 1) := by decide +kernel
theorem dX7_next_13 : decode cX7_next 13 = .ok (.ireturn, 1) := by decide +kernel
theorem dX7_next_14 : decode cX7_next 14 = .ok (.iconst 0, 1) := by decide +kernel
theorem dX7_next_15 : decode cX7_next 15 = .ok (.istore_n 1, 1) := by decide +kernel
theorem dX7_next_16 : decode cX7_next 16 = .ok (.iconst 0, 1) := by decide +kernel
theorem dX7_next_17 : decode cX7_next 17 = .ok (.istore_n 2, 1) := by decide +kernel
theorem dX7_next_18 : decode cX7_next 18 = .ok (.iload_n 2, 1) := by decide +kernel
theorem dX7_next_19 : decode cX7_next 19 = .ok (.ldc 95, 2) := by decide +kernel
theorem dX7_next_21 : decode cX7_next 21 = .ok (.if_icmp .ge 36, 3) := by decide +kernel
theorem dX7_next_24 : decode cX7_next 24 = .ok (.iload_n 1, 1) := by decide +kernel
theorem dX7_next_25 : decode cX7_next 25 = .ok (.ifCond .ne 32, 3) := by decide +kernel
theorem dX7_next_28 : decode cX7_next 28 = .ok (.aload_n 0, 1) := by decide +kernel
theorem dX7_next_29 : decode cX7_next 29 = .ok (.getfield 69, 3) := by decide +kernel
theorem dX7_next_32 : decode cX7_next 32 = .ok (.aload_n 0, 1) := by decide +kernel
theorem dX7_next_33 : decode cX7_next 33 = .ok (.invokevirtual 96, 3) := by decide +kernel
theorem dX7_next_36 : decode cX7_next 36 = .ok (.if_icmp .ge 10, 3) := by decide +kernel
theorem dX7_next_39 : decode cX7_next 39 = .ok (.aload_n 0, 1) := by decide +kernel
theorem dX7_next_40 : decode cX7_next 40 = .ok (.invokevirtual 99, 3) := by decide +kernel
theorem dX7_next_43 : decode cX7_next 43 = .ok (.goto 7, 3) := by decide +kernel
theorem dX7_next_46 : decode cX7_next 46 = .ok (.aload_n 0, 1) := by decide +kernel
theorem dX7_next_47 : decode cX7_next 47 = .ok (.invokevirtual 102, 3) := by decide +kernel
theorem dX7_next_50 : decode cX7_next 50 = .ok (.istore_n 1, 1) := by decide +kernel
theorem dX7_next_51 : decode cX7_next 51 = .ok (.iinc 2 1, 3) := by decide +kernel
theorem dX7_next_54 : decode cX7_next 54 = .ok (.goto (-36), 3) := by decide +kernel
theorem dX7_next_57 : decode cX7_next 57 = .ok (.aload_n 0, 1) := by decide +kernel
theorem dX7_next_58 : decode cX7_next 58 = .ok (.iload_n 1, 1) := by decide +kernel
theorem dX7_next_59 : decode cX7_next 59 = .ok (.iconst 1, 1) := by decide +kernel
theorem dX7_next_60 : decode cX7_next 60 = .ok (.if_icmp .ne 7, 3) := by decide +kernel
theorem dX7_next_63 : decode cX7_next 63 = .ok (.iconst 1, 1) := by decide +kernel
theorem dX7_next_64 : decode cX7_next 64 = .ok (.goto 4, 3) := by decide +kernel
theorem dX7_next_67 : decode cX7_next 67 = .ok (.iconst 0, 1) := by decide +kernel
theorem dX7_next_68 : decode cX7_next 68 = .ok (.putfield 89, 3) := by decide +kernel
theorem dX7_next_71 : decode cX7_next 71 = .ok (.aload_n 0, 1) := by decide +kernel
theorem dX7_next_72 : decode cX7_next 72 = .ok (.getfield 89, 3) := by decide +kernel
theorem dX7_next_75 : decode cX7_next 75 = .ok (.ifCond .eq 11, 3) := by decide +kernel
theorem dX7_next_78 : decode cX7_next 78 = .ok (.aload_n 0, 1) := by decide +kernel
theorem dX7_next_79 : decode cX7_next 79 = .ok (.getfield 21, 3) := by decide +kernel
theorem dX7_next_82 : decode cX7_next 82 = .ok (.invokevirtual 52, 3) := by decide +kernel
theorem dX7_next_85 : decode cX7_next 85 = .ok (.ireturn, 1) := by decide +kernel
theorem dX7_next_86 : decode cX7_next 86 = .ok (.aload_n 0, 1) := by decide +kernel
theorem dX7_next_87 : decode cX7_next 87 = .ok (.iconst 0, 1) := by decide +kernel
theorem dX7_next_88 : decode cX7_next 88 = .ok (.putfield 85, 3) := by decide +kernel
theorem dX7_next_91 : decode cX7_next 91 = .ok (.aload_n 0, 1) := by decide +kernel
theorem dX7_next_92 : decode cX7_next 92 = .ok (.getfield 37, 3) := by decide +kernel
theorem dX7_next_95 : decode cX7_next 95 = .ok (.invokevirtual 67, 3) := by decide +kernel
theorem dX7_next_98 : decode cX7_next 98 = .ok (.aload_n 0, 1) := by decide +kernel
theorem dX7_next_99 : decode cX7_next 99 = .ok (.getfield 82, 3) := by decide +kernel
theorem dX7_next_102 : decode cX7_next 102 = .ok (.ifCond .eq 13, 3) := by decide +kernel
theorem dX7_next_105 : decode cX7_next 105 = .ok (.new 105, 3) := by decide +kernel
theorem dX7_next_108 : decode cX7_next 108 = .ok (.dup, 1) := by decide +kernel
theorem dX7_next_109 : decode cX7_next 109 = .ok (.ldc 107, 2) := by decide +kernel
theorem dX7_next_111 : decode cX7_next 111 = .ok (.invokespecial 109, 3) := by decide +kernel
theorem dX7_next_114 : decode cX7_next 114 = .ok (.athrow, 1) := by decide +kernel
theorem dX7_next_115 : decode cX7_next 115 = .ok (.aload_n 0, 1) := by decide +kernel
theorem dX7_next_116 : decode cX7_next 116 = .ok (.iconst 0, 1) := by decide +kernel
theorem dX7_next_117 : decode cX7_next 117 = .ok (.putfield 79, 3) := by decide +kernel
theorem dX7_next_120 : decode cX7_next 120 = .ok (.iconst (-1), 1) := by decide +kernel
theorem dX7_next_121 : decode cX7_next 121 = .ok (.ireturn, 1) := by decide +kernel
theorem dX7_octet_0 : decode cX7_octet 0 = .ok (.aload_n 0, 1) := by decide +kernel
theorem dX7_octet_1 : decode cX7_octet 1 = .ok (.getfield 89, 3) := by decide +kernel
theorem dX7_octet_4 : decode cX7_octet 4 = .ok (.ifCond .eq 14, 3) := by decide +kernel
theorem dX7_octet_7 : decode cX7_octet 7 = .ok (.aload_n 0, 1) := by decide +kernel
theorem dX7_octet_8 : decode cX7_octet 8 = .ok (.getfield 21, 3) := by decide +kernel
theorem dX7_octet_11 : decode cX7_octet 11 = .ok (.iload_n 1, 1) := by decide +kernel
theorem dX7_octet_12 : decode cX7_octet 12 = .ok (.invokevirtual 112, 3) := by decide +kernel
theorem dX7_octet_15 : decode cX7_octet 15 = .ok (.goto 4, 3) := by decide +kernel
theorem dX7_octet_18 : decode cX7_octet 18 = .ok (.iconst (-1), 1) := by decide +kernel
theorem dX7_octet_19 : decode cX7_octet 19 = .ok (.ireturn, 1) := by decide +kernel
theorem dX7_line_0 : decode cX7_line 0 = .ok (.aload_n 0, 1) := by decide +kernel
theorem dX7_line_1 : decode cX7_line 1 = .ok (.getfield 79, 3) := by decide +kernel
theorem dX7_line_4 : decode cX7_line 4 = .ok (.ireturn, 1) := by decide +kernel
theorem dX7_fault_0 : decode cX7_fault 0 = .ok (.aload_n 0, 1) := by decide +kernel
theorem dX7_fault_1 : decode cX7_fault 1 = .ok (.getfield 82, 3) := by decide +kernel
theorem dX7_fault_4 : decode cX7_fault 4 = .ok (.ireturn, 1) := by decide +kernel
theorem dX7_depth_0 : decode cX7_depth 0 = .ok (.aload_n 0, 1) := by decide +kernel
theorem dX7_depth_1 : decode cX7_depth 1 = .ok (.getfield 37, 3) := by decide +kernel
theorem dX7_depth_4 : decode cX7_depth 4 = .ok (.invokevirtual 116, 3) := by decide +kernel
theorem dX7_depth_7 : decode cX7_depth 7 = .ok (.ireturn, 1) := by decide +kernel
theorem dX7_limit_0 : decode cX7_limit 0 = .ok (.aload_n 0, 1) := by decide +kernel
theorem dX7_limit_1 : decode cX7_limit 1 = .ok (.getfield 37, 3) := by decide +kernel
theorem dX7_limit_4 : decode cX7_limit 4 = .ok (.invokevirtual 117, 3) := by decide +kernel
theorem dX7_limit_7 : decode cX7_limit 7 = .ok (.astore_n 1, 1) := by decide +kernel
theorem dX7_limit_8 : decode cX7_limit 8 = .ok (.aload_n 1, 1) := by decide +kernel
theorem dX7_limit_9 : decode cX7_limit 9 = .ok (.ifnonnull 13, 3) := by decide +kernel
theorem dX7_limit_12 : decode cX7_limit 12 = .ok (.aload_n 0, 1) := by decide +kernel
theorem dX7_limit_13 : decode cX7_limit 13 = .ok (.getfield 10, 3) := by decide +kernel
theorem dX7_limit_16 : decode cX7_limit 16 = .ok (.invokevirtual 92, 3) := by decide +kernel
theorem dX7_limit_19 : decode cX7_limit 19 = .ok (.goto 7, 3) := by decide +kernel
theorem dX7_limit_22 : decode cX7_limit 22 = .ok (.aload_n 1, 1) := by decide +kernel
theorem dX7_limit_23 : decode cX7_limit 23 = .ok (.getfield 121, 3) := by decide +kernel
theorem dX7_limit_26 : decode cX7_limit 26 = .ok (.ireturn, 1) := by decide +kernel
theorem dX7_readLine_0 : decode cX7_readLine 0 = .ok (.aload_n 0, 1) := by decide +kernel
theorem dX7_readLine_1 : decode cX7_readLine 1 = .ok (.getfield 69, 3) := by decide +kernel
theorem dX7_readLine_4 : decode cX7_readLine 4 = .ok (.istore_n 1, 1) := by decide +kernel
theorem dX7_readLine_5 : decode cX7_readLine 5 = .ok (.aload_n 0, 1) := by decide +kernel
theorem dX7_readLine_6 : decode cX7_readLine 6 = .ok (.dup, 1) := by decide +kernel
theorem dX7_readLine_7 : decode cX7_readLine 7 = .ok (.getfield 69, 3) := by decide +kernel
theorem dX7_readLine_10 : decode cX7_readLine 10 = .ok (.iconst 1, 1) := by decide +kernel
theorem dX7_readLine_11 : decode cX7_readLine 11 = .ok (.iadd, 1) := by decide +kernel
theorem dX7_readLine_12 : decode cX7_readLine 12 = .ok (.putfield 69, 3) := by decide +kernel
theorem dX7_readLine_15 : decode cX7_readLine 15 = .ok (.aload_n 0, 1) := by decide +kernel
theorem dX7_readLine_16 : decode cX7_readLine 16 = .ok (.getfield 37, 3) := by decide +kernel
theorem dX7_readLine_19 : decode cX7_readLine 19 = .ok (.invokevirtual 117, 3) := by decide +kernel
theorem dX7_readLine_22 : decode cX7_readLine 22 = .ok (.astore_n 2, 1) := by decide +kernel
theorem dX7_readLine_23 : decode cX7_readLine 23 = .ok (.aload_n 0, 1) := by decide +kernel
theorem dX7_readLine_24 : decode cX7_readLine 24 = .ok (.aload_n 2, 1) := by decide +kernel
theorem dX7_readLine_25 : decode cX7_readLine 25 = .ok (.ifnonnull 9, 3) := by decide +kernel
theorem dX7_readLine_28 : decode cX7_readLine 28 = .ok (.iload_n 1, 1) := by decide +kernel
theorem dX7_readLine_29 : decode cX7_readLine 29 = .ok (.iconst 1, 1) := by decide +kernel
theorem dX7_readLine_30 : decode cX7_readLine 30 = .ok (.iadd, 1) := by decide +kernel
theorem dX7_readLine_31 : decode cX7_readLine 31 = .ok (.goto 7, 3) := by decide +kernel
theorem dX7_readLine_34 : decode cX7_readLine 34 = .ok (.aload_n 2, 1) := by decide +kernel
theorem dX7_readLine_35 : decode cX7_readLine 35 = .ok (.getfield 126, 3) := by decide +kernel
theorem dX7_readLine_38 : decode cX7_readLine 38 = .ok (.putfield 79, 3) := by decide +kernel
theorem dX7_readLine_41 : decode cX7_readLine 41 = .ok (.aload_n 0, 1) := by decide +kernel
theorem dX7_readLine_42 : decode cX7_readLine 42 = .ok (.dup, 1) := by decide +kernel
theorem dX7_readLine_43 : decode cX7_readLine 43 = .ok (.getfield 73, 3) := by decide +kernel
theorem dX7_readLine_46 : decode cX7_readLine 46 = .ok (.iconst 1, 1) := by decide +kernel
theorem dX7_readLine_47 : decode cX7_readLine 47 = .ok (.iadd, 1) := by decide +kernel
theorem dX7_readLine_48 : decode cX7_readLine 48 = .ok (.putfield 73, 3) := by decide +kernel
theorem dX7_readLine_51 : decode cX7_readLine 51 = .ok (.aload_n 0, 1) := by decide +kernel
theorem dX7_readLine_52 : decode cX7_readLine 52 = .ok (.getfield 73, 3) := by decide +kernel
theorem dX7_readLine_55 : decode cX7_readLine 55 = .ok (.ldc 48, 2) := by decide +kernel
theorem dX7_readLine_57 : decode cX7_readLine 57 = .ok (.if_icmp .gt 11, 3) := by decide +kernel
theorem dX7_readLine_60 : decode cX7_readLine 60 = .ok (.aload_n 0, 1) := by decide +kernel
theorem dX7_readLine_61 : decode cX7_readLine 61 = .ok (.iload_n 1, 1) := by decide +kernel
theorem dX7_readLine_62 : decode cX7_readLine 62 = .ok (.invokevirtual 129, 3) := by decide +kernel
theorem dX7_readLine_65 : decode cX7_readLine 65 = .ok (.ifCond .ne 9, 3) := by decide +kernel
theorem dX7_readLine_68 : decode cX7_readLine 68 = .ok (.aload_n 0, 1) := by decide +kernel
theorem dX7_readLine_69 : decode cX7_readLine 69 = .ok (.iconst 5, 1) := by decide +kernel
theorem dX7_readLine_70 : decode cX7_readLine 70 = .ok (.invokevirtual 132, 3) := by decide +kernel
theorem dX7_readLine_73 : decode cX7_readLine 73 = .ok (.ireturn, 1) := by decide +kernel
theorem dX7_readLine_74 : decode cX7_readLine 74 = .ok (.aload_n 0, 1) := by decide +kernel
theorem dX7_readLine_75 : decode cX7_readLine 75 = .ok (.getfield 30, 3) := by decide +kernel
theorem dX7_readLine_78 : decode cX7_readLine 78 = .ok (.invokevirtual 135, 3) := by decide +kernel
theorem dX7_readLine_81 : decode cX7_readLine 81 = .ok (.ifCond .ne 9, 3) := by decide +kernel
theorem dX7_readLine_84 : decode cX7_readLine 84 = .ok (.aload_n 0, 1) := by decide +kernel
theorem dX7_readLine_85 : decode cX7_readLine 85 = .ok (.iconst 1, 1) := by decide +kernel
theorem dX7_readLine_86 : decode cX7_readLine 86 = .ok (.invokevirtual 132, 3) := by decide +kernel
theorem dX7_readLine_89 : decode cX7_readLine 89 = .ok (.ireturn, 1) := by decide +kernel
theorem dX7_readLine_90 : decode cX7_readLine 90 = .ok (.aload_n 0, 1) := by decide +kernel
theorem dX7_readLine_91 : decode cX7_readLine 91 = .ok (.getfield 30, 3) := by decide +kernel
theorem dX7_readLine_94 : decode cX7_readLine 94 = .ok (.iconst 0, 1) := by decide +kernel
theorem dX7_readLine_95 : decode cX7_readLine 95 = .ok (.invokevirtual 139, 3) := by decide +kernel
theorem dX7_readLine_98 : decode cX7_readLine 98 = .ok (.iconst 1, 1) := by decide +kernel
theorem dX7_readLine_99 : decode cX7_readLine 99 = .ok (.if_icmp .eq 5, 3) := by decide +kernel
theorem dX7_readLine_102 : decode cX7_readLine 102 = .ok (.iconst 1, 1) := by decide +kernel
theorem dX7_readLine_103 : decode cX7_readLine 103 = .ok (.ireturn, 1) := by decide +kernel
theorem dX7_readLine_104 : decode cX7_readLine 104 = .ok (.aload_n 0, 1) := by decide +kernel
theorem dX7_readLine_105 : decode cX7_readLine 105 = .ok (.getfield 21, 3) := by decide +kernel
theorem dX7_readLine_108 : decode cX7_readLine 108 = .ok (.aload_n 0, 1) := by decide +kernel
theorem dX7_readLine_109 : decode cX7_readLine 109 = .ok (.getfield 30, 3) := by decide +kernel
theorem dX7_readLine_112 : decode cX7_readLine 112 = .ok (.iconst 0, 1) := by decide +kernel
theorem dX7_readLine_113 : decode cX7_readLine 113 = .ok (.invokevirtual 142, 3) := by decide +kernel
theorem dX7_readLine_116 : decode cX7_readLine 116 = .ok (.aload_n 0, 1) := by decide +kernel
theorem dX7_readLine_117 : decode cX7_readLine 117 = .ok (.getfield 30, 3) := by decide +kernel
theorem dX7_readLine_120 : decode cX7_readLine 120 = .ok (.iconst 0, 1) := by decide +kernel
theorem dX7_readLine_121 : decode cX7_readLine 121 = .ok (.invokevirtual 145, 3) := by decide +kernel
theorem dX7_readLine_124 : decode cX7_readLine 124 = .ok (.invokestatic 148, 3) := by decide +kernel
theorem dX7_readLine_127 : decode cX7_readLine 127 = .ok (.istore_n 3, 1) := by decide +kernel
theorem dX7_readLine_128 : decode cX7_readLine 128 = .ok (.iload_n 3, 1) := by decide +kernel
theorem dX7_readLine_129 : decode cX7_readLine 129 = .ok (.ifCond .eq 9, 3) := by decide +kernel
theorem dX7_readLine_132 : decode cX7_readLine 132 = .ok (.aload_n 0, 1) := by decide +kernel
theorem dX7_readLine_133 : decode cX7_readLine 133 = .ok (.iload_n 3, 1) := by decide +kernel
theorem dX7_readLine_134 : decode cX7_readLine 134 = .ok (.invokevirtual 152, 3) := by decide +kernel
theorem dX7_readLine_137 : decode cX7_readLine 137 = .ok (.ireturn, 1) := by decide +kernel
theorem dX7_readLine_138 : decode cX7_readLine 138 = .ok (.aload_n 0, 1) := by decide +kernel
theorem dX7_readLine_139 : decode cX7_readLine 139 = .ok (.iconst 0, 1) := by decide +kernel
theorem dX7_readLine_140 : decode cX7_readLine 140 = .ok (.invokevirtual 155, 3) := by decide +kernel
theorem dX7_readLine_143 : decode cX7_readLine 143 = .ok (.astore 4, 2) := by decide +kernel
theorem dX7_readLine_145 : decode cX7_readLine 145 = .ok (.aload 4, 2) := by decide +kernel
theorem dX7_readLine_147 : decode cX7_readLine 147 = .ok (.ifnonnull 7, 3) := by decide +kernel
theorem dX7_readLine_150 : decode cX7_readLine 150 = .ok (.iconst 1, 1) := by decide +kernel
theorem dX7_readLine_151 : decode cX7_readLine 151 = .ok (.goto 9, 3) := by decide +kernel
theorem dX7_readLine_154 : decode cX7_readLine 154 = .ok (.aload_n 0, 1) := by decide +kernel
theorem dX7_readLine_155 : decode cX7_readLine 155 = .ok (.aload 4, 2) := by decide +kernel
theorem dX7_readLine_157 : decode cX7_readLine 157 = .ok (.invokevirtual 159, 3) := by decide +kernel
theorem dX7_readLine_160 : decode cX7_readLine 160 = .ok (.ireturn, 1) := by decide +kernel
theorem dX7_fill_0 : decode cX7_fill 0 = .ok (.aload_n 0, 1) := by decide +kernel
theorem dX7_fill_1 : decode cX7_fill 1 = .ok (.getfield 10, 3) := by decide +kernel
theorem dX7_fill_4 : decode cX7_fill 4 = .ok (.iload_n 1, 1) := by decide +kernel
theorem dX7_fill_5 : decode cX7_fill 5 = .ok (.invokevirtual 163, 3) := by decide +kernel
theorem dX7_fill_8 : decode cX7_fill 8 = .ok (.istore_n 2, 1) := by decide +kernel
theorem dX7_fill_9 : decode cX7_fill 9 = .ok (.aload_n 0, 1) := by decide +kernel
theorem dX7_fill_10 : decode cX7_fill 10 = .ok (.getfield 10, 3) := by decide +kernel
theorem dX7_fill_13 : decode cX7_fill 13 = .ok (.iload_n 1, 1) := by decide +kernel
theorem dX7_fill_14 : decode cX7_fill 14 = .ok (.invokevirtual 164, 3) := by decide +kernel
theorem dX7_fill_17 : decode cX7_fill 17 = .ok (.istore_n 3, 1) := by decide +kernel
theorem dX7_fill_18 : decode cX7_fill 18 = .ok (.aload_n 0, 1) := by decide +kernel
theorem dX7_fill_19 : decode cX7_fill 19 = .ok (.getfield 21, 3) := by decide +kernel
theorem dX7_fill_22 : decode cX7_fill 22 = .ok (.invokevirtual 64, 3) := by decide +kernel
theorem dX7_fill_25 : decode cX7_fill 25 = .ok (.iload_n 3, 1) := by decide +kernel
theorem dX7_fill_26 : decode cX7_fill 26 = .ok (.iload_n 2, 1) := by decide +kernel
theorem dX7_fill_27 : decode cX7_fill 27 = .ok (.isub, 1) := by decide +kernel
theorem dX7_fill_28 : decode cX7_fill 28 = .ok (.sipush 1024, 3) := by decide +kernel
theorem dX7_fill_31 : decode cX7_fill 31 = .ok (.if_icmp .le 5, 3) := by decide +kernel
theorem dX7_fill_34 : decode cX7_fill 34 = .ok (.iconst 0, 1) := by decide +kernel
theorem dX7_fill_35 : decode cX7_fill 35 = .ok (.ireturn, 1) := by decide +kernel
theorem dX7_fill_36 : decode cX7_fill 36 = .ok (.aload_n 0, 1) := by decide +kernel
theorem dX7_fill_37 : decode cX7_fill 37 = .ok (.getfield 37, 3) := by decide +kernel
theorem dX7_fill_40 : decode cX7_fill 40 = .ok (.invokevirtual 165, 3) := by decide +kernel
theorem dX7_fill_43 : decode cX7_fill 43 = .ok (.astore 4, 2) := by decide +kernel
theorem dX7_fill_45 : decode cX7_fill 45 = .ok (.aload 4, 2) := by decide +kernel
theorem dX7_fill_47 : decode cX7_fill 47 = .ok (.ifnonnull 20, 3) := by decide +kernel
theorem dX7_fill_50 : decode cX7_fill 50 = .ok (.aload_n 0, 1) := by decide +kernel
theorem dX7_fill_51 : decode cX7_fill 51 = .ok (.getfield 21, 3) := by decide +kernel
theorem dX7_fill_54 : decode cX7_fill 54 = .ok (.aload_n 0, 1) := by decide +kernel
theorem dX7_fill_55 : decode cX7_fill 55 = .ok (.getfield 10, 3) := by decide +kernel
theorem dX7_fill_58 : decode cX7_fill 58 = .ok (.invokevirtual 168, 3) := by decide +kernel
theorem dX7_fill_61 : decode cX7_fill 61 = .ok (.iload_n 2, 1) := by decide +kernel
theorem dX7_fill_62 : decode cX7_fill 62 = .ok (.iload_n 3, 1) := by decide +kernel
theorem dX7_fill_63 : decode cX7_fill 63 = .ok (.invokevirtual 172, 3) := by decide +kernel
theorem dX7_fill_66 : decode cX7_fill 66 = .ok (.ireturn, 1) := by decide +kernel
theorem dX7_fill_67 : decode cX7_fill 67 = .ok (.aload 4, 2) := by decide +kernel
theorem dX7_fill_69 : decode cX7_fill 69 = .ok (.aload_n 0, 1) := by decide +kernel
theorem dX7_fill_70 : decode cX7_fill 70 = .ok (.getfield 10, 3) := by decide +kernel
theorem dX7_fill_73 : decode cX7_fill 73 = .ok (.invokevirtual 168, 3) := by decide +kernel
theorem dX7_fill_76 : decode cX7_fill 76 = .ok (.iload_n 2, 1) := by decide +kernel
theorem dX7_fill_77 : decode cX7_fill 77 = .ok (.iload_n 3, 1) := by decide +kernel
theorem dX7_fill_78 : decode cX7_fill 78 = .ok (.aload_n 0, 1) := by decide +kernel
theorem dX7_fill_79 : decode cX7_fill 79 = .ok (.getfield 21, 3) := by decide +kernel
theorem dX7_fill_82 : decode cX7_fill 82 = .ok (.invokevirtual 176, 3) := by decide +kernel
theorem dX7_fill_85 : decode cX7_fill 85 = .ok (.ireturn, 1) := by decide +kernel
theorem dX7_obey_0 : decode cX7_obey 0 = .ok (.iload_n 1, 1) := by decide +kernel
theorem dX7_obey_1 : decode cX7_obey 1 = .ok (.tableswitch 64 1 6 #[39, 44, 49, 54, 64, 59], 39) := by decide +kernel
theorem dX7_obey_40 : decode cX7_obey 40 = .ok (.aload_n 0, 1) := by decide +kernel
theorem dX7_obey_41 : decode cX7_obey 41 = .ok (.invokevirtual 180, 3) := by decide +kernel
theorem dX7_obey_44 : decode cX7_obey 44 = .ok (.ireturn, 1) := by decide +kernel
theorem dX7_obey_45 : decode cX7_obey 45 = .ok (.aload_n 0, 1) := by decide +kernel
theorem dX7_obey_46 : decode cX7_obey 46 = .ok (.invokevirtual 183, 3) := by decide +kernel
theorem dX7_obey_49 : decode cX7_obey 49 = .ok (.ireturn, 1) := by decide +kernel
theorem dX7_obey_50 : decode cX7_obey 50 = .ok (.aload_n 0, 1) := by decide +kernel
theorem dX7_obey_51 : decode cX7_obey 51 = .ok (.invokevirtual 186, 3) := by decide +kernel
theorem dX7_obey_54 : decode cX7_obey 54 = .ok (.ireturn, 1) := by decide +kernel
theorem dX7_obey_55 : decode cX7_obey 55 = .ok (.aload_n 0, 1) := by decide +kernel
theorem dX7_obey_56 : decode cX7_obey 56 = .ok (.invokevirtual 189, 3) := by decide +kernel
theorem dX7_obey_59 : decode cX7_obey 59 = .ok (.ireturn, 1) := by decide +kernel
theorem dX7_obey_60 : decode cX7_obey 60 = .ok (.aload_n 0, 1) := by decide +kernel
theorem dX7_obey_61 : decode cX7_obey 61 = .ok (.invokevirtual 192, 3) := by decide +kernel
theorem dX7_obey_64 : decode cX7_obey 64 = .ok (.ireturn, 1) := by decide +kernel
theorem dX7_obey_65 : decode cX7_obey 65 = .ok (.aload_n 0, 1) := by decide +kernel
theorem dX7_obey_66 : decode cX7_obey 66 = .ok (.bipush 6, 2) := by decide +kernel
theorem dX7_obey_68 : decode cX7_obey 68 = .ok (.invokevirtual 132, 3) := by decide +kernel
theorem dX7_obey_71 : decode cX7_obey 71 = .ok (.ireturn, 1) := by decide +kernel
theorem dX7_readIf_0 : decode cX7_readIf 0 = .ok (.aload_n 0, 1) := by decide +kernel
theorem dX7_readIf_1 : decode cX7_readIf 1 = .ok (.invokevirtual 96, 3) := by decide +kernel
theorem dX7_readIf_4 : decode cX7_readIf 4 = .ok (.istore_n 1, 1) := by decide +kernel
theorem dX7_readIf_5 : decode cX7_readIf 5 = .ok (.aload_n 0, 1) := by decide +kernel
theorem dX7_readIf_6 : decode cX7_readIf 6 = .ok (.getfield 37, 3) := by decide +kernel
theorem dX7_readIf_9 : decode cX7_readIf 9 = .ok (.invokevirtual 195, 3) := by decide +kernel
theorem dX7_readIf_12 : decode cX7_readIf 12 = .ok (.ifCond .ne 24, 3) := by decide +kernel
theorem dX7_readIf_15 : decode cX7_readIf 15 = .ok (.aload_n 0, 1) := by decide +kernel
theorem dX7_readIf_16 : decode cX7_readIf 16 = .ok (.aload_n 0, 1) := by decide +kernel
theorem dX7_readIf_17 : decode cX7_readIf 17 = .ok (.getfield 10, 3) := by decide +kernel
theorem dX7_readIf_20 : decode cX7_readIf 20 = .ok (.aload_n 0, 1) := by decide +kernel
theorem dX7_readIf_21 : decode cX7_readIf 21 = .ok (.getfield 69, 3) := by decide +kernel
theorem dX7_readIf_24 : decode cX7_readIf 24 = .ok (.iload_n 1, 1) := by decide +kernel
theorem dX7_readIf_25 : decode cX7_readIf 25 = .ok (.iconst 1, 1) := by decide +kernel
theorem dX7_readIf_26 : decode cX7_readIf 26 = .ok (.iconst 0, 1) := by decide +kernel
theorem dX7_readIf_27 : decode cX7_readIf 27 = .ok (.invokevirtual 198, 3) := by decide +kernel
theorem dX7_readIf_30 : decode cX7_readIf 30 = .ok (.invokevirtual 202, 3) := by decide +kernel
theorem dX7_readIf_33 : decode cX7_readIf 33 = .ok (.ifCond .eq 10, 3) := by decide +kernel
theorem dX7_readIf_36 : decode cX7_readIf 36 = .ok (.aload_n 0, 1) := by decide +kernel
theorem dX7_readIf_37 : decode cX7_readIf 37 = .ok (.bipush 6, 2) := by decide +kernel
theorem dX7_readIf_39 : decode cX7_readIf 39 = .ok (.invokevirtual 132, 3) := by decide +kernel
theorem dX7_readIf_42 : decode cX7_readIf 42 = .ok (.ireturn, 1) := by decide +kernel
theorem dX7_readIf_43 : decode cX7_readIf 43 = .ok (.aload_n 0, 1) := by decide +kernel
theorem dX7_readIf_44 : decode cX7_readIf 44 = .ok (.invokevirtual 205, 3) := by decide +kernel
theorem dX7_readIf_47 : decode cX7_readIf 47 = .ok (.ifCond .ne 9, 3) := by decide +kernel
theorem dX7_readIf_50 : decode cX7_readIf 50 = .ok (.aload_n 0, 1) := by decide +kernel
theorem dX7_readIf_51 : decode cX7_readIf 51 = .ok (.iconst 1, 1) := by decide +kernel
theorem dX7_readIf_52 : decode cX7_readIf 52 = .ok (.invokevirtual 132, 3) := by decide +kernel
theorem dX7_readIf_55 : decode cX7_readIf 55 = .ok (.ireturn, 1) := by decide +kernel
theorem dX7_readIf_56 : decode cX7_readIf 56 = .ok (.aload_n 0, 1) := by decide +kernel
theorem dX7_readIf_57 : decode cX7_readIf 57 = .ok (.getfield 30, 3) := by decide +kernel
theorem dX7_readIf_60 : decode cX7_readIf 60 = .ok (.invokevirtual 208, 3) := by decide +kernel
theorem dX7_readIf_63 : decode cX7_readIf 63 = .ok (.lconst 0, 1) := by decide +kernel
theorem dX7_readIf_64 : decode cX7_readIf 64 = .ok (.lcmp, 1) := by decide +kernel
theorem dX7_readIf_65 : decode cX7_readIf 65 = .ok (.ifCond .eq 14, 3) := by decide +kernel
theorem dX7_readIf_68 : decode cX7_readIf 68 = .ok (.aload_n 0, 1) := by decide +kernel
theorem dX7_readIf_69 : decode cX7_readIf 69 = .ok (.getfield 37, 3) := by decide +kernel
theorem dX7_readIf_72 : decode cX7_readIf 72 = .ok (.iconst 1, 1) := by decide +kernel
theorem dX7_readIf_73 : decode cX7_readIf 73 = .ok (.invokevirtual 212, 3) := by decide +kernel
theorem dX7_readIf_76 : decode cX7_readIf 76 = .ok (.pop, 1) := by decide +kernel
theorem dX7_readIf_77 : decode cX7_readIf 77 = .ok (.iconst 0, 1) := by decide +kernel
theorem dX7_readIf_78 : decode cX7_readIf 78 = .ok (.ireturn, 1) := by decide +kernel
theorem dX7_readIf_79 : decode cX7_readIf 79 = .ok (.aload_n 0, 1) := by decide +kernel
theorem dX7_readIf_80 : decode cX7_readIf 80 = .ok (.getfield 10, 3) := by decide +kernel
theorem dX7_readIf_83 : decode cX7_readIf 83 = .ok (.aload_n 0, 1) := by decide +kernel
theorem dX7_readIf_84 : decode cX7_readIf 84 = .ok (.getfield 69, 3) := by decide +kernel
theorem dX7_readIf_87 : decode cX7_readIf 87 = .ok (.iload_n 1, 1) := by decide +kernel
theorem dX7_readIf_88 : decode cX7_readIf 88 = .ok (.iconst 1, 1) := by decide +kernel
theorem dX7_readIf_89 : decode cX7_readIf 89 = .ok (.iconst 1, 1) := by decide +kernel
theorem dX7_readIf_90 : decode cX7_readIf 90 = .ok (.invokevirtual 198, 3) := by decide +kernel
theorem dX7_readIf_93 : decode cX7_readIf 93 = .ok (.istore_n 2, 1) := by decide +kernel
theorem dX7_readIf_94 : decode cX7_readIf 94 = .ok (.iload_n 2, 1) := by decide +kernel
theorem dX7_readIf_95 : decode cX7_readIf 95 = .ok (.ifCond .ge 8, 3) := by decide +kernel
theorem dX7_readIf_98 : decode cX7_readIf 98 = .ok (.aload_n 0, 1) := by decide +kernel
theorem dX7_readIf_99 : decode cX7_readIf 99 = .ok (.invokevirtual 216, 3) := by decide +kernel
theorem dX7_readIf_102 : decode cX7_readIf 102 = .ok (.ireturn, 1) := by decide +kernel
theorem dX7_readIf_103 : decode cX7_readIf 103 = .ok (.aload_n 0, 1) := by decide +kernel
theorem dX7_readIf_104 : decode cX7_readIf 104 = .ok (.iload_n 2, 1) := by decide +kernel
theorem dX7_readIf_105 : decode cX7_readIf 105 = .ok (.iconst 1, 1) := by decide +kernel
theorem dX7_readIf_106 : decode cX7_readIf 106 = .ok (.iadd, 1) := by decide +kernel
theorem dX7_readIf_107 : decode cX7_readIf 107 = .ok (.putfield 69, 3) := by decide +kernel
theorem dX7_readIf_110 : decode cX7_readIf 110 = .ok (.aload_n 0, 1) := by decide +kernel
theorem dX7_readIf_111 : decode cX7_readIf 111 = .ok (.getfield 10, 3) := by decide +kernel
theorem dX7_readIf_114 : decode cX7_readIf 114 = .ok (.iload_n 2, 1) := by decide +kernel
theorem dX7_readIf_115 : decode cX7_readIf 115 = .ok (.invokevirtual 219, 3) := by decide +kernel
theorem dX7_readIf_118 : decode cX7_readIf 118 = .ok (.iconst 2, 1) := by decide +kernel
theorem dX7_readIf_119 : decode cX7_readIf 119 = .ok (.if_icmp .ne 12, 3) := by decide +kernel
theorem dX7_readIf_122 : decode cX7_readIf 122 = .ok (.aload_n 0, 1) := by decide +kernel
theorem dX7_readIf_123 : decode cX7_readIf 123 = .ok (.getfield 37, 3) := by decide +kernel
theorem dX7_readIf_126 : decode cX7_readIf 126 = .ok (.iconst 2, 1) := by decide +kernel
theorem dX7_readIf_127 : decode cX7_readIf 127 = .ok (.invokevirtual 212, 3) := by decide +kernel
theorem dX7_readIf_130 : decode cX7_readIf 130 = .ok (.pop, 1) := by decide +kernel
theorem dX7_readIf_131 : decode cX7_readIf 131 = .ok (.iconst 0, 1) := by decide +kernel
theorem dX7_readIf_132 : decode cX7_readIf 132 = .ok (.ireturn, 1) := by decide +kernel
theorem dX7_readElse_0 : decode cX7_readElse 0 = .ok (.aload_n 0, 1) := by decide +kernel
theorem dX7_readElse_1 : decode cX7_readElse 1 = .ok (.getfield 37, 3) := by decide +kernel
theorem dX7_readElse_4 : decode cX7_readElse 4 = .ok (.invokevirtual 222, 3) := by decide +kernel
theorem dX7_readElse_7 : decode cX7_readElse 7 = .ok (.iconst 1, 1) := by decide +kernel
theorem dX7_readElse_8 : decode cX7_readElse 8 = .ok (.if_icmp .eq 10, 3) := by decide +kernel
theorem dX7_readElse_11 : decode cX7_readElse 11 = .ok (.aload_n 0, 1) := by decide +kernel
theorem dX7_readElse_12 : decode cX7_readElse 12 = .ok (.bipush 6, 2) := by decide +kernel
theorem dX7_readElse_14 : decode cX7_readElse 14 = .ok (.invokevirtual 132, 3) := by decide +kernel
theorem dX7_readElse_17 : decode cX7_readElse 17 = .ok (.ireturn, 1) := by decide +kernel
theorem dX7_readElse_18 : decode cX7_readElse 18 = .ok (.aload_n 0, 1) := by decide +kernel
theorem dX7_readElse_19 : decode cX7_readElse 19 = .ok (.getfield 10, 3) := by decide +kernel
theorem dX7_readElse_22 : decode cX7_readElse 22 = .ok (.aload_n 0, 1) := by decide +kernel
theorem dX7_readElse_23 : decode cX7_readElse 23 = .ok (.getfield 69, 3) := by decide +kernel
theorem dX7_readElse_26 : decode cX7_readElse 26 = .ok (.aload_n 0, 1) := by decide +kernel
theorem dX7_readElse_27 : decode cX7_readElse 27 = .ok (.invokevirtual 96, 3) := by decide +kernel
theorem dX7_readElse_30 : decode cX7_readElse 30 = .ok (.iconst 1, 1) := by decide +kernel
theorem dX7_readElse_31 : decode cX7_readElse 31 = .ok (.iconst 0, 1) := by decide +kernel
theorem dX7_readElse_32 : decode cX7_readElse 32 = .ok (.invokevirtual 198, 3) := by decide +kernel
theorem dX7_readElse_35 : decode cX7_readElse 35 = .ok (.istore_n 1, 1) := by decide +kernel
theorem dX7_readElse_36 : decode cX7_readElse 36 = .ok (.aload_n 0, 1) := by decide +kernel
theorem dX7_readElse_37 : decode cX7_readElse 37 = .ok (.iload_n 1, 1) := by decide +kernel
theorem dX7_readElse_38 : decode cX7_readElse 38 = .ok (.invokevirtual 202, 3) := by decide +kernel
theorem dX7_readElse_41 : decode cX7_readElse 41 = .ok (.ifCond .eq 10, 3) := by decide +kernel
theorem dX7_readElse_44 : decode cX7_readElse 44 = .ok (.aload_n 0, 1) := by decide +kernel
theorem dX7_readElse_45 : decode cX7_readElse 45 = .ok (.bipush 6, 2) := by decide +kernel
theorem dX7_readElse_47 : decode cX7_readElse 47 = .ok (.invokevirtual 132, 3) := by decide +kernel
theorem dX7_readElse_50 : decode cX7_readElse 50 = .ok (.ireturn, 1) := by decide +kernel
theorem dX7_readElse_51 : decode cX7_readElse 51 = .ok (.aload_n 0, 1) := by decide +kernel
theorem dX7_readElse_52 : decode cX7_readElse 52 = .ok (.getfield 30, 3) := by decide +kernel
theorem dX7_readElse_55 : decode cX7_readElse 55 = .ok (.invokevirtual 225, 3) := by decide +kernel
theorem dX7_readElse_58 : decode cX7_readElse 58 = .ok (.iconst 1, 1) := by decide +kernel
theorem dX7_readElse_59 : decode cX7_readElse 59 = .ok (.if_icmp .eq 9, 3) := by decide +kernel
theorem dX7_readElse_62 : decode cX7_readElse 62 = .ok (.aload_n 0, 1) := by decide +kernel
theorem dX7_readElse_63 : decode cX7_readElse 63 = .ok (.iconst 1, 1) := by decide +kernel
theorem dX7_readElse_64 : decode cX7_readElse 64 = .ok (.invokevirtual 132, 3) := by decide +kernel
theorem dX7_readElse_67 : decode cX7_readElse 67 = .ok (.ireturn, 1) := by decide +kernel
theorem dX7_readElse_68 : decode cX7_readElse 68 = .ok (.iload_n 1, 1) := by decide +kernel
theorem dX7_readElse_69 : decode cX7_readElse 69 = .ok (.ifCond .ge 8, 3) := by decide +kernel
theorem dX7_readElse_72 : decode cX7_readElse 72 = .ok (.aload_n 0, 1) := by decide +kernel
theorem dX7_readElse_73 : decode cX7_readElse 73 = .ok (.invokevirtual 216, 3) := by decide +kernel
