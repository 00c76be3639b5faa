theorem dX7_readElse_76 : decode cX7_readElse 76 = .ok (.ireturn, 1) := by decide +kernel
theorem dX7_readElse_77 : decode cX7_readElse 77 = .ok (.aload_n 0, 1) := by decide +kernel
theorem dX7_readElse_78 : decode cX7_readElse 78 = .ok (.iload_n 1, 1) := by decide +kernel
theorem dX7_readElse_79 : decode cX7_readElse 79 = .ok (.iconst 1, 1) := by decide +kernel
theorem dX7_readElse_80 : decode cX7_readElse 80 = .ok (.iadd, 1) := by decide +kernel
theorem dX7_readElse_81 : decode cX7_readElse 81 = .ok (.putfield 69, 3) := by decide +kernel
theorem dX7_readElse_84 : decode cX7_readElse 84 = .ok (.aload_n 0, 1) := by decide +kernel
theorem dX7_readElse_85 : decode cX7_readElse 85 = .ok (.getfield 37, 3) := by decide +kernel
theorem dX7_readElse_88 : decode cX7_readElse 88 = .ok (.invokevirtual 226, 3) := by decide +kernel
theorem dX7_readElse_91 : decode cX7_readElse 91 = .ok (.iconst 0, 1) := by decide +kernel
theorem dX7_readElse_92 : decode cX7_readElse 92 = .ok (.ireturn, 1) := by decide +kernel
theorem dX7_readEndif_0 : decode cX7_readEndif 0 = .ok (.aload_n 0, 1) := by decide +kernel
theorem dX7_readEndif_1 : decode cX7_readEndif 1 = .ok (.getfield 37, 3) := by decide +kernel
theorem dX7_readEndif_4 : decode cX7_readEndif 4 = .ok (.invokevirtual 222, 3) := by decide +kernel
theorem dX7_readEndif_7 : decode cX7_readEndif 7 = .ok (.iconst 1, 1) := by decide +kernel
theorem dX7_readEndif_8 : decode cX7_readEndif 8 = .ok (.if_icmp .eq 21, 3) := by decide +kernel
theorem dX7_readEndif_11 : decode cX7_readEndif 11 = .ok (.aload_n 0, 1) := by decide +kernel
theorem dX7_readEndif_12 : decode cX7_readEndif 12 = .ok (.getfield 37, 3) := by decide +kernel
theorem dX7_readEndif_15 : decode cX7_readEndif 15 = .ok (.invokevirtual 222, 3) := by decide +kernel
theorem dX7_readEndif_18 : decode cX7_readEndif 18 = .ok (.iconst 2, 1) := by decide +kernel
theorem dX7_readEndif_19 : decode cX7_readEndif 19 = .ok (.if_icmp .eq 10, 3) := by decide +kernel
theorem dX7_readEndif_22 : decode cX7_readEndif 22 = .ok (.aload_n 0, 1) := by decide +kernel
theorem dX7_readEndif_23 : decode cX7_readEndif 23 = .ok (.bipush 6, 2) := by decide +kernel
theorem dX7_readEndif_25 : decode cX7_readEndif 25 = .ok (.invokevirtual 132, 3) := by decide +kernel
theorem dX7_readEndif_28 : decode cX7_readEndif 28 = .ok (.ireturn, 1) := by decide +kernel
theorem dX7_readEndif_29 : decode cX7_readEndif 29 = .ok (.aload_n 0, 1) := by decide +kernel
theorem dX7_readEndif_30 : decode cX7_readEndif 30 = .ok (.getfield 30, 3) := by decide +kernel
theorem dX7_readEndif_33 : decode cX7_readEndif 33 = .ok (.invokevirtual 225, 3) := by decide +kernel
theorem dX7_readEndif_36 : decode cX7_readEndif 36 = .ok (.iconst 1, 1) := by decide +kernel
theorem dX7_readEndif_37 : decode cX7_readEndif 37 = .ok (.if_icmp .eq 9, 3) := by decide +kernel
theorem dX7_readEndif_40 : decode cX7_readEndif 40 = .ok (.aload_n 0, 1) := by decide +kernel
theorem dX7_readEndif_41 : decode cX7_readEndif 41 = .ok (.iconst 1, 1) := by decide +kernel
theorem dX7_readEndif_42 : decode cX7_readEndif 42 = .ok (.invokevirtual 132, 3) := by decide +kernel
theorem dX7_readEndif_45 : decode cX7_readEndif 45 = .ok (.ireturn, 1) := by decide +kernel
theorem dX7_readEndif_46 : decode cX7_readEndif 46 = .ok (.aload_n 0, 1) := by decide +kernel
theorem dX7_readEndif_47 : decode cX7_readEndif 47 = .ok (.getfield 37, 3) := by decide +kernel
theorem dX7_readEndif_50 : decode cX7_readEndif 50 = .ok (.invokevirtual 226, 3) := by decide +kernel
theorem dX7_readEndif_53 : decode cX7_readEndif 53 = .ok (.iconst 0, 1) := by decide +kernel
theorem dX7_readEndif_54 : decode cX7_readEndif 54 = .ok (.ireturn, 1) := by decide +kernel
theorem dX7_readRept_0 : decode cX7_readRept 0 = .ok (.aload_n 0, 1) := by decide +kernel
theorem dX7_readRept_1 : decode cX7_readRept 1 = .ok (.getfield 10, 3) := by decide +kernel
theorem dX7_readRept_4 : decode cX7_readRept 4 = .ok (.aload_n 0, 1) := by decide +kernel
theorem dX7_readRept_5 : decode cX7_readRept 5 = .ok (.getfield 69, 3) := by decide +kernel
theorem dX7_readRept_8 : decode cX7_readRept 8 = .ok (.aload_n 0, 1) := by decide +kernel
theorem dX7_readRept_9 : decode cX7_readRept 9 = .ok (.invokevirtual 96, 3) := by decide +kernel
theorem dX7_readRept_12 : decode cX7_readRept 12 = .ok (.iconst 4, 1) := by decide +kernel
theorem dX7_readRept_13 : decode cX7_readRept 13 = .ok (.iconst 0, 1) := by decide +kernel
theorem dX7_readRept_14 : decode cX7_readRept 14 = .ok (.invokevirtual 198, 3) := by decide +kernel
theorem dX7_readRept_17 : decode cX7_readRept 17 = .ok (.istore_n 1, 1) := by decide +kernel
theorem dX7_readRept_18 : decode cX7_readRept 18 = .ok (.aload_n 0, 1) := by decide +kernel
theorem dX7_readRept_19 : decode cX7_readRept 19 = .ok (.getfield 37, 3) := by decide +kernel
theorem dX7_readRept_22 : decode cX7_readRept 22 = .ok (.invokevirtual 195, 3) := by decide +kernel
theorem dX7_readRept_25 : decode cX7_readRept 25 = .ok (.ifCond .ne 11, 3) := by decide +kernel
theorem dX7_readRept_28 : decode cX7_readRept 28 = .ok (.aload_n 0, 1) := by decide +kernel
theorem dX7_readRept_29 : decode cX7_readRept 29 = .ok (.iload_n 1, 1) := by decide +kernel
theorem dX7_readRept_30 : decode cX7_readRept 30 = .ok (.invokevirtual 202, 3) := by decide +kernel
theorem dX7_readRept_33 : decode cX7_readRept 33 = .ok (.ifCond .eq 10, 3) := by decide +kernel
theorem dX7_readRept_36 : decode cX7_readRept 36 = .ok (.aload_n 0, 1) := by decide +kernel
theorem dX7_readRept_37 : decode cX7_readRept 37 = .ok (.bipush 6, 2) := by decide +kernel
theorem dX7_readRept_39 : decode cX7_readRept 39 = .ok (.invokevirtual 132, 3) := by decide +kernel
theorem dX7_readRept_42 : decode cX7_readRept 42 = .ok (.ireturn, 1) := by decide +kernel
theorem dX7_readRept_43 : decode cX7_readRept 43 = .ok (.aload_n 0, 1) := by decide +kernel
theorem dX7_readRept_44 : decode cX7_readRept 44 = .ok (.invokevirtual 205, 3) := by decide +kernel
theorem dX7_readRept_47 : decode cX7_readRept 47 = .ok (.ifCond .ne 9, 3) := by decide +kernel
theorem dX7_readRept_50 : decode cX7_readRept 50 = .ok (.aload_n 0, 1) := by decide +kernel
theorem dX7_readRept_51 : decode cX7_readRept 51 = .ok (.iconst 1, 1) := by decide +kernel
theorem dX7_readRept_52 : decode cX7_readRept 52 = .ok (.invokevirtual 132, 3) := by decide +kernel
theorem dX7_readRept_55 : decode cX7_readRept 55 = .ok (.ireturn, 1) := by decide +kernel
theorem dX7_readRept_56 : decode cX7_readRept 56 = .ok (.aload_n 0, 1) := by decide +kernel
theorem dX7_readRept_57 : decode cX7_readRept 57 = .ok (.getfield 30, 3) := by decide +kernel
theorem dX7_readRept_60 : decode cX7_readRept 60 = .ok (.invokevirtual 208, 3) := by decide +kernel
theorem dX7_readRept_63 : decode cX7_readRept 63 = .ok (.lstore_n 2, 1) := by decide +kernel
theorem dX7_readRept_64 : decode cX7_readRept 64 = .ok (.lload_n 2, 1) := by decide +kernel
theorem dX7_readRept_65 : decode cX7_readRept 65 = .ok (.lconst 0, 1) := by decide +kernel
theorem dX7_readRept_66 : decode cX7_readRept 66 = .ok (.lcmp, 1) := by decide +kernel
theorem dX7_readRept_67 : decode cX7_readRept 67 = .ok (.ifCond .lt 11, 3) := by decide +kernel
theorem dX7_readRept_70 : decode cX7_readRept 70 = .ok (.lload_n 2, 1) := by decide +kernel
theorem dX7_readRept_71 : decode cX7_readRept 71 = .ok (.ldc2_w 229, 3) := by decide +kernel
theorem dX7_readRept_74 : decode cX7_readRept 74 = .ok (.lcmp, 1) := by decide +kernel
theorem dX7_readRept_75 : decode cX7_readRept 75 = .ok (.ifCond .le 10, 3) := by decide +kernel
theorem dX7_readRept_78 : decode cX7_readRept 78 = .ok (.aload_n 0, 1) := by decide +kernel
theorem dX7_readRept_79 : decode cX7_readRept 79 = .ok (.bipush 7, 2) := by decide +kernel
theorem dX7_readRept_81 : decode cX7_readRept 81 = .ok (.invokevirtual 132, 3) := by decide +kernel
theorem dX7_readRept_84 : decode cX7_readRept 84 = .ok (.ireturn, 1) := by decide +kernel
theorem dX7_readRept_85 : decode cX7_readRept 85 = .ok (.iload_n 1, 1) := by decide +kernel
theorem dX7_readRept_86 : decode cX7_readRept 86 = .ok (.ifCond .ge 8, 3) := by decide +kernel
theorem dX7_readRept_89 : decode cX7_readRept 89 = .ok (.aload_n 0, 1) := by decide +kernel
theorem dX7_readRept_90 : decode cX7_readRept 90 = .ok (.invokevirtual 216, 3) := by decide +kernel
theorem dX7_readRept_93 : decode cX7_readRept 93 = .ok (.ireturn, 1) := by decide +kernel
theorem dX7_readRept_94 : decode cX7_readRept 94 = .ok (.lload_n 2, 1) := by decide +kernel
theorem dX7_readRept_95 : decode cX7_readRept 95 = .ok (.lconst 0, 1) := by decide +kernel
theorem dX7_readRept_96 : decode cX7_readRept 96 = .ok (.lcmp, 1) := by decide +kernel
theorem dX7_readRept_97 : decode cX7_readRept 97 = .ok (.ifCond .le 52, 3) := by decide +kernel
theorem dX7_readRept_100 : decode cX7_readRept 100 = .ok (.aload_n 0, 1) := by decide +kernel
theorem dX7_readRept_101 : decode cX7_readRept 101 = .ok (.getfield 69, 3) := by decide +kernel
theorem dX7_readRept_104 : decode cX7_readRept 104 = .ok (.iload_n 1, 1) := by decide +kernel
theorem dX7_readRept_105 : decode cX7_readRept 105 = .ok (.if_icmp .ge 44, 3) := by decide +kernel
theorem dX7_readRept_108 : decode cX7_readRept 108 = .ok (.aload_n 0, 1) := by decide +kernel
theorem dX7_readRept_109 : decode cX7_readRept 109 = .ok (.getfield 37, 3) := by decide +kernel
theorem dX7_readRept_112 : decode cX7_readRept 112 = .ok (.iconst 4, 1) := by decide +kernel
theorem dX7_readRept_113 : decode cX7_readRept 113 = .ok (.invokevirtual 212, 3) := by decide +kernel
theorem dX7_readRept_116 : decode cX7_readRept 116 = .ok (.astore 4, 2) := by decide +kernel
theorem dX7_readRept_118 : decode cX7_readRept 118 = .ok (.aload 4, 2) := by decide +kernel
theorem dX7_readRept_120 : decode cX7_readRept 120 = .ok (.ifnull 29, 3) := by decide +kernel
theorem dX7_readRept_123 : decode cX7_readRept 123 = .ok (.aload 4, 2) := by decide +kernel
theorem dX7_readRept_125 : decode cX7_readRept 125 = .ok (.lload_n 2, 1) := by decide +kernel
theorem dX7_readRept_126 : decode cX7_readRept 126 = .ok (.l2i, 1) := by decide +kernel
theorem dX7_readRept_127 : decode cX7_readRept 127 = .ok (.putfield 231, 3) := by decide +kernel
theorem dX7_readRept_130 : decode cX7_readRept 130 = .ok (.aload 4, 2) := by decide +kernel
theorem dX7_readRept_132 : decode cX7_readRept 132 = .ok (.aload_n 0, 1) := by decide +kernel
theorem dX7_readRept_133 : decode cX7_readRept 133 = .ok (.getfield 69, 3) := by decide +kernel
theorem dX7_readRept_136 : decode cX7_readRept 136 = .ok (.iload_n 1, 1) := by decide +kernel
theorem dX7_readRept_137 : decode cX7_readRept 137 = .ok (.iload_n 1, 1) := by decide +kernel
theorem dX7_readRept_138 : decode cX7_readRept 138 = .ok (.iconst 1, 1) := by decide +kernel
theorem dX7_readRept_139 : decode cX7_readRept 139 = .ok (.iadd, 1) := by decide +kernel
theorem dX7_readRept_140 : decode cX7_readRept 140 = .ok (.aload_n 0, 1) := by decide +kernel
theorem dX7_readRept_141 : decode cX7_readRept 141 = .ok (.getfield 79, 3) := by decide +kernel
theorem dX7_readRept_144 : decode cX7_readRept 144 = .ok (.invokevirtual 234, 3) := by decide +kernel
theorem dX7_readRept_147 : decode cX7_readRept 147 = .ok (.iconst 0, 1) := by decide +kernel
theorem dX7_readRept_148 : decode cX7_readRept 148 = .ok (.ireturn, 1) := by decide +kernel
theorem dX7_readRept_149 : decode cX7_readRept 149 = .ok (.aload_n 0, 1) := by decide +kernel
theorem dX7_readRept_150 : decode cX7_readRept 150 = .ok (.iload_n 1, 1) := by decide +kernel
theorem dX7_readRept_151 : decode cX7_readRept 151 = .ok (.iconst 1, 1) := by decide +kernel
theorem dX7_readRept_152 : decode cX7_readRept 152 = .ok (.iadd, 1) := by decide +kernel
theorem dX7_readRept_153 : decode cX7_readRept 153 = .ok (.putfield 69, 3) := by decide +kernel
theorem dX7_readRept_156 : decode cX7_readRept 156 = .ok (.iconst 0, 1) := by decide +kernel
theorem dX7_readRept_157 : decode cX7_readRept 157 = .ok (.ireturn, 1) := by decide +kernel
theorem dX7_readMacro_0 : decode cX7_readMacro 0 = .ok (.aload_n 0, 1) := by decide +kernel
theorem dX7_readMacro_1 : decode cX7_readMacro 1 = .ok (.getfield 37, 3) := by decide +kernel
theorem dX7_readMacro_4 : decode cX7_readMacro 4 = .ok (.invokevirtual 117, 3) := by decide +kernel
theorem dX7_readMacro_7 : decode cX7_readMacro 7 = .ok (.ifnull 10, 3) := by decide +kernel
theorem dX7_readMacro_10 : decode cX7_readMacro 10 = .ok (.aload_n 0, 1) := by decide +kernel
theorem dX7_readMacro_11 : decode cX7_readMacro 11 = .ok (.bipush 6, 2) := by decide +kernel
theorem dX7_readMacro_13 : decode cX7_readMacro 13 = .ok (.invokevirtual 132, 3) := by decide +kernel
theorem dX7_readMacro_16 : decode cX7_readMacro 16 = .ok (.ireturn, 1) := by decide +kernel
theorem dX7_readMacro_17 : decode cX7_readMacro 17 = .ok (.aload_n 0, 1) := by decide +kernel
theorem dX7_readMacro_18 : decode cX7_readMacro 18 = .ok (.getfield 30, 3) := by decide +kernel
theorem dX7_readMacro_21 : decode cX7_readMacro 21 = .ok (.iconst 1, 1) := by decide +kernel
theorem dX7_readMacro_22 : decode cX7_readMacro 22 = .ok (.invokevirtual 139, 3) := by decide +kernel
theorem dX7_readMacro_25 : decode cX7_readMacro 25 = .ok (.iconst 1, 1) := by decide +kernel
theorem dX7_readMacro_26 : decode cX7_readMacro 26 = .ok (.if_icmp .ne 17, 3) := by decide +kernel
theorem dX7_readMacro_29 : decode cX7_readMacro 29 = .ok (.aload_n 0, 1) := by decide +kernel
theorem dX7_readMacro_30 : decode cX7_readMacro 30 = .ok (.iconst 1, 1) := by decide +kernel
theorem dX7_readMacro_31 : decode cX7_readMacro 31 = .ok (.invokevirtual 238, 3) := by decide +kernel
theorem dX7_readMacro_34 : decode cX7_readMacro 34 = .ok (.ifCond .eq 9, 3) := by decide +kernel
theorem dX7_readMacro_37 : decode cX7_readMacro 37 = .ok (.aload_n 0, 1) := by decide +kernel
theorem dX7_readMacro_38 : decode cX7_readMacro 38 = .ok (.iconst 3, 1) := by decide +kernel
theorem dX7_readMacro_39 : decode cX7_readMacro 39 = .ok (.invokevirtual 132, 3) := by decide +kernel
theorem dX7_readMacro_42 : decode cX7_readMacro 42 = .ok (.ireturn, 1) := by decide +kernel
theorem dX7_readMacro_43 : decode cX7_readMacro 43 = .ok (.aload_n 0, 1) := by decide +kernel
theorem dX7_readMacro_44 : decode cX7_readMacro 44 = .ok (.invokevirtual 241, 3) := by decide +kernel
theorem dX7_readMacro_47 : decode cX7_readMacro 47 = .ok (.ifCond .ne 9, 3) := by decide +kernel
theorem dX7_readMacro_50 : decode cX7_readMacro 50 = .ok (.aload_n 0, 1) := by decide +kernel
theorem dX7_readMacro_51 : decode cX7_readMacro 51 = .ok (.iconst 1, 1) := by decide +kernel
theorem dX7_readMacro_52 : decode cX7_readMacro 52 = .ok (.invokevirtual 132, 3) := by decide +kernel
theorem dX7_readMacro_55 : decode cX7_readMacro 55 = .ok (.ireturn, 1) := by decide +kernel
theorem dX7_readMacro_56 : decode cX7_readMacro 56 = .ok (.aload_n 0, 1) := by decide +kernel
theorem dX7_readMacro_57 : decode cX7_readMacro 57 = .ok (.getfield 10, 3) := by decide +kernel
theorem dX7_readMacro_60 : decode cX7_readMacro 60 = .ok (.aload_n 0, 1) := by decide +kernel
theorem dX7_readMacro_61 : decode cX7_readMacro 61 = .ok (.getfield 69, 3) := by decide +kernel
theorem dX7_readMacro_64 : decode cX7_readMacro 64 = .ok (.aload_n 0, 1) := by decide +kernel
theorem dX7_readMacro_65 : decode cX7_readMacro 65 = .ok (.getfield 10, 3) := by decide +kernel
theorem dX7_readMacro_68 : decode cX7_readMacro 68 = .ok (.invokevirtual 92, 3) := by decide +kernel
theorem dX7_readMacro_71 : decode cX7_readMacro 71 = .ok (.bipush 6, 2) := by decide +kernel
theorem dX7_readMacro_73 : decode cX7_readMacro 73 = .ok (.iconst 0, 1) := by decide +kernel
theorem dX7_readMacro_74 : decode cX7_readMacro 74 = .ok (.invokevirtual 198, 3) := by decide +kernel
theorem dX7_readMacro_77 : decode cX7_readMacro 77 = .ok (.istore_n 1, 1) := by decide +kernel
theorem dX7_readMacro_78 : decode cX7_readMacro 78 = .ok (.iload_n 1, 1) := by decide +kernel
theorem dX7_readMacro_79 : decode cX7_readMacro 79 = .ok (.ifCond .ge 8, 3) := by decide +kernel
theorem dX7_readMacro_82 : decode cX7_readMacro 82 = .ok (.aload_n 0, 1) := by decide +kernel
theorem dX7_readMacro_83 : decode cX7_readMacro 83 = .ok (.invokevirtual 216, 3) := by decide +kernel
theorem dX7_readMacro_86 : decode cX7_readMacro 86 = .ok (.ireturn, 1) := by decide +kernel
theorem dX7_readMacro_87 : decode cX7_readMacro 87 = .ok (.aload_n 0, 1) := by decide +kernel
theorem dX7_readMacro_88 : decode cX7_readMacro 88 = .ok (.getfield 44, 3) := by decide +kernel
theorem dX7_readMacro_91 : decode cX7_readMacro 91 = .ok (.new 244, 3) := by decide +kernel
theorem dX7_readMacro_94 : decode cX7_readMacro 94 = .ok (.dup, 1) := by decide +kernel
theorem dX7_readMacro_95 : decode cX7_readMacro 95 = .ok (.aload_n 0, 1) := by decide +kernel
theorem dX7_readMacro_96 : decode cX7_readMacro 96 = .ok (.getfield 30, 3) := by decide +kernel
theorem dX7_readMacro_99 : decode cX7_readMacro 99 = .ok (.aload_n 0, 1) := by decide +kernel
theorem dX7_readMacro_100 : decode cX7_readMacro 100 = .ok (.getfield 10, 3) := by decide +kernel
theorem dX7_readMacro_103 : decode cX7_readMacro 103 = .ok (.aload_n 0, 1) := by decide +kernel
theorem dX7_readMacro_104 : decode cX7_readMacro 104 = .ok (.getfield 69, 3) := by decide +kernel
theorem dX7_readMacro_107 : decode cX7_readMacro 107 = .ok (.iconst 1, 1) := by decide +kernel
theorem dX7_readMacro_108 : decode cX7_readMacro 108 = .ok (.isub, 1) := by decide +kernel
theorem dX7_readMacro_109 : decode cX7_readMacro 109 = .ok (.invokevirtual 163, 3) := by decide +kernel
theorem dX7_readMacro_112 : decode cX7_readMacro 112 = .ok (.aload_n 0, 1) := by decide +kernel
theorem dX7_readMacro_113 : decode cX7_readMacro 113 = .ok (.getfield 69, 3) := by decide +kernel
theorem dX7_readMacro_116 : decode cX7_readMacro 116 = .ok (.iload_n 1, 1) := by decide +kernel
theorem dX7_readMacro_117 : decode cX7_readMacro 117 = .ok (.invokespecial 246, 3) := by decide +kernel
theorem dX7_readMacro_120 : decode cX7_readMacro 120 = .ok (.invokevirtual 249, 3) := by decide +kernel
theorem dX7_readMacro_123 : decode cX7_readMacro 123 = .ok (.pop, 1) := by decide +kernel
theorem dX7_readMacro_124 : decode cX7_readMacro 124 = .ok (.aload_n 0, 1) := by decide +kernel
theorem dX7_readMacro_125 : decode cX7_readMacro 125 = .ok (.iload_n 1, 1) := by decide +kernel
theorem dX7_readMacro_126 : decode cX7_readMacro 126 = .ok (.iconst 1, 1) := by decide +kernel
theorem dX7_readMacro_127 : decode cX7_readMacro 127 = .ok (.iadd, 1) := by decide +kernel
theorem dX7_readMacro_128 : decode cX7_readMacro 128 = .ok (.putfield 69, 3) := by decide +kernel
theorem dX7_readMacro_131 : decode cX7_readMacro 131 = .ok (.iconst 0, 1) := by decide +kernel
theorem dX7_readMacro_132 : decode cX7_readMacro 132 = .ok (.ireturn, 1) := by decide +kernel
theorem dX7_readMacroLines_0 : decode cX7_readMacroLines 0 = .ok (.aload_n 0, 1) := by decide +kernel
theorem dX7_readMacroLines_1 : decode cX7_readMacroLines 1 = .ok (.getfield 37, 3) := by decide +kernel
theorem dX7_readMacroLines_4 : decode cX7_readMacroLines 4 = .ok (.invokevirtual 253, 3) := by decide +kernel
theorem dX7_readMacroLines_7 : decode cX7_readMacroLines 7 = .ok (.astore_n 2, 1) := by decide +kernel
theorem dX7_readMacroLines_8 : decode cX7_readMacroLines 8 = .ok (.aload_n 2, 1) := by decide +kernel
theorem dX7_readMacroLines_9 : decode cX7_readMacroLines 9 = .ok (.ifnull 19, 3) := by decide +kernel
theorem dX7_readMacroLines_12 : decode cX7_readMacroLines 12 = .ok (.aload_n 2, 1) := by decide +kernel
theorem dX7_readMacroLines_13 : decode cX7_readMacroLines 13 = .ok (.aload_n 0, 1) := by decide +kernel
theorem dX7_readMacroLines_14 : decode cX7_readMacroLines 14 = .ok (.getfield 21, 3) := by decide +kernel
theorem dX7_readMacroLines_17 : decode cX7_readMacroLines 17 = .ok (.aload_n 0, 1) := by decide +kernel
theorem dX7_readMacroLines_18 : decode cX7_readMacroLines 18 = .ok (.getfield 30, 3) := by decide +kernel
theorem dX7_readMacroLines_21 : decode cX7_readMacroLines 21 = .ok (.aload_n 1, 1) := by decide +kernel
theorem dX7_readMacroLines_22 : decode cX7_readMacroLines 22 = .ok (.invokevirtual 256, 3) := by decide +kernel
theorem dX7_readMacroLines_25 : decode cX7_readMacroLines 25 = .ok (.ifCond .ne 10, 3) := by decide +kernel
theorem dX7_readMacroLines_28 : decode cX7_readMacroLines 28 = .ok (.aload_n 0, 1) := by decide +kernel
theorem dX7_readMacroLines_29 : decode cX7_readMacroLines 29 = .ok (.bipush 6, 2) := by decide +kernel
theorem dX7_readMacroLines_31 : decode cX7_readMacroLines 31 = .ok (.invokevirtual 132, 3) := by decide +kernel
theorem dX7_readMacroLines_34 : decode cX7_readMacroLines 34 = .ok (.ireturn, 1) := by decide +kernel
theorem dX7_readMacroLines_35 : decode cX7_readMacroLines 35 = .ok (.aload_n 2, 1) := by decide +kernel
theorem dX7_readMacroLines_36 : decode cX7_readMacroLines 36 = .ok (.aload_n 0, 1) := by decide +kernel
theorem dX7_readMacroLines_37 : decode cX7_readMacroLines 37 = .ok (.getfield 76, 3) := by decide +kernel
theorem dX7_readMacroLines_40 : decode cX7_readMacroLines 40 = .ok (.putfield 260, 3) := by decide +kernel
theorem dX7_readMacroLines_43 : decode cX7_readMacroLines 43 = .ok (.aload_n 0, 1) := by decide +kernel
theorem dX7_readMacroLines_44 : decode cX7_readMacroLines 44 = .ok (.dup, 1) := by decide +kernel
theorem dX7_readMacroLines_45 : decode cX7_readMacroLines 45 = .ok (.getfield 76, 3) := by decide +kernel
theorem dX7_readMacroLines_48 : decode cX7_readMacroLines 48 = .ok (.iconst 1, 1) := by decide +kernel
theorem dX7_readMacroLines_49 : decode cX7_readMacroLines 49 = .ok (.iadd, 1) := by decide +kernel
theorem dX7_readMacroLines_50 : decode cX7_readMacroLines 50 = .ok (.putfield 76, 3) := by decide +kernel
theorem dX7_readMacroLines_53 : decode cX7_readMacroLines 53 = .ok (.aload_n 2, 1) := by decide +kernel
theorem dX7_readMacroLines_54 : decode cX7_readMacroLines 54 = .ok (.aload_n 1, 1) := by decide +kernel
theorem dX7_readMacroLines_55 : decode cX7_readMacroLines 55 = .ok (.getfield 263, 3) := by decide +kernel
theorem dX7_readMacroLines_58 : decode cX7_readMacroLines 58 = .ok (.aload_n 1, 1) := by decide +kernel
theorem dX7_readMacroLines_59 : decode cX7_readMacroLines 59 = .ok (.getfield 266, 3) := by decide +kernel
theorem dX7_readMacroLines_62 : decode cX7_readMacroLines 62 = .ok (.aload_n 0, 1) := by decide +kernel
theorem dX7_readMacroLines_63 : decode cX7_readMacroLines 63 = .ok (.getfield 69, 3) := by decide +kernel
theorem dX7_readMacroLines_66 : decode cX7_readMacroLines 66 = .ok (.aload_n 0, 1) := by decide +kernel
theorem dX7_readMacroLines_67 : decode cX7_readMacroLines 67 = .ok (.getfield 79, 3) := by decide +kernel
theorem dX7_readMacroLines_70 : decode cX7_readMacroLines 70 = .ok (.invokevirtual 234, 3) := by decide +kernel
theorem dX7_readMacroLines_73 : decode cX7_readMacroLines 73 = .ok (.aload_n 0, 1) := by decide +kernel
theorem dX7_readMacroLines_74 : decode cX7_readMacroLines 74 = .ok (.getfield 37, 3) := by decide +kernel
theorem dX7_readMacroLines_77 : decode cX7_readMacroLines 77 = .ok (.bipush 6, 2) := by decide +kernel
theorem dX7_readMacroLines_79 : decode cX7_readMacroLines 79 = .ok (.invokevirtual 212, 3) := by decide +kernel
theorem dX7_readMacroLines_82 : decode cX7_readMacroLines 82 = .ok (.pop, 1) := by decide +kernel
theorem dX7_readMacroLines_83 : decode cX7_readMacroLines 83 = .ok (.aload_n 0, 1) := by decide +kernel
theorem dX7_readMacroLines_84 : decode cX7_readMacroLines 84 = .ok (.aload_n 1, 1) := by decide +kernel
theorem dX7_readMacroLines_85 : decode cX7_readMacroLines 85 = .ok (.getfield 263, 3) := by decide +kernel
theorem dX7_readMacroLines_88 : decode cX7_readMacroLines 88 = .ok (.putfield 69, 3) := by decide +kernel
theorem dX7_readMacroLines_91 : decode cX7_readMacroLines 91 = .ok (.iconst 0, 1) := by decide +kernel
theorem dX7_readMacroLines_92 : decode cX7_readMacroLines 92 = .ok (.ireturn, 1) := by decide +kernel
theorem dX7_endLines_0 : decode cX7_endLines 0 = .ok (.aload_n 0, 1) := by decide +kernel
theorem dX7_endLines_1 : decode cX7_endLines 1 = .ok (.getfield 37, 3) := by decide +kernel
theorem dX7_endLines_4 : decode cX7_endLines 4 = .ok (.invokevirtual 267, 3) := by decide +kernel
theorem dX7_endLines_7 : decode cX7_endLines 7 = .ok (.astore_n 1, 1) := by decide +kernel
theorem dX7_endLines_8 : decode cX7_endLines 8 = .ok (.aload_n 1, 1) := by decide +kernel
theorem dX7_endLines_9 : decode cX7_endLines 9 = .ok (.ifnonnull 5, 3) := by decide +kernel
theorem dX7_endLines_12 : decode cX7_endLines 12 = .ok (.iconst 2, 1) := by decide +kernel
theorem dX7_endLines_13 : decode cX7_endLines 13 = .ok (.ireturn, 1) := by decide +kernel
theorem dX7_endLines_14 : decode cX7_endLines 14 = .ok (.aload_n 1, 1) := by decide +kernel
theorem dX7_endLines_15 : decode cX7_endLines 15 = .ok (.invokevirtual 270, 3) := by decide +kernel
theorem dX7_endLines_18 : decode cX7_endLines 18 = .ok (.ifCond .ne 27, 3) := by decide +kernel
theorem dX7_endLines_21 : decode cX7_endLines 21 = .ok (.aload_n 0, 1) := by decide +kernel
theorem dX7_endLines_22 : decode cX7_endLines 22 = .ok (.getfield 37, 3) := by decide +kernel
theorem dX7_endLines_25 : decode cX7_endLines 25 = .ok (.invokevirtual 117, 3) := by decide +kernel
theorem dX7_endLines_28 : decode cX7_endLines 28 = .ok (.ifnonnull 10, 3) := by decide +kernel
theorem dX7_endLines_31 : decode cX7_endLines 31 = .ok (.aload_n 0, 1) := by decide +kernel
theorem dX7_endLines_32 : decode cX7_endLines 32 = .ok (.invokevirtual 216, 3) := by decide +kernel
theorem dX7_endLines_35 : decode cX7_endLines 35 = .ok (.goto 9, 3) := by decide +kernel
theorem dX7_endLines_38 : decode cX7_endLines 38 = .ok (.aload_n 0, 1) := by decide +kernel
theorem dX7_endLines_39 : decode cX7_endLines 39 = .ok (.bipush 6, 2) := by decide +kernel
theorem dX7_endLines_41 : decode cX7_endLines 41 = .ok (.invokevirtual 132, 3) := by decide +kernel
theorem dX7_endLines_44 : decode cX7_endLines 44 = .ok (.ireturn, 1) := by decide +kernel
theorem dX7_endLines_45 : decode cX7_endLines 45 = .ok (.aload_n 1, 1) := by decide +kernel
theorem dX7_endLines_46 : decode cX7_endLines 46 = .ok (.dup, 1) := by decide +kernel
theorem dX7_endLines_47 : decode cX7_endLines 47 = .ok (.getfield 231, 3) := by decide +kernel
theorem dX7_endLines_50 : decode cX7_endLines 50 = .ok (.iconst 1, 1) := by decide +kernel
theorem dX7_endLines_51 : decode cX7_endLines 51 = .ok (.isub, 1) := by decide +kernel
theorem dX7_endLines_52 : decode cX7_endLines 52 = .ok (.putfield 231, 3) := by decide +kernel
theorem dX7_endLines_55 : decode cX7_endLines 55 = .ok (.aload_n 1, 1) := by decide +kernel
theorem dX7_endLines_56 : decode cX7_endLines 56 = .ok (.getfield 273, 3) := by decide +kernel
theorem dX7_endLines_59 : decode cX7_endLines 59 = .ok (.iconst 4, 1) := by decide +kernel
theorem dX7_endLines_60 : decode cX7_endLines 60 = .ok (.if_icmp .ne 20, 3) := by decide +kernel
theorem dX7_endLines_63 : decode cX7_endLines 63 = .ok (.aload_n 1, 1) := by decide +kernel
theorem dX7_endLines_64 : decode cX7_endLines 64 = .ok (.getfield 231, 3) := by decide +kernel
theorem dX7_endLines_67 : decode cX7_endLines 67 = .ok (.ifCond .le 13, 3) := by decide +kernel
theorem dX7_endLines_70 : decode cX7_endLines 70 = .ok (.aload_n 0, 1) := by decide +kernel
theorem dX7_endLines_71 : decode cX7_endLines 71 = .ok (.aload_n 1, 1) := by decide +kernel
theorem dX7_endLines_72 : decode cX7_endLines 72 = .ok (.getfield 275, 3) := by decide +kernel
theorem dX7_endLines_75 : decode cX7_endLines 75 = .ok (.putfield 69, 3) := by decide +kernel
theorem dX7_endLines_78 : decode cX7_endLines 78 = .ok (.iconst 0, 1) := by decide +kernel
theorem dX7_endLines_79 : decode cX7_endLines 79 = .ok (.ireturn, 1) := by decide +kernel
theorem dX7_endLines_80 : decode cX7_endLines 80 = .ok (.aload_n 0, 1) := by decide +kernel
theorem dX7_endLines_81 : decode cX7_endLines 81 = .ok (.aload_n 1, 1) := by decide +kernel
theorem dX7_endLines_82 : decode cX7_endLines 82 = .ok (.getfield 276, 3) := by decide +kernel
theorem dX7_endLines_85 : decode cX7_endLines 85 = .ok (.putfield 69, 3) := by decide +kernel
theorem dX7_endLines_88 : decode cX7_endLines 88 = .ok (.aload_n 0, 1) := by decide +kernel
theorem dX7_endLines_89 : decode cX7_endLines 89 = .ok (.getfield 37, 3) := by decide +kernel
theorem dX7_endLines_92 : decode cX7_endLines 92 = .ok (.invokevirtual 226, 3) := by decide +kernel
theorem dX7_endLines_95 : decode cX7_endLines 95 = .ok (.iconst 0, 1) := by decide +kernel
theorem dX7_endLines_96 : decode cX7_endLines 96 = .ok (.ireturn, 1) := by decide +kernel
theorem dX7_tell_0 : decode cX7_tell 0 = .ok (.aload_n 0, 1) := by decide +kernel
theorem dX7_tell_1 : decode cX7_tell 1 = .ok (.iload_n 1, 1) := by decide +kernel
theorem dX7_tell_2 : decode cX7_tell 2 = .ok (.putfield 82, 3) := by decide +kernel
theorem dX7_tell_5 : decode cX7_tell 5 = .ok (.iconst 2, 1) := by decide +kernel
theorem dX7_tell_6 : decode cX7_tell 6 = .ok (.ireturn, 1) := by decide +kernel
theorem dX7_tellUnended_0 : decode cX7_tellUnended 0 = .ok (.aload_n 0, 1) := by decide +kernel
theorem dX7_tellUnended_1 : decode cX7_tellUnended 1 = .ok (.aload_n 0, 1) := by decide +kernel
theorem dX7_tellUnended_2 : decode cX7_tellUnended 2 = .ok (.getfield 10, 3) := by decide +kernel
theorem dX7_tellUnended_5 : decode cX7_tellUnended 5 = .ok (.invokevirtual 92, 3) := by decide +kernel
theorem dX7_tellUnended_8 : decode cX7_tellUnended 8 = .ok (.putfield 79, 3) := by decide +kernel
theorem dX7_tellUnended_11 : decode cX7_tellUnended 11 = .ok (.aload_n 0, 1) := by decide +kernel
theorem dX7_tellUnended_12 : decode cX7_tellUnended 12 = .ok (.bipush 6, 2) := by decide +kernel
theorem dX7_tellUnended_14 : decode cX7_tellUnended 14 = .ok (.invokevirtual 132, 3) := by decide +kernel
theorem dX7_tellUnended_17 : decode cX7_tellUnended 17 = .ok (.ireturn, 1) := by decide +kernel
theorem dX7_isEndMissing_0 : decode cX7_isEndMissing 0 = .ok (.iload_n 1, 1) := by decide +kernel
theorem dX7_isEndMissing_1 : decode cX7_isEndMissing 1 = .ok (.ifCond .ge 17, 3) := by decide +kernel
theorem dX7_isEndMissing_4 : decode cX7_isEndMissing 4 = .ok (.aload_n 0, 1) := by decide +kernel
theorem dX7_isEndMissing_5 : decode cX7_isEndMissing 5 = .ok (.getfield 37, 3) := by decide +kernel
theorem dX7_isEndMissing_8 : decode cX7_isEndMissing 8 = .ok (.invokevirtual 117, 3) := by decide +kernel
theorem dX7_isEndMissing_11 : decode cX7_isEndMissing 11 = .ok (.ifnull 7, 3) := by decide +kernel
theorem dX7_isEndMissing_14 : decode cX7_isEndMissing 14 = .ok (.iconst 1, 1) := by decide +kernel
theorem dX7_isEndMissing_15 : decode cX7_isEndMissing 15 = .ok (.goto 4, 3) := by decide +kernel
theorem dX7_isEndMissing_18 : decode cX7_isEndMissing 18 = .ok (.iconst 0, 1) := by decide +kernel
theorem dX7_isEndMissing_19 : decode cX7_isEndMissing 19 = .ok (.ireturn, 1) := by decide +kernel
theorem dX7_isNumberAlone_0 : decode cX7_isNumberAlone 0 = .ok (.aload_n 0, 1) := by decide +kernel
theorem dX7_isNumberAlone_1 : decode cX7_isNumberAlone 1 = .ok (.getfield 30, 3) := by decide +kernel
theorem dX7_isNumberAlone_4 : decode cX7_isNumberAlone 4 = .ok (.invokevirtual 225, 3) := by decide +kernel
theorem dX7_isNumberAlone_7 : decode cX7_isNumberAlone 7 = .ok (.iconst 2, 1) := by decide +kernel
theorem dX7_isNumberAlone_8 : decode cX7_isNumberAlone 8 = .ok (.if_icmp .ne 19, 3) := by decide +kernel
theorem dX7_isNumberAlone_11 : decode cX7_isNumberAlone 11 = .ok (.aload_n 0, 1) := by decide +kernel
theorem dX7_isNumberAlone_12 : decode cX7_isNumberAlone 12 = .ok (.getfield 30, 3) := by decide +kernel
theorem dX7_isNumberAlone_15 : decode cX7_isNumberAlone 15 = .ok (.iconst 1, 1) := by decide +kernel
theorem dX7_isNumberAlone_16 : decode cX7_isNumberAlone 16 = .ok (.invokevirtual 139, 3) := by decide +kernel
theorem dX7_isNumberAlone_19 : decode cX7_isNumberAlone 19 = .ok (.iconst 2, 1) := by decide +kernel
theorem dX7_isNumberAlone_20 : decode cX7_isNumberAlone 20 = .ok (.if_icmp .ne 7, 3) := by decide +kernel
theorem dX7_isNumberAlone_23 : decode cX7_isNumberAlone 23 = .ok (.iconst 1, 1) := by decide +kernel
theorem dX7_isNumberAlone_24 : decode cX7_isNumberAlone 24 = .ok (.goto 4, 3) := by decide +kernel
theorem dX7_isNumberAlone_27 : decode cX7_isNumberAlone 27 = .ok (.iconst 0, 1) := by decide +kernel
theorem dX7_isNumberAlone_28 : decode cX7_isNumberAlone 28 = .ok (.ireturn, 1) := by decide +kernel
theorem dX7_isHeading_0 : decode cX7_isHeading 0 = .ok (.aload_n 0, 1) := by decide +kernel
theorem dX7_isHeading_1 : decode cX7_isHeading 1 = .ok (.getfield 30, 3) := by decide +kernel
theorem dX7_isHeading_4 : decode cX7_isHeading 4 = .ok (.invokevirtual 225, 3) := by decide +kernel
theorem dX7_isHeading_7 : decode cX7_isHeading 7 = .ok (.istore_n 1, 1) := by decide +kernel
theorem dX7_isHeading_8 : decode cX7_isHeading 8 = .ok (.aload_n 0, 1) := by decide +kernel
theorem dX7_isHeading_9 : decode cX7_isHeading 9 = .ok (.getfield 30, 3) := by decide +kernel
theorem dX7_isHeading_12 : decode cX7_isHeading 12 = .ok (.iconst 1, 1) := by decide +kernel
theorem dX7_isHeading_13 : decode cX7_isHeading 13 = .ok (.invokevirtual 139, 3) := by decide +kernel
theorem dX7_isHeading_16 : decode cX7_isHeading 16 = .ok (.iconst 1, 1) := by decide +kernel
theorem dX7_isHeading_17 : decode cX7_isHeading 17 = .ok (.if_icmp .ne 14, 3) := by decide +kernel
theorem dX7_isHeading_20 : decode cX7_isHeading 20 = .ok (.iload_n 1, 1) := by decide +kernel
theorem dX7_isHeading_21 : decode cX7_isHeading 21 = .ok (.iconst 2, 1) := by decide +kernel
theorem dX7_isHeading_22 : decode cX7_isHeading 22 = .ok (.if_icmp .le 11, 3) := by decide +kernel
theorem dX7_isHeading_25 : decode cX7_isHeading 25 = .ok (.iload_n 1, 1) := by decide +kernel
theorem dX7_isHeading_26 : decode cX7_isHeading 26 = .ok (.iconst 2, 1) := by decide +kernel
theorem dX7_isHeading_27 : decode cX7_isHeading 27 = .ok (.irem, 1) := by decide +kernel
theorem dX7_isHeading_28 : decode cX7_isHeading 28 = .ok (.ifCond .ne 5, 3) := by decide +kernel
theorem dX7_isHeading_31 : decode cX7_isHeading 31 = .ok (.iconst 0, 1) := by decide +kernel
theorem dX7_isHeading_32 : decode cX7_isHeading 32 = .ok (.ireturn, 1) := by decide +kernel
theorem dX7_isHeading_33 : decode cX7_isHeading 33 = .ok (.iconst 2, 1) := by decide +kernel
theorem dX7_isHeading_34 : decode cX7_isHeading 34 = .ok (.istore_n 2, 1) := by decide +kernel
theorem dX7_isHeading_35 : decode cX7_isHeading 35 = .ok (.iload_n 2, 1) := by decide +kernel
theorem dX7_isHeading_36 : decode cX7_isHeading 36 = .ok (.iload_n 1, 1) := by decide +kernel
theorem dX7_isHeading_37 : decode cX7_isHeading 37 = .ok (.if_icmp .ge 34, 3) := by decide +kernel
theorem dX7_isHeading_40 : decode cX7_isHeading 40 = .ok (.aload_n 0, 1) := by decide +kernel
theorem dX7_isHeading_41 : decode cX7_isHeading 41 = .ok (.getfield 30, 3) := by decide +kernel
theorem dX7_isHeading_44 : decode cX7_isHeading 44 = .ok (.iload_n 2, 1) := by decide +kernel
theorem dX7_isHeading_45 : decode cX7_isHeading 45 = .ok (.invokevirtual 139, 3) := by decide +kernel
theorem dX7_isHeading_48 : decode cX7_isHeading 48 = .ok (.iload_n 2, 1) := by decide +kernel
theorem dX7_isHeading_49 : decode cX7_isHeading 49 = .ok (.iconst 2, 1) := by decide +kernel
theorem dX7_isHeading_50 : decode cX7_isHeading 50 = .ok (.irem, 1) := by decide +kernel
theorem dX7_isHeading_51 : decode cX7_isHeading 51 = .ok (.ifCond .ne 7, 3) := by decide +kernel
theorem dX7_isHeading_54 : decode cX7_isHeading 54 = .ok (.iconst 1, 1) := by decide +kernel
theorem dX7_isHeading_55 : decode cX7_isHeading 55 = .ok (.goto 5, 3) := by decide +kernel
theorem dX7_isHeading_58 : decode cX7_isHeading 58 = .ok (.bipush 44, 2) := by decide +kernel
theorem dX7_isHeading_60 : decode cX7_isHeading 60 = .ok (.if_icmp .eq 5, 3) := by decide +kernel
theorem dX7_isHeading_63 : decode cX7_isHeading 63 = .ok (.iconst 0, 1) := by decide +kernel
theorem dX7_isHeading_64 : decode cX7_isHeading 64 = .ok (.ireturn, 1) := by decide +kernel
theorem dX7_isHeading_65 : decode cX7_isHeading 65 = .ok (.iinc 2 1, 3) := by decide +kernel
theorem dX7_isHeading_68 : decode cX7_isHeading 68 = .ok (.goto (-33), 3) := by decide +kernel
theorem dX7_isHeading_71 : decode cX7_isHeading 71 = .ok (.iconst 1, 1) := by decide +kernel
theorem dX7_isHeading_72 : decode cX7_isHeading 72 = .ok (.ireturn, 1) := by decide +kernel
theorem dX7_isTaken_0 : decode cX7_isTaken 0 = .ok (.aload_n 0, 1) := by decide +kernel
theorem dX7_isTaken_1 : decode cX7_isTaken 1 = .ok (.getfield 21, 3) := by decide +kernel
theorem dX7_isTaken_4 : decode cX7_isTaken 4 = .ok (.aload_n 0, 1) := by decide +kernel
theorem dX7_isTaken_5 : decode cX7_isTaken 5 = .ok (.getfield 30, 3) := by decide +kernel
theorem dX7_isTaken_8 : decode cX7_isTaken 8 = .ok (.iload_n 1, 1) := by decide +kernel
theorem dX7_isTaken_9 : decode cX7_isTaken 9 = .ok (.invokevirtual 142, 3) := by decide +kernel
theorem dX7_isTaken_12 : decode cX7_isTaken 12 = .ok (.aload_n 0, 1) := by decide +kernel
theorem dX7_isTaken_13 : decode cX7_isTaken 13 = .ok (.getfield 30, 3) := by decide +kernel
theorem dX7_isTaken_16 : decode cX7_isTaken 16 = .ok (.iload_n 1, 1) := by decide +kernel
theorem dX7_isTaken_17 : decode cX7_isTaken 17 = .ok (.invokevirtual 145, 3) := by decide +kernel
theorem dX7_isTaken_20 : decode cX7_isTaken 20 = .ok (.invokestatic 148, 3) := by decide +kernel
theorem dX7_isTaken_23 : decode cX7_isTaken 23 = .ok (.ifCond .ne 11, 3) := by decide +kernel
theorem dX7_isTaken_26 : decode cX7_isTaken 26 = .ok (.aload_n 0, 1) := by decide +kernel
theorem dX7_isTaken_27 : decode cX7_isTaken 27 = .ok (.iload_n 1, 1) := by decide +kernel
theorem dX7_isTaken_28 : decode cX7_isTaken 28 = .ok (.invokevirtual 155, 3) := by decide +kernel
theorem dX7_isTaken_31 : decode cX7_isTaken 31 = .ok (.ifnull 7, 3) := by decide +kernel
theorem dX7_isTaken_34 : decode cX7_isTaken 34 = .ok (.iconst 1, 1) := by decide +kernel
theorem dX7_isTaken_35 : decode cX7_isTaken 35 = .ok (.goto 4, 3) := by decide +kernel
theorem dX7_isTaken_38 : decode cX7_isTaken 38 = .ok (.iconst 0, 1) := by decide +kernel
theorem dX7_isTaken_39 : decode cX7_isTaken 39 = .ok (.ireturn, 1) := by decide +kernel
theorem dX7_macroNamed_0 : decode cX7_macroNamed 0 = .ok (.aload_n 0, 1) := by decide +kernel
theorem dX7_macroNamed_1 : decode cX7_macroNamed 1 = .ok (.getfield 30, 3) := by decide +kernel
theorem dX7_macroNamed_4 : decode cX7_macroNamed 4 = .ok (.iload_n 1, 1) := by decide +kernel
theorem dX7_macroNamed_5 : decode cX7_macroNamed 5 = .ok (.invokevirtual 142, 3) := by decide +kernel
theorem dX7_macroNamed_8 : decode cX7_macroNamed 8 = .ok (.istore_n 2, 1) := by decide +kernel
theorem dX7_macroNamed_9 : decode cX7_macroNamed 9 = .ok (.aload_n 0, 1) := by decide +kernel
theorem dX7_macroNamed_10 : decode cX7_macroNamed 10 = .ok (.getfield 30, 3) := by decide +kernel
theorem dX7_macroNamed_13 : decode cX7_macroNamed 13 = .ok (.iload_n 1, 1) := by decide +kernel
theorem dX7_macroNamed_14 : decode cX7_macroNamed 14 = .ok (.invokevirtual 145, 3) := by decide +kernel
theorem dX7_macroNamed_17 : decode cX7_macroNamed 17 = .ok (.iload_n 2, 1) := by decide +kernel
theorem dX7_macroNamed_18 : decode cX7_macroNamed 18 = .ok (.isub, 1) := by decide +kernel
theorem dX7_macroNamed_19 : decode cX7_macroNamed 19 = .ok (.istore_n 3, 1) := by decide +kernel
theorem dX7_macroNamed_20 : decode cX7_macroNamed 20 = .ok (.iconst 0, 1) := by decide +kernel
theorem dX7_macroNamed_21 : decode cX7_macroNamed 21 = .ok (.istore 4, 2) := by decide +kernel
theorem dX7_macroNamed_23 : decode cX7_macroNamed 23 = .ok (.iload 4, 2) := by decide +kernel
theorem dX7_macroNamed_25 : decode cX7_macroNamed 25 = .ok (.aload_n 0, 1) := by decide +kernel
theorem dX7_macroNamed_26 : decode cX7_macroNamed 26 = .ok (.getfield 44, 3) := by decide +kernel
theorem dX7_macroNamed_29 : decode cX7_macroNamed 29 = .ok (.invokevirtual 279, 3) := by decide +kernel
theorem dX7_macroNamed_32 : decode cX7_macroNamed 32 = .ok (.if_icmp .ge 59, 3) := by decide +kernel
theorem dX7_macroNamed_35 : decode cX7_macroNamed 35 = .ok (.aload_n 0, 1) := by decide +kernel
theorem dX7_macroNamed_36 : decode cX7_macroNamed 36 = .ok (.getfield 44, 3) := by decide +kernel
theorem dX7_macroNamed_39 : decode cX7_macroNamed 39 = .ok (.iload 4, 2) := by decide +kernel
theorem dX7_macroNamed_41 : decode cX7_macroNamed 41 = .ok (.invokevirtual 280, 3) := by decide +kernel
theorem dX7_macroNamed_44 : decode cX7_macroNamed 44 = .ok (.checkcast 244, 3) := by decide +kernel
theorem dX7_macroNamed_47 : decode cX7_macroNamed 47 = .ok (.astore 5, 2) := by decide +kernel
theorem dX7_macroNamed_49 : decode cX7_macroNamed 49 = .ok (.aload 5, 2) := by decide +kernel
theorem dX7_macroNamed_51 : decode cX7_macroNamed 51 = .ok (.getfield 284, 3) := by decide +kernel
theorem dX7_macroNamed_54 : decode cX7_macroNamed 54 = .ok (.iload_n 3, 1) := by decide +kernel
theorem dX7_macroNamed_55 : decode cX7_macroNamed 55 = .ok (.if_icmp .ne 30, 3) := by decide +kernel
theorem dX7_macroNamed_58 : decode cX7_macroNamed 58 = .ok (.aload_n 0, 1) := by decide +kernel
theorem dX7_macroNamed_59 : decode cX7_macroNamed 59 = .ok (.getfield 10, 3) := by decide +kernel
theorem dX7_macroNamed_62 : decode cX7_macroNamed 62 = .ok (.invokevirtual 168, 3) := by decide +kernel
theorem dX7_macroNamed_65 : decode cX7_macroNamed 65 = .ok (.aload 5, 2) := by decide +kernel
theorem dX7_macroNamed_67 : decode cX7_macroNamed 67 = .ok (.getfield 287, 3) := by decide +kernel
theorem dX7_macroNamed_70 : decode cX7_macroNamed 70 = .ok (.iload_n 3, 1) := by decide +kernel
theorem dX7_macroNamed_71 : decode cX7_macroNamed 71 = .ok (.aload_n 0, 1) := by decide +kernel
theorem dX7_macroNamed_72 : decode cX7_macroNamed 72 = .ok (.getfield 21, 3) := by decide +kernel
theorem dX7_macroNamed_75 : decode cX7_macroNamed 75 = .ok (.iload_n 2, 1) := by decide +kernel
theorem dX7_macroNamed_76 : decode cX7_macroNamed 76 = .ok (.invokevirtual 290, 3) := by decide +kernel
theorem dX7_macroNamed_79 : decode cX7_macroNamed 79 = .ok (.ifCond .eq 6, 3) := by decide +kernel
theorem dX7_macroNamed_82 : decode cX7_macroNamed 82 = .ok (.aload 5, 2) := by decide +kernel
theorem dX7_macroNamed_84 : decode cX7_macroNamed 84 = .ok (.areturn, 1) := by decide +kernel
theorem dX7_macroNamed_85 : decode cX7_macroNamed 85 = .ok (.iinc 4 1, 3) := by decide +kernel
theorem dX7_macroNamed_88 : decode cX7_macroNamed 88 = .ok (.goto (-65), 3) := by decide +kernel
theorem dX7_macroNamed_91 : decode cX7_macroNamed 91 = .ok (.aconst_null, 1) := by decide +kernel
theorem dX7_macroNamed_92 : decode cX7_macroNamed 92 = .ok (.areturn, 1) := by decide +kernel
theorem dX7_wordIn_0 : decode cX7_wordIn 0 = .ok (.iconst 1, 1) := by decide +kernel
theorem dX7_wordIn_1 : decode cX7_wordIn 1 = .ok (.istore_n 3, 1) := by decide +kernel
theorem dX7_wordIn_2 : decode cX7_wordIn 2 = .ok (.iload_n 3, 1) := by decide +kernel
theorem dX7_wordIn_3 : decode cX7_wordIn 3 = .ok (.bipush 7, 2) := by decide +kernel
theorem dX7_wordIn_5 : decode cX7_wordIn 5 = .ok (.if_icmp .gt 24, 3) := by decide +kernel
theorem dX7_wordIn_8 : decode cX7_wordIn 8 = .ok (.aload_n 0, 1) := by decide +kernel
theorem dX7_wordIn_9 : decode cX7_wordIn 9 = .ok (.iload_n 3, 1) := by decide +kernel
theorem dX7_wordIn_10 : decode cX7_wordIn 10 = .ok (.invokestatic 294, 3) := by decide +kernel
theorem dX7_wordIn_13 : decode cX7_wordIn 13 = .ok (.iload_n 1, 1) := by decide +kernel
theorem dX7_wordIn_14 : decode cX7_wordIn 14 = .ok (.iload_n 2, 1) := by decide +kernel
theorem dX7_wordIn_15 : decode cX7_wordIn 15 = .ok (.invokevirtual 298, 3) := by decide +kernel
theorem dX7_wordIn_18 : decode cX7_wordIn 18 = .ok (.ifCond .eq 5, 3) := by decide +kernel
theorem dX7_wordIn_21 : decode cX7_wordIn 21 = .ok (.iload_n 3, 1) := by decide +kernel
theorem dX7_wordIn_22 : decode cX7_wordIn 22 = .ok (.ireturn, 1) := by decide +kernel
theorem dX7_wordIn_23 : decode cX7_wordIn 23 = .ok (.iinc 3 1, 3) := by decide +kernel
theorem dX7_wordIn_26 : decode cX7_wordIn 26 = .ok (.goto (-24), 3) := by decide +kernel
theorem dX7_wordIn_29 : decode cX7_wordIn 29 = .ok (.iconst 0, 1) := by decide +kernel
theorem dX7_wordIn_30 : decode cX7_wordIn 30 = .ok (.ireturn, 1) := by decide +kernel
theorem dX7_spelling_0 : decode cX7_spelling 0 = .ok (.iload_n 0, 1) := by decide +kernel
theorem dX7_spelling_1 : decode cX7_spelling 1 = .ok (.tableswitch 63 1 6 #[39, 43, 47, 51, 55, 59], 39) := by decide +kernel
theorem dX7_spelling_40 : decode cX7_spelling 40 = .ok (.ldc_w 302, 3) := by decide +kernel
theorem dX7_spelling_43 : decode cX7_spelling 43 = .ok (.areturn, 1) := by decide +kernel
theorem dX7_spelling_44 : decode cX7_spelling 44 = .ok (.ldc_w 304, 3) := by decide +kernel
theorem dX7_spelling_47 : decode cX7_spelling 47 = .ok (.areturn, 1) := by decide +kernel
theorem dX7_spelling_48 : decode cX7_spelling 48 = .ok (.ldc_w 306, 3) := by decide +kernel
theorem dX7_spelling_51 : decode cX7_spelling 51 = .ok (.areturn, 1) := by decide +kernel
theorem dX7_spelling_52 : decode cX7_spelling 52 = .ok (.ldc_w 308, 3) := by decide +kernel
theorem dX7_spelling_55 : decode cX7_spelling 55 = .ok (.areturn, 1) := by decide +kernel
theorem dX7_spelling_56 : decode cX7_spelling 56 = .ok (.ldc_w 310, 3) := by decide +kernel
theorem dX7_spelling_59 : decode cX7_spelling 59 = .ok (.areturn, 1) := by decide +kernel
theorem dX7_spelling_60 : decode cX7_spelling 60 = .ok (.ldc_w 312, 3) := by decide +kernel
theorem dX7_spelling_63 : decode cX7_spelling 63 = .ok (.areturn, 1) := by decide +kernel
theorem dX7_spelling_64 : decode cX7_spelling 64 = .ok (.ldc_w 314, 3) := by decide +kernel
theorem dX7_spelling_67 : decode cX7_spelling 67 = .ok (.areturn, 1) := by decide +kernel
theorem dX7_endWord_0 : decode cX7_endWord 0 = .ok (.iload_n 0, 1) := by decide +kernel
theorem dX7_endWord_1 : decode cX7_endWord 1 = .ok (.lookupswitch 31 #[(1, 27), (4, 29)], 27) := by decide +kernel
theorem dX7_endWord_28 : decode cX7_endWord 28 = .ok (.iconst 3, 1) := by decide +kernel
theorem dX7_endWord_29 : decode cX7_endWord 29 = .ok (.ireturn, 1) := by decide +kernel
theorem dX7_endWord_30 : decode cX7_endWord 30 = .ok (.iconst 5, 1) := by decide +kernel
theorem dX7_endWord_31 : decode cX7_endWord 31 = .ok (.ireturn, 1) := by decide +kernel
theorem dX7_endWord_32 : decode cX7_endWord 32 = .ok (.bipush 7, 2) := by decide +kernel
theorem dX7_endWord_34 : decode cX7_endWord 34 = .ok (.ireturn, 1) := by decide +kernel
theorem dX7_isBlank_0 : decode cX7_isBlank 0 = .ok (.iload_n 0, 1) := by decide +kernel
theorem dX7_isBlank_1 : decode cX7_isBlank 1 = .ok (.bipush 9, 2) := by decide +kernel
theorem dX7_isBlank_3 : decode cX7_isBlank 3 = .ok (.if_icmp .eq 9, 3) := by decide +kernel
theorem dX7_isBlank_6 : decode cX7_isBlank 6 = .ok (.iload_n 0, 1) := by decide +kernel
theorem dX7_isBlank_7 : decode cX7_isBlank 7 = .ok (.bipush 32, 2) := by decide +kernel
theorem dX7_isBlank_9 : decode cX7_isBlank 9 = .ok (.if_icmp .ne 7, 3) := by decide +kernel
theorem dX7_isBlank_12 : decode cX7_isBlank 12 = .ok (.iconst 1, 1) := by decide +kernel
theorem dX7_isBlank_13 : decode cX7_isBlank 13 = .ok (.goto 4, 3) := by decide +kernel
theorem dX7_isBlank_16 : decode cX7_isBlank 16 = .ok (.iconst 0, 1) := by decide +kernel
theorem dX7_isBlank_17 : decode cX7_isBlank 17 = .ok (.ireturn, 1) := by decide +kernel
theorem dX7_isDigit_0 : decode cX7_isDigit 0 = .ok (.iload_n 0, 1) := by decide +kernel
theorem dX7_isDigit_1 : decode cX7_isDigit 1 = .ok (.bipush 48, 2) := by decide +kernel
theorem dX7_isDigit_3 : decode cX7_isDigit 3 = .ok (.if_icmp .lt 13, 3) := by decide +kernel
theorem dX7_isDigit_6 : decode cX7_isDigit 6 = .ok (.iload_n 0, 1) := by decide +kernel
theorem dX7_isDigit_7 : decode cX7_isDigit 7 = .ok (.bipush 57, 2) := by decide +kernel
theorem dX7_isDigit_9 : decode cX7_isDigit 9 = .ok (.if_icmp .gt 7, 3) := by decide +kernel
theorem dX7_isDigit_12 : decode cX7_isDigit 12 = .ok (.iconst 1, 1) := by decide +kernel
theorem dX7_isDigit_13 : decode cX7_isDigit 13 = .ok (.goto 4, 3) := by decide +kernel
theorem dX7_isDigit_16 : decode cX7_isDigit 16 = .ok (.iconst 0, 1) := by decide +kernel
theorem dX7_isDigit_17 : decode cX7_isDigit 17 = .ok (.ireturn, 1) := by decide +kernel
theorem dX7_isNameByte_0 : decode cX7_isNameByte 0 = .ok (.iload_n 0, 1) := by decide +kernel
theorem dX7_isNameByte_1 : decode cX7_isNameByte 1 = .ok (.bipush 97, 2) := by decide +kernel
theorem dX7_isNameByte_3 : decode cX7_isNameByte 3 = .ok (.if_icmp .lt 9, 3) := by decide +kernel
theorem dX7_isNameByte_6 : decode cX7_isNameByte 6 = .ok (.iload_n 0, 1) := by decide +kernel
theorem dX7_isNameByte_7 : decode cX7_isNameByte 7 = .ok (.bipush 122, 2) := by decide +kernel
theorem dX7_isNameByte_9 : decode cX7_isNameByte 9 = .ok (.if_icmp .le 34, 3) := by decide +kernel
theorem dX7_isNameByte_12 : decode cX7_isNameByte 12 = .ok (.iload_n 0, 1) := by decide +kernel
theorem dX7_isNameByte_13 : decode cX7_isNameByte 13 = .ok (.bipush 65, 2) := by decide +kernel
theorem dX7_isNameByte_15 : decode cX7_isNameByte 15 = .ok (.if_icmp .lt 9, 3) := by decide +kernel
theorem dX7_isNameByte_18 : decode cX7_isNameByte 18 = .ok (.iload_n 0, 1) := by decide +kernel
theorem dX7_isNameByte_19 : decode cX7_isNameByte 19 = .ok (.bipush 90, 2) := by decide +kernel
theorem dX7_isNameByte_21 : decode cX7_isNameByte 21 = .ok (.if_icmp .le 22, 3) := by decide +kernel
theorem dX7_isNameByte_24 : decode cX7_isNameByte 24 = .ok (.iload_n 0, 1) := by decide +kernel
theorem dX7_isNameByte_25 : decode cX7_isNameByte 25 = .ok (.invokestatic 316, 3) := by decide +kernel
theorem dX7_isNameByte_28 : decode cX7_isNameByte 28 = .ok (.ifCond .ne 15, 3) := by decide +kernel
theorem dX7_isNameByte_31 : decode cX7_isNameByte 31 = .ok (.iload_n 0, 1) := by decide +kernel
theorem dX7_isNameByte_32 : decode cX7_isNameByte 32 = .ok (.bipush 95, 2) := by decide +kernel
theorem dX7_isNameByte_34 : decode cX7_isNameByte 34 = .ok (.if_icmp .eq 9, 3) := by decide +kernel
theorem dX7_isNameByte_37 : decode cX7_isNameByte 37 = .ok (.iload_n 0, 1) := by decide +kernel
theorem dX7_isNameByte_38 : decode cX7_isNameByte 38 = .ok (.bipush 46, 2) := by decide +kernel
theorem dX7_isNameByte_40 : decode cX7_isNameByte 40 = .ok (.if_icmp .ne 7, 3) := by decide +kernel
theorem dX7_isNameByte_43 : decode cX7_isNameByte 43 = .ok (.iconst 1, 1) := by decide +kernel
theorem dX7_isNameByte_44 : decode cX7_isNameByte 44 = .ok (.goto 4, 3) := by decide +kernel
theorem dX7_isNameByte_47 : decode cX7_isNameByte 47 = .ok (.iconst 0, 1) := by decide +kernel
theorem dX7_isNameByte_48 : decode cX7_isNameByte 48 = .ok (.ireturn, 1) := by decide +kernel
theorem dX7_isPrintable_0 : decode cX7_isPrintable 0 = .ok (.iload_n 0, 1) := by decide +kernel
theorem dX7_isPrintable_1 : decode cX7_isPrintable 1 = .ok (.bipush 32, 2) := by decide +kernel
theorem dX7_isPrintable_3 : decode cX7_isPrintable 3 = .ok (.if_icmp .lt 13, 3) := by decide +kernel
theorem dX7_isPrintable_6 : decode cX7_isPrintable 6 = .ok (.iload_n 0, 1) := by decide +kernel
theorem dX7_isPrintable_7 : decode cX7_isPrintable 7 = .ok (.bipush 126, 2) := by decide +kernel
theorem dX7_isPrintable_9 : decode cX7_isPrintable 9 = .ok (.if_icmp .gt 7, 3) := by decide +kernel
theorem dX7_isPrintable_12 : decode cX7_isPrintable 12 = .ok (.iconst 1, 1) := by decide +kernel
theorem dX7_isPrintable_13 : decode cX7_isPrintable 13 = .ok (.goto 4, 3) := by decide +kernel
theorem dX7_isPrintable_16 : decode cX7_isPrintable 16 = .ok (.iconst 0, 1) := by decide +kernel
theorem dX7_isPrintable_17 : decode cX7_isPrintable 17 = .ok (.ireturn, 1) := by decide +kernel
theorem dX7_digitIn_0 : decode cX7_digitIn 0 = .ok (.iconst (-1), 1) := by decide +kernel
theorem dX7_digitIn_1 : decode cX7_digitIn 1 = .ok (.istore_n 2, 1) := by decide +kernel
theorem dX7_digitIn_2 : decode cX7_digitIn 2 = .ok (.iload_n 1, 1) := by decide +kernel
theorem dX7_digitIn_3 : decode cX7_digitIn 3 = .ok (.invokestatic 316, 3) := by decide +kernel
theorem dX7_digitIn_6 : decode cX7_digitIn 6 = .ok (.ifCond .eq 11, 3) := by decide +kernel
theorem dX7_digitIn_9 : decode cX7_digitIn 9 = .ok (.iload_n 1, 1) := by decide +kernel
theorem dX7_digitIn_10 : decode cX7_digitIn 10 = .ok (.bipush 48, 2) := by decide +kernel
theorem dX7_digitIn_12 : decode cX7_digitIn 12 = .ok (.isub, 1) := by decide +kernel
theorem dX7_digitIn_13 : decode cX7_digitIn 13 = .ok (.istore_n 2, 1) := by decide +kernel
theorem dX7_digitIn_14 : decode cX7_digitIn 14 = .ok (.goto 46, 3) := by decide +kernel
theorem dX7_digitIn_17 : decode cX7_digitIn 17 = .ok (.iload_n 1, 1) := by decide +kernel
theorem dX7_digitIn_18 : decode cX7_digitIn 18 = .ok (.bipush 97, 2) := by decide +kernel
theorem dX7_digitIn_20 : decode cX7_digitIn 20 = .ok (.if_icmp .lt 20, 3) := by decide +kernel
theorem dX7_digitIn_23 : decode cX7_digitIn 23 = .ok (.iload_n 1, 1) := by decide +kernel
theorem dX7_digitIn_24 : decode cX7_digitIn 24 = .ok (.bipush 102, 2) := by decide +kernel
theorem dX7_digitIn_26 : decode cX7_digitIn 26 = .ok (.if_icmp .gt 14, 3) := by decide +kernel
theorem dX7_digitIn_29 : decode cX7_digitIn 29 = .ok (.iload_n 1, 1) := by decide +kernel
theorem dX7_digitIn_30 : decode cX7_digitIn 30 = .ok (.bipush 97, 2) := by decide +kernel
theorem dX7_digitIn_32 : decode cX7_digitIn 32 = .ok (.isub, 1) := by decide +kernel
theorem dX7_digitIn_33 : decode cX7_digitIn 33 = .ok (.bipush 10, 2) := by decide +kernel
theorem dX7_digitIn_35 : decode cX7_digitIn 35 = .ok (.iadd, 1) := by decide +kernel
theorem dX7_digitIn_36 : decode cX7_digitIn 36 = .ok (.istore_n 2, 1) := by decide +kernel
theorem dX7_digitIn_37 : decode cX7_digitIn 37 = .ok (.goto 23, 3) := by decide +kernel
theorem dX7_digitIn_40 : decode cX7_digitIn 40 = .ok (.iload_n 1, 1) := by decide +kernel
theorem dX7_digitIn_41 : decode cX7_digitIn 41 = .ok (.bipush 65, 2) := by decide +kernel
theorem dX7_digitIn_43 : decode cX7_digitIn 43 = .ok (.if_icmp .lt 17, 3) := by decide +kernel
theorem dX7_digitIn_46 : decode cX7_digitIn 46 = .ok (.iload_n 1, 1) := by decide +kernel
theorem dX7_digitIn_47 : decode cX7_digitIn 47 = .ok (.bipush 70, 2) := by decide +kernel
theorem dX7_digitIn_49 : decode cX7_digitIn 49 = .ok (.if_icmp .gt 11, 3) := by decide +kernel
theorem dX7_digitIn_52 : decode cX7_digitIn 52 = .ok (.iload_n 1, 1) := by decide +kernel
theorem dX7_digitIn_53 : decode cX7_digitIn 53 = .ok (.bipush 65, 2) := by decide +kernel
theorem dX7_digitIn_55 : decode cX7_digitIn 55 = .ok (.isub, 1) := by decide +kernel
theorem dX7_digitIn_56 : decode cX7_digitIn 56 = .ok (.bipush 10, 2) := by decide +kernel
theorem dX7_digitIn_58 : decode cX7_digitIn 58 = .ok (.iadd, 1) := by decide +kernel
theorem dX7_digitIn_59 : decode cX7_digitIn 59 = .ok (.istore_n 2, 1) := by decide +kernel
theorem dX7_digitIn_60 : decode cX7_digitIn 60 = .ok (.iload_n 2, 1) := by decide +kernel
theorem dX7_digitIn_61 : decode cX7_digitIn 61 = .ok (.iload_n 0, 1) := by decide +kernel
theorem dX7_digitIn_62 : decode cX7_digitIn 62 = .ok (.if_icmp .ge 7, 3) := by decide +kernel
theorem dX7_digitIn_65 : decode cX7_digitIn 65 = .ok (.iload_n 2, 1) := by decide +kernel
theorem dX7_digitIn_66 : decode cX7_digitIn 66 = .ok (.goto 4, 3) := by decide +kernel
theorem dX7_digitIn_69 : decode cX7_digitIn 69 = .ok (.iconst (-1), 1) := by decide +kernel
theorem dX7_digitIn_70 : decode cX7_digitIn 70 = .ok (.ireturn, 1) := by decide +kernel
theorem dX8_init_0 : decode cX8_init 0 = .ok (.aload_n 0, 1) := by decide +kernel
theorem dX8_init_1 : decode cX8_init 1 = .ok (.invokespecial 1, 3) := by decide +kernel
theorem dX8_init_4 : decode cX8_init 4 = .ok (.aload_n 0, 1) := by decide +kernel
theorem dX8_init_5 : decode cX8_init 5 = .ok (.ldc 9, 2) := by decide +kernel
theorem dX8_init_7 : decode cX8_init 7 = .ok (.newarray .byte, 2) := by decide +kernel
theorem dX8_init_9 : decode cX8_init 9 = .ok (.putfield 10, 3) := by decide +kernel
theorem dX8_init_12 : decode cX8_init 12 = .ok (.aload_n 0, 1) := by decide +kernel
theorem dX8_init_13 : decode cX8_init 13 = .ok (.ldc 9, 2) := by decide +kernel
theorem dX8_init_15 : decode cX8_init 15 = .ok (.newarray .byte, 2) := by decide +kernel
theorem dX8_init_17 : decode cX8_init 17 = .ok (.putfield 14, 3) := by decide +kernel
theorem dX8_init_20 : decode cX8_init 20 = .ok (.aload_n 0, 1) := by decide +kernel
theorem dX8_init_21 : decode cX8_init 21 = .ok (.iconst 1, 1) := by decide +kernel
theorem dX8_init_22 : decode cX8_init 22 = .ok (.putfield 17, 3) := by decide +kernel
theorem dX8_init_25 : decode cX8_init 25 = .ok (.aload_n 0, 1) := by decide +kernel
theorem dX8_init_26 : decode cX8_init 26 = .ok (.sipush 1100, 3) := by decide +kernel
theorem dX8_init_29 : decode cX8_init 29 = .ok (.newarray .byte, 2) := by decide +kernel
theorem dX8_init_31 : decode cX8_init 31 = .ok (.putfield 21, 3) := by decide +kernel
theorem dX8_init_34 : decode cX8_init 34 = .ok (.aload_n 0, 1) := by decide +kernel
theorem dX8_init_35 : decode cX8_init 35 = .ok (.bipush 24, 2) := by decide +kernel
theorem dX8_init_37 : decode cX8_init 37 = .ok (.newarray .int, 2) := by decide +kernel
theorem dX8_init_39 : decode cX8_init 39 = .ok (.putfield 24, 3) := by decide +kernel
theorem dX8_init_42 : decode cX8_init 42 = .ok (.aload_n 0, 1) := by decide +kernel
theorem dX8_init_43 : decode cX8_init 43 = .ok (.bipush 24, 2) := by decide +kernel
theorem dX8_init_45 : decode cX8_init 45 = .ok (.newarray .int, 2) := by decide +kernel
theorem dX8_init_47 : decode cX8_init 47 = .ok (.putfield 28, 3) := by decide +kernel
theorem dX8_init_50 : decode cX8_init 50 = .ok (.aload_n 0, 1) := by decide +kernel
theorem dX8_init_51 : decode cX8_init 51 = .ok (.bipush 24, 2) := by decide +kernel
theorem dX8_init_53 : decode cX8_init 53 = .ok (.newarray .int, 2) := by decide +kernel
theorem dX8_init_55 : decode cX8_init 55 = .ok (.putfield 31, 3) := by decide +kernel
theorem dX8_init_58 : decode cX8_init 58 = .ok (.aload_n 0, 1) := by decide +kernel
theorem dX8_init_59 : decode cX8_init 59 = .ok (.bipush 24, 2) := by decide +kernel
theorem dX8_init_61 : decode cX8_init 61 = .ok (.newarray .int, 2) := by decide +kernel
theorem dX8_init_63 : decode cX8_init 63 = .ok (.putfield 34, 3) := by decide +kernel
theorem dX8_init_66 : decode cX8_init 66 = .ok (.aload_n 0, 1) := by decide +kernel
theorem dX8_init_67 : decode cX8_init 67 = .ok (.bipush 24, 2) := by decide +kernel
theorem dX8_init_69 : decode cX8_init 69 = .ok (.newarray .int, 2) := by decide +kernel
theorem dX8_init_71 : decode cX8_init 71 = .ok (.putfield 37, 3) := by decide +kernel
theorem dX8_init_74 : decode cX8_init 74 = .ok (.aload_n 0, 1) := by decide +kernel
theorem dX8_init_75 : decode cX8_init 75 = .ok (.bipush 24, 2) := by decide +kernel
theorem dX8_init_77 : decode cX8_init 77 = .ok (.newarray .int, 2) := by decide +kernel
theorem dX8_init_79 : decode cX8_init 79 = .ok (.putfield 40, 3) := by decide +kernel
theorem dX8_init_82 : decode cX8_init 82 = .ok (.aload_n 0, 1) := by decide +kernel
theorem dX8_init_83 : decode cX8_init 83 = .ok (.bipush 24, 2) := by decide +kernel
theorem dX8_init_85 : decode cX8_init 85 = .ok (.newarray .int, 2) := by decide +kernel
theorem dX8_init_87 : decode cX8_init 87 = .ok (.putfield 43, 3) := by decide +kernel
theorem dX8_init_90 : decode cX8_init 90 = .ok (.aload_n 0, 1) := by decide +kernel
theorem dX8_init_91 : decode cX8_init 91 = .ok (.bipush 24, 2) := by decide +kernel
theorem dX8_init_93 : decode cX8_init 93 = .ok (.newarray .int, 2) := by decide +kernel
theorem dX8_init_95 : decode cX8_init 95 = .ok (.putfield 46, 3) := by decide +kernel
theorem dX8_init_98 : decode cX8_init 98 = .ok (.aload_n 0, 1) := by decide +kernel
theorem dX8_init_99 : decode cX8_init 99 = .ok (.bipush 24, 2) := by decide +kernel
theorem dX8_init_101 : decode cX8_init 101 = .ok (.newarray .int, 2) := by decide +kernel
theorem dX8_init_103 : decode cX8_init 103 = .ok (.putfield 49, 3) := by decide +kernel
theorem dX8_init_106 : decode cX8_init 106 = .ok (.aload_n 0, 1) := by decide +kernel
theorem dX8_init_107 : decode cX8_init 107 = .ok (.bipush 24, 2) := by decide +kernel
theorem dX8_init_109 : decode cX8_init 109 = .ok (.newarray .boolean, 2) := by decide +kernel
theorem dX8_init_111 : decode cX8_init 111 = .ok (.putfield 52, 3) := by decide +kernel
theorem dX8_init_114 : decode cX8_init 114 = .ok (.aload_n 0, 1) := by decide +kernel
theorem dX8_init_115 : decode cX8_init 115 = .ok (.bipush 24, 2) := by decide +kernel
theorem dX8_init_117 : decode cX8_init 117 = .ok (.sipush 1100, 3) := by decide +kernel
theorem dX8_init_120 : decode cX8_init 120 = .ok (.multianewarray 56 2, 4) := by decide +kernel
theorem dX8_init_124 : decode cX8_init 124 = .ok (.putfield 58, 3) := by decide +kernel
theorem dX8_init_127 : decode cX8_init 127 = .ok (.aload_n 0, 1) := by decide +kernel
theorem dX8_init_128 : decode cX8_init 128 = .ok (.bipush 24, 2) := by decide +kernel
theorem dX8_init_130 : decode cX8_init 130 = .ok (.sipush 2100, 3) := by decide +kernel
theorem dX8_init_133 : decode cX8_init 133 = .ok (.multianewarray 61 2, 4) := by decide +kernel
theorem dX8_init_137 : decode cX8_init 137 = .ok (.putfield 63, 3) := by decide +kernel
theorem dX8_init_140 : decode cX8_init 140 = .ok (.aload_n 0, 1) := by decide +kernel
theorem dX8_init_141 : decode cX8_init 141 = .ok (.bipush 24, 2) := by decide +kernel
theorem dX8_init_143 : decode cX8_init 143 = .ok (.newarray .int, 2) := by decide +kernel
theorem dX8_init_145 : decode cX8_init 145 = .ok (.putfield 66, 3) := by decide +kernel
theorem dX8_init_148 : decode cX8_init 148 = .ok (.aload_n 0, 1) := by decide +kernel
theorem dX8_init_149 : decode cX8_init 149 = .ok (.sipush 6600, 3) := by decide +kernel
theorem dX8_init_152 : decode cX8_init 152 = .ok (.newarray .int, 2) := by decide +kernel
theorem dX8_init_154 : decode cX8_init 154 = .ok (.putfield 69, 3) := by decide +kernel
theorem dX8_init_157 : decode cX8_init 157 = .ok (.aload_n 0, 1) := by decide +kernel
theorem dX8_init_158 : decode cX8_init 158 = .ok (.sipush 6600, 3) := by decide +kernel
theorem dX8_init_161 : decode cX8_init 161 = .ok (.newarray .int, 2) := by decide +kernel
theorem dX8_init_163 : decode cX8_init 163 = .ok (.putfield 72, 3) := by decide +kernel
theorem dX8_init_166 : decode cX8_init 166 = .ok (.aload_n 0, 1) := by decide +kernel
theorem dX8_init_167 : decode cX8_init 167 = .ok (.sipush 6600, 3) := by decide +kernel
theorem dX8_init_170 : decode cX8_init 170 = .ok (.newarray .int, 2) := by decide +kernel
theorem dX8_init_172 : decode cX8_init 172 = .ok (.putfield 75, 3) := by decide +kernel
theorem dX8_init_175 : decode cX8_init 175 = .ok (.aload_n 0, 1) := by decide +kernel
theorem dX8_init_176 : decode cX8_init 176 = .ok (.sipush 6600, 3) := by decide +kernel
theorem dX8_init_179 : decode cX8_init 179 = .ok (.newarray .int, 2) := by decide +kernel
theorem dX8_init_181 : decode cX8_init 181 = .ok (.putfield 78, 3) := by decide +kernel
theorem dX8_init_184 : decode cX8_init 184 = .ok (.aload_n 0, 1) := by decide +kernel
theorem dX8_init_185 : decode cX8_init 185 = .ok (.sipush 6600, 3) := by decide +kernel
theorem dX8_init_188 : decode cX8_init 188 = .ok (.newarray .int, 2) := by decide +kernel
theorem dX8_init_190 : decode cX8_init 190 = .ok (.putfield 81, 3) := by decide +kernel
theorem dX8_init_193 : decode cX8_init 193 = .ok (.aload_n 0, 1) := by decide +kernel
theorem dX8_init_194 : decode cX8_init 194 = .ok (.sipush 6600, 3) := by decide +kernel
theorem dX8_init_197 : decode cX8_init 197 = .ok (.newarray .int, 2) := by decide +kernel
theorem dX8_init_199 : decode cX8_init 199 = .ok (.putfield 84, 3) := by decide +kernel
theorem dX8_init_202 : decode cX8_init 202 = .ok (.aload_n 0, 1) := by decide +kernel
theorem dX8_init_203 : decode cX8_init 203 = .ok (.sipush 6600, 3) := by decide +kernel
theorem dX8_init_206 : decode cX8_init 206 = .ok (.newarray .int, 2) := by decide +kernel
theorem dX8_init_208 : decode cX8_init 208 = .ok (.putfield 87, 3) := by decide +kernel
theorem dX8_init_211 : decode cX8_init 211 = .ok (.aload_n 0, 1) := by decide +kernel
theorem dX8_init_212 : decode cX8_init 212 = .ok (.sipush 1110, 3) := by decide +kernel
theorem dX8_init_215 : decode cX8_init 215 = .ok (.newarray .int, 2) := by decide +kernel
theorem dX8_init_217 : decode cX8_init 217 = .ok (.putfield 90, 3) := by decide +kernel
theorem dX8_init_220 : decode cX8_init 220 = .ok (.aload_n 0, 1) := by decide +kernel
theorem dX8_init_221 : decode cX8_init 221 = .ok (.sipush 1110, 3) := by decide +kernel
theorem dX8_init_224 : decode cX8_init 224 = .ok (.newarray .int, 2) := by decide +kernel
theorem dX8_init_226 : decode cX8_init 226 = .ok (.putfield 93, 3) := by decide +kernel
theorem dX8_init_229 : decode cX8_init 229 = .ok (.aload_n 0, 1) := by decide +kernel
theorem dX8_init_230 : decode cX8_init 230 = .ok (.sipush 1110, 3) := by decide +kernel
theorem dX8_init_233 : decode cX8_init 233 = .ok (.newarray .int, 2) := by decide +kernel
theorem dX8_init_235 : decode cX8_init 235 = .ok (.putfield 96, 3) := by decide +kernel
theorem dX8_init_238 : decode cX8_init 238 = .ok (.aload_n 0, 1) := by decide +kernel
theorem dX8_init_239 : decode cX8_init 239 = .ok (.sipush 1110, 3) := by decide +kernel
theorem dX8_init_242 : decode cX8_init 242 = .ok (.newarray .long, 2) := by decide +kernel
theorem dX8_init_244 : decode cX8_init 244 = .ok (.putfield 99, 3) := by decide +kernel
theorem dX8_init_247 : decode cX8_init 247 = .ok (.return_, 1) := by decide +kernel
theorem dX8_thrown_0 : decode cX8_thrown 0 = .ok (.aload_n 0, 1) := by decide +kernel
theorem dX8_thrown_1 : decode cX8_thrown 1 = .ok (.getfield 103, 3) := by decide +kernel
theorem dX8_thrown_4 : decode cX8_thrown 4 = .ok (.ireturn, 1) := by decide +kernel
theorem dX8_type_0 : decode cX8_type 0 = .ok (.aload_n 0, 1) := by decide +kernel
theorem dX8_type_1 : decode cX8_type 1 = .ok (.iconst 0, 1) := by decide +kernel
theorem dX8_type_2 : decode cX8_type 2 = .ok (.putfield 103, 3) := by decide +kernel
theorem dX8_type_5 : decode cX8_type 5 = .ok (.iload_n 3, 1) := by decide +kernel
theorem dX8_type_6 : decode cX8_type 6 = .ok (.iconst 1, 1) := by decide +kernel
theorem dX8_type_7 : decode cX8_type 7 = .ok (.if_icmp .lt 20, 3) := by decide +kernel
theorem dX8_type_10 : decode cX8_type 10 = .ok (.iload_n 3, 1) := by decide +kernel
theorem dX8_type_11 : decode cX8_type 11 = .ok (.bipush 8, 2) := by decide +kernel
theorem dX8_type_13 : decode cX8_type 13 = .ok (.if_icmp .gt 14, 3) := by decide +kernel
theorem dX8_type_16 : decode cX8_type 16 = .ok (.aload_n 0, 1) := by decide +kernel
theorem dX8_type_17 : decode cX8_type 17 = .ok (.getfield 107, 3) := by decide +kernel
theorem dX8_type_20 : decode cX8_type 20 = .ok (.iload_n 3, 1) := by decide +kernel
theorem dX8_type_21 : decode cX8_type 21 = .ok (.iadd, 1) := by decide +kernel
theorem dX8_type_22 : decode cX8_type 22 = .ok (.ldc 9, 2) := by decide +kernel
theorem dX8_type_24 : decode cX8_type 24 = .ok (.if_icmp .le 5, 3) := by decide +kernel
theorem dX8_type_27 : decode cX8_type 27 = .ok (.iconst 0, 1) := by decide +kernel
theorem dX8_type_28 : decode cX8_type 28 = .ok (.ireturn, 1) := by decide +kernel
theorem dX8_type_29 : decode cX8_type 29 = .ok (.iload_n 3, 1) := by decide +kernel
theorem dX8_type_30 : decode cX8_type 30 = .ok (.iconst 1, 1) := by decide +kernel
theorem dX8_type_31 : decode cX8_type 31 = .ok (.isub, 1) := by decide +kernel
theorem dX8_type_32 : decode cX8_type 32 = .ok (.istore 4, 2) := by decide +kernel
theorem dX8_type_34 : decode cX8_type 34 = .ok (.iload 4, 2) := by decide +kernel
theorem dX8_type_36 : decode cX8_type 36 = .ok (.ifCond .lt 37, 3) := by decide +kernel
theorem dX8_type_39 : decode cX8_type 39 = .ok (.aload_n 0, 1) := by decide +kernel
theorem dX8_type_40 : decode cX8_type 40 = .ok (.getfield 10, 3) := by decide +kernel
theorem dX8_type_43 : decode cX8_type 43 = .ok (.aload_n 0, 1) := by decide +kernel
theorem dX8_type_44 : decode cX8_type 44 = .ok (.getfield 107, 3) := by decide +kernel
theorem dX8_type_47 : decode cX8_type 47 = .ok (.lload_n 1, 1) := by decide +kernel
theorem dX8_type_48 : decode cX8_type 48 = .ok (.bipush 8, 2) := by decide +kernel
theorem dX8_type_50 : decode cX8_type 50 = .ok (.iload 4, 2) := by decide +kernel
theorem dX8_type_52 : decode cX8_type 52 = .ok (.imul, 1) := by decide +kernel
theorem dX8_type_53 : decode cX8_type 53 = .ok (.lshr, 1) := by decide +kernel
theorem dX8_type_54 : decode cX8_type 54 = .ok (.l2i, 1) := by decide +kernel
theorem dX8_type_55 : decode cX8_type 55 = .ok (.i2b, 1) := by decide +kernel
theorem dX8_type_56 : decode cX8_type 56 = .ok (.bastore, 1) := by decide +kernel
theorem dX8_type_57 : decode cX8_type 57 = .ok (.aload_n 0, 1) := by decide +kernel
theorem dX8_type_58 : decode cX8_type 58 = .ok (.dup, 1) := by decide +kernel
theorem dX8_type_59 : decode cX8_type 59 = .ok (.getfield 107, 3) := by decide +kernel
theorem dX8_type_62 : decode cX8_type 62 = .ok (.iconst 1, 1) := by decide +kernel
theorem dX8_type_63 : decode cX8_type 63 = .ok (.iadd, 1) := by decide +kernel
theorem dX8_type_64 : decode cX8_type 64 = .ok (.putfield 107, 3) := by decide +kernel
theorem dX8_type_67 : decode cX8_type 67 = .ok (.iinc 4 (-1), 3) := by decide +kernel
theorem dX8_type_70 : decode cX8_type 70 = .ok (.goto (-36), 3) := by decide +kernel
theorem dX8_type_73 : decode cX8_type 73 = .ok (.iconst 1, 1) := by decide +kernel
theorem dX8_type_74 : decode cX8_type 74 = .ok (.ireturn, 1) := by decide +kernel
theorem dX8_isLetter_0 : decode cX8_isLetter 0 = .ok (.iload_n 0, 1) := by decide +kernel
theorem dX8_isLetter_1 : decode cX8_isLetter 1 = .ok (.bipush 97, 2) := by decide +kernel
theorem dX8_isLetter_3 : decode cX8_isLetter 3 = .ok (.if_icmp .lt 9, 3) := by decide +kernel
theorem dX8_isLetter_6 : decode cX8_isLetter 6 = .ok (.iload_n 0, 1) := by decide +kernel
theorem dX8_isLetter_7 : decode cX8_isLetter 7 = .ok (.bipush 122, 2) := by decide +kernel
theorem dX8_isLetter_9 : decode cX8_isLetter 9 = .ok (.if_icmp .le 27, 3) := by decide +kernel
theorem dX8_isLetter_12 : decode cX8_isLetter 12 = .ok (.iload_n 0, 1) := by decide +kernel
theorem dX8_isLetter_13 : decode cX8_isLetter 13 = .ok (.bipush 65, 2) := by decide +kernel
theorem dX8_isLetter_15 : decode cX8_isLetter 15 = .ok (.if_icmp .lt 9, 3) := by decide +kernel
theorem dX8_isLetter_18 : decode cX8_isLetter 18 = .ok (.iload_n 0, 1) := by decide +kernel
theorem dX8_isLetter_19 : decode cX8_isLetter 19 = .ok (.bipush 90, 2) := by decide +kernel
theorem dX8_isLetter_21 : decode cX8_isLetter 21 = .ok (.if_icmp .le 15, 3) := by decide +kernel
theorem dX8_isLetter_24 : decode cX8_isLetter 24 = .ok (.iload_n 0, 1) := by decide +kernel
theorem dX8_isLetter_25 : decode cX8_isLetter 25 = .ok (.bipush 95, 2) := by decide +kernel
theorem dX8_isLetter_27 : decode cX8_isLetter 27 = .ok (.if_icmp .eq 9, 3) := by decide +kernel
theorem dX8_isLetter_30 : decode cX8_isLetter 30 = .ok (.iload_n 0, 1) := by decide +kernel
theorem dX8_isLetter_31 : decode cX8_isLetter 31 = .ok (.bipush 46, 2) := by decide +kernel
theorem dX8_isLetter_33 : decode cX8_isLetter 33 = .ok (.if_icmp .ne 7, 3) := by decide +kernel
theorem dX8_isLetter_36 : decode cX8_isLetter 36 = .ok (.iconst 1, 1) := by decide +kernel
theorem dX8_isLetter_37 : decode cX8_isLetter 37 = .ok (.goto 4, 3) := by decide +kernel
theorem dX8_isLetter_40 : decode cX8_isLetter 40 = .ok (.iconst 0, 1) := by decide +kernel
theorem dX8_isLetter_41 : decode cX8_isLetter 41 = .ok (.ireturn, 1) := by decide +kernel
theorem dX8_isDigit_0 : decode cX8_isDigit 0 = .ok (.iload_n 0, 1) := by decide +kernel
theorem dX8_isDigit_1 : decode cX8_isDigit 1 = .ok (.bipush 48, 2) := by decide +kernel
theorem dX8_isDigit_3 : decode cX8_isDigit 3 = .ok (.if_icmp .lt 13, 3) := by decide +kernel
theorem dX8_isDigit_6 : decode cX8_isDigit 6 = .ok (.iload_n 0, 1) := by decide +kernel
theorem dX8_isDigit_7 : decode cX8_isDigit 7 = .ok (.bipush 57, 2) := by decide +kernel
theorem dX8_isDigit_9 : decode cX8_isDigit 9 = .ok (.if_icmp .gt 7, 3) := by decide +kernel
theorem dX8_isDigit_12 : decode cX8_isDigit 12 = .ok (.iconst 1, 1) := by decide +kernel
theorem dX8_isDigit_13 : decode cX8_isDigit 13 = .ok (.goto 4, 3) := by decide +kernel
theorem dX8_isDigit_16 : decode cX8_isDigit 16 = .ok (.iconst 0, 1) := by decide +kernel
theorem dX8_isDigit_17 : decode cX8_isDigit 17 = .ok (.ireturn, 1) := by decide +kernel
theorem dX8_isNamed_0 : decode cX8_isNamed 0 = .ok (.iload_n 0, 1) := by decide +kernel
theorem dX8_isNamed_1 : decode cX8_isNamed 1 = .ok (.invokestatic 110, 3) := by decide +kernel
theorem dX8_isNamed_4 : decode cX8_isNamed 4 = .ok (.ifCond .ne 10, 3) := by decide +kernel
theorem dX8_isNamed_7 : decode cX8_isNamed 7 = .ok (.iload_n 0, 1) := by decide +kernel
theorem dX8_isNamed_8 : decode cX8_isNamed 8 = .ok (.invokestatic 114, 3) := by decide +kernel
theorem dX8_isNamed_11 : decode cX8_isNamed 11 = .ok (.ifCond .eq 7, 3) := by decide +kernel
theorem dX8_isNamed_14 : decode cX8_isNamed 14 = .ok (.iconst 1, 1) := by decide +kernel
theorem dX8_isNamed_15 : decode cX8_isNamed 15 = .ok (.goto 4, 3) := by decide +kernel
theorem dX8_isNamed_18 : decode cX8_isNamed 18 = .ok (.iconst 0, 1) := by decide +kernel
theorem dX8_isNamed_19 : decode cX8_isNamed 19 = .ok (.ireturn, 1) := by decide +kernel
theorem dX8_digitOf_0 : decode cX8_digitOf 0 = .ok (.iload_n 0, 1) := by decide +kernel
theorem dX8_digitOf_1 : decode cX8_digitOf 1 = .ok (.invokestatic 114, 3) := by decide +kernel
theorem dX8_digitOf_4 : decode cX8_digitOf 4 = .ok (.ifCond .eq 10, 3) := by decide +kernel
theorem dX8_digitOf_7 : decode cX8_digitOf 7 = .ok (.iload_n 0, 1) := by decide +kernel
theorem dX8_digitOf_8 : decode cX8_digitOf 8 = .ok (.bipush 48, 2) := by decide +kernel
theorem dX8_digitOf_10 : decode cX8_digitOf 10 = .ok (.isub, 1) := by decide +kernel
theorem dX8_digitOf_11 : decode cX8_digitOf 11 = .ok (.goto 49, 3) := by decide +kernel
theorem dX8_digitOf_14 : decode cX8_digitOf 14 = .ok (.iload_n 0, 1) := by decide +kernel
theorem dX8_digitOf_15 : decode cX8_digitOf 15 = .ok (.bipush 97, 2) := by decide +kernel
theorem dX8_digitOf_17 : decode cX8_digitOf 17 = .ok (.if_icmp .lt 19, 3) := by decide +kernel
theorem dX8_digitOf_20 : decode cX8_digitOf 20 = .ok (.iload_n 0, 1) := by decide +kernel
theorem dX8_digitOf_21 : decode cX8_digitOf 21 = .ok (.bipush 102, 2) := by decide +kernel
theorem dX8_digitOf_23 : decode cX8_digitOf 23 = .ok (.if_icmp .gt 13, 3) := by decide +kernel
theorem dX8_digitOf_26 : decode cX8_digitOf 26 = .ok (.iload_n 0, 1) := by decide +kernel
theorem dX8_digitOf_27 : decode cX8_digitOf 27 = .ok (.bipush 97, 2) := by decide +kernel
theorem dX8_digitOf_29 : decode cX8_digitOf 29 = .ok (.isub, 1) := by decide +kernel
theorem dX8_digitOf_30 : decode cX8_digitOf 30 = .ok (.bipush 10, 2) := by decide +kernel
theorem dX8_digitOf_32 : decode cX8_digitOf 32 = .ok (.iadd, 1) := by decide +kernel
theorem dX8_digitOf_33 : decode cX8_digitOf 33 = .ok (.goto 27, 3) := by decide +kernel
theorem dX8_digitOf_36 : decode cX8_digitOf 36 = .ok (.iload_n 0, 1) := by decide +kernel
theorem dX8_digitOf_37 : decode cX8_digitOf 37 = .ok (.bipush 65, 2) := by decide +kernel
theorem dX8_digitOf_39 : decode cX8_digitOf 39 = .ok (.if_icmp .lt 19, 3) := by decide +kernel
theorem dX8_digitOf_42 : decode cX8_digitOf 42 = .ok (.iload_n 0, 1) := by decide +kernel
theorem dX8_digitOf_43 : decode cX8_digitOf 43 = .ok (.bipush 70, 2) := by decide +kernel
theorem dX8_digitOf_45 : decode cX8_digitOf 45 = .ok (.if_icmp .gt 13, 3) := by decide +kernel
theorem dX8_digitOf_48 : decode cX8_digitOf 48 = .ok (.iload_n 0, 1) := by decide +kernel
theorem dX8_digitOf_49 : decode cX8_digitOf 49 = .ok (.bipush 65, 2) := by decide +kernel
theorem dX8_digitOf_51 : decode cX8_digitOf 51 = .ok (.isub, 1) := by decide +kernel
theorem dX8_digitOf_52 : decode cX8_digitOf 52 = .ok (.bipush 10, 2) := by decide +kernel
theorem dX8_digitOf_54 : decode cX8_digitOf 54 = .ok (.iadd, 1) := by decide +kernel
theorem dX8_digitOf_55 : decode cX8_digitOf 55 = .ok (.goto 5, 3) := by decide +kernel
theorem dX8_digitOf_58 : decode cX8_digitOf 58 = .ok (.bipush 99, 2) := by decide +kernel
theorem dX8_digitOf_60 : decode cX8_digitOf 60 = .ok (.ireturn, 1) := by decide +kernel
theorem dX8_packed_0 : decode cX8_packed 0 = .ok (.lconst 0, 1) := by decide +kernel
theorem dX8_packed_1 : decode cX8_packed 1 = .ok (.lstore_n 3, 1) := by decide +kernel
theorem dX8_packed_2 : decode cX8_packed 2 = .ok (.iconst 0, 1) := by decide +kernel
theorem dX8_packed_3 : decode cX8_packed 3 = .ok (.istore 5, 2) := by decide +kernel
theorem dX8_packed_5 : decode cX8_packed 5 = .ok (.iload_n 1, 1) := by decide +kernel
theorem dX8_packed_6 : decode cX8_packed 6 = .ok (.istore 6, 2) := by decide +kernel
theorem dX8_packed_8 : decode cX8_packed 8 = .ok (.iload 6, 2) := by decide +kernel
theorem dX8_packed_10 : decode cX8_packed 10 = .ok (.iload_n 2, 1) := by decide +kernel
theorem dX8_packed_11 : decode cX8_packed 11 = .ok (.if_icmp .ge 50, 3) := by decide +kernel
theorem dX8_packed_14 : decode cX8_packed 14 = .ok (.aload_n 0, 1) := by decide +kernel
theorem dX8_packed_15 : decode cX8_packed 15 = .ok (.iload 6, 2) := by decide +kernel
theorem dX8_packed_17 : decode cX8_packed 17 = .ok (.baload, 1) := by decide +kernel
theorem dX8_packed_18 : decode cX8_packed 18 = .ok (.invokestatic 117, 3) := by decide +kernel
theorem dX8_packed_21 : decode cX8_packed 21 = .ok (.ifCond .eq 40, 3) := by decide +kernel
theorem dX8_packed_24 : decode cX8_packed 24 = .ok (.iload 5, 2) := by decide +kernel
theorem dX8_packed_26 : decode cX8_packed 26 = .ok (.ifCond .ne 15, 3) := by decide +kernel
theorem dX8_packed_29 : decode cX8_packed 29 = .ok (.aload_n 0, 1) := by decide +kernel
theorem dX8_packed_30 : decode cX8_packed 30 = .ok (.iload 6, 2) := by decide +kernel
theorem dX8_packed_32 : decode cX8_packed 32 = .ok (.baload, 1) := by decide +kernel
theorem dX8_packed_33 : decode cX8_packed 33 = .ok (.invokestatic 114, 3) := by decide +kernel
theorem dX8_packed_36 : decode cX8_packed 36 = .ok (.ifCond .eq 5, 3) := by decide +kernel
theorem dX8_packed_39 : decode cX8_packed 39 = .ok (.lconst 0, 1) := by decide +kernel
theorem dX8_packed_40 : decode cX8_packed 40 = .ok (.lreturn, 1) := by decide +kernel
theorem dX8_packed_41 : decode cX8_packed 41 = .ok (.lload_n 3, 1) := by decide +kernel
theorem dX8_packed_42 : decode cX8_packed 42 = .ok (.bipush 8, 2) := by decide +kernel
theorem dX8_packed_44 : decode cX8_packed 44 = .ok (.lshl, 1) := by decide +kernel
theorem dX8_packed_45 : decode cX8_packed 45 = .ok (.aload_n 0, 1) := by decide +kernel
theorem dX8_packed_46 : decode cX8_packed 46 = .ok (.iload 6, 2) := by decide +kernel
theorem dX8_packed_48 : decode cX8_packed 48 = .ok (.baload, 1) := by decide +kernel
theorem dX8_packed_49 : decode cX8_packed 49 = .ok (.i2l, 1) := by decide +kernel
theorem dX8_packed_50 : decode cX8_packed 50 = .ok (.lor, 1) := by decide +kernel
theorem dX8_packed_51 : decode cX8_packed 51 = .ok (.lstore_n 3, 1) := by decide +kernel
theorem dX8_packed_52 : decode cX8_packed 52 = .ok (.iinc 5 1, 3) := by decide +kernel
theorem dX8_packed_55 : decode cX8_packed 55 = .ok (.iinc 6 1, 3) := by decide +kernel
theorem dX8_packed_58 : decode cX8_packed 58 = .ok (.goto (-50), 3) := by decide +kernel
theorem dX8_packed_61 : decode cX8_packed 61 = .ok (.iload 5, 2) := by decide +kernel
theorem dX8_packed_63 : decode cX8_packed 63 = .ok (.bipush 8, 2) := by decide +kernel
theorem dX8_packed_65 : decode cX8_packed 65 = .ok (.if_icmp .le 9, 3) := by decide +kernel
theorem dX8_packed_68 : decode cX8_packed 68 = .ok (.ldc2_w 120, 3) := by decide +kernel
theorem dX8_packed_71 : decode cX8_packed 71 = .ok (.goto 4, 3) := by decide +kernel
theorem dX8_packed_74 : decode cX8_packed 74 = .ok (.lload_n 3, 1) := by decide +kernel
theorem dX8_packed_75 : decode cX8_packed 75 = .ok (.lreturn, 1) := by decide +kernel
theorem dX8_wordOf_0 : decode cX8_wordOf 0 = .ok (.lload_n 0, 1) := by decide +kernel
theorem dX8_wordOf_1 : decode cX8_wordOf 1 = .ok (.ldc2_w 122, 3) := by decide +kernel
theorem dX8_wordOf_4 : decode cX8_wordOf 4 = .ok (.lcmp, 1) := by decide +kernel
theorem dX8_wordOf_5 : decode cX8_wordOf 5 = .ok (.ifCond .ne 7, 3) := by decide +kernel
theorem dX8_wordOf_8 : decode cX8_wordOf 8 = .ok (.iconst 1, 1) := by decide +kernel
theorem dX8_wordOf_9 : decode cX8_wordOf 9 = .ok (.goto 78, 3) := by decide +kernel
theorem dX8_wordOf_12 : decode cX8_wordOf 12 = .ok (.lload_n 0, 1) := by decide +kernel
theorem dX8_wordOf_13 : decode cX8_wordOf 13 = .ok (.ldc2_w 124, 3) := by decide +kernel
theorem dX8_wordOf_16 : decode cX8_wordOf 16 = .ok (.lcmp, 1) := by decide +kernel
theorem dX8_wordOf_17 : decode cX8_wordOf 17 = .ok (.ifCond .ne 7, 3) := by decide +kernel
theorem dX8_wordOf_20 : decode cX8_wordOf 20 = .ok (.iconst 2, 1) := by decide +kernel
theorem dX8_wordOf_21 : decode cX8_wordOf 21 = .ok (.goto 66, 3) := by decide +kernel
theorem dX8_wordOf_24 : decode cX8_wordOf 24 = .ok (.lload_n 0, 1) := by decide +kernel
theorem dX8_wordOf_25 : decode cX8_wordOf 25 = .ok (.ldc2_w 126, 3) := by decide +kernel
theorem dX8_wordOf_28 : decode cX8_wordOf 28 = .ok (.lcmp, 1) := by decide +kernel
theorem dX8_wordOf_29 : decode cX8_wordOf 29 = .ok (.ifCond .ne 7, 3) := by decide +kernel
theorem dX8_wordOf_32 : decode cX8_wordOf 32 = .ok (.iconst 3, 1) := by decide +kernel
theorem dX8_wordOf_33 : decode cX8_wordOf 33 = .ok (.goto 54, 3) := by decide +kernel
theorem dX8_wordOf_36 : decode cX8_wordOf 36 = .ok (.lload_n 0, 1) := by decide +kernel
theorem dX8_wordOf_37 : decode cX8_wordOf 37 = .ok (.ldc2_w 128, 3) := by decide +kernel
theorem dX8_wordOf_40 : decode cX8_wordOf 40 = .ok (.lcmp, 1) := by decide +kernel
theorem dX8_wordOf_41 : decode cX8_wordOf 41 = .ok (.ifCond .ne 7, 3) := by decide +kernel
theorem dX8_wordOf_44 : decode cX8_wordOf 44 = .ok (.iconst 4, 1) := by decide +kernel
theorem dX8_wordOf_45 : decode cX8_wordOf 45 = .ok (.goto 42, 3) := by decide +kernel
theorem dX8_wordOf_48 : decode cX8_wordOf 48 = .ok (.lload_n 0, 1) := by decide +kernel
theorem dX8_wordOf_49 : decode cX8_wordOf 49 = .ok (.ldc2_w 130, 3) := by decide +kernel
theorem dX8_wordOf_52 : decode cX8_wordOf 52 = .ok (.lcmp, 1) := by decide +kernel
theorem dX8_wordOf_53 : decode cX8_wordOf 53 = .ok (.ifCond .ne 7, 3) := by decide +kernel
theorem dX8_wordOf_56 : decode cX8_wordOf 56 = .ok (.iconst 5, 1) := by decide +kernel
theorem dX8_wordOf_57 : decode cX8_wordOf 57 = .ok (.goto 30, 3) := by decide +kernel
theorem dX8_wordOf_60 : decode cX8_wordOf 60 = .ok (.lload_n 0, 1) := by decide +kernel
theorem dX8_wordOf_61 : decode cX8_wordOf 61 = .ok (.ldc2_w 132, 3) := by decide +kernel
theorem dX8_wordOf_64 : decode cX8_wordOf 64 = .ok (.lcmp, 1) := by decide +kernel
theorem dX8_wordOf_65 : decode cX8_wordOf 65 = .ok (.ifCond .ne 8, 3) := by decide +kernel
theorem dX8_wordOf_68 : decode cX8_wordOf 68 = .ok (.bipush 6, 2) := by decide +kernel
theorem dX8_wordOf_70 : decode cX8_wordOf 70 = .ok (.goto 17, 3) := by decide +kernel
theorem dX8_wordOf_73 : decode cX8_wordOf 73 = .ok (.lload_n 0, 1) := by decide +kernel
theorem dX8_wordOf_74 : decode cX8_wordOf 74 = .ok (.ldc2_w 134, 3) := by decide +kernel
theorem dX8_wordOf_77 : decode cX8_wordOf 77 = .ok (.lcmp, 1) := by decide +kernel
theorem dX8_wordOf_78 : decode cX8_wordOf 78 = .ok (.ifCond .ne 8, 3) := by decide +kernel
theorem dX8_wordOf_81 : decode cX8_wordOf 81 = .ok (.bipush 7, 2) := by decide +kernel
theorem dX8_wordOf_83 : decode cX8_wordOf 83 = .ok (.goto 4, 3) := by decide +kernel
theorem dX8_wordOf_86 : decode cX8_wordOf 86 = .ok (.iconst (-1), 1) := by decide +kernel
theorem dX8_wordOf_87 : decode cX8_wordOf 87 = .ok (.ireturn, 1) := by decide +kernel
theorem dX8_ownLine_0 : decode cX8_ownLine 0 = .ok (.aload_n 0, 1) := by decide +kernel
theorem dX8_ownLine_1 : decode cX8_ownLine 1 = .ok (.getfield 136, 3) := by decide +kernel
theorem dX8_ownLine_4 : decode cX8_ownLine 4 = .ok (.istore_n 1, 1) := by decide +kernel
theorem dX8_ownLine_5 : decode cX8_ownLine 5 = .ok (.aload_n 0, 1) := by decide +kernel
theorem dX8_ownLine_6 : decode cX8_ownLine 6 = .ok (.getfield 139, 3) := by decide +kernel
theorem dX8_ownLine_9 : decode cX8_ownLine 9 = .ok (.iconst 1, 1) := by decide +kernel
theorem dX8_ownLine_10 : decode cX8_ownLine 10 = .ok (.isub, 1) := by decide +kernel
theorem dX8_ownLine_11 : decode cX8_ownLine 11 = .ok (.istore_n 2, 1) := by decide +kernel
theorem dX8_ownLine_12 : decode cX8_ownLine 12 = .ok (.iload_n 2, 1) := by decide +kernel
theorem dX8_ownLine_13 : decode cX8_ownLine 13 = .ok (.ifCond .lt 30, 3) := by decide +kernel
theorem dX8_ownLine_16 : decode cX8_ownLine 16 = .ok (.aload_n 0, 1) := by decide +kernel
theorem dX8_ownLine_17 : decode cX8_ownLine 17 = .ok (.getfield 24, 3) := by decide +kernel
theorem dX8_ownLine_20 : decode cX8_ownLine 20 = .ok (.iload_n 2, 1) := by decide +kernel
theorem dX8_ownLine_21 : decode cX8_ownLine 21 = .ok (.iaload, 1) := by decide +kernel
theorem dX8_ownLine_22 : decode cX8_ownLine 22 = .ok (.iconst 1, 1) := by decide +kernel
theorem dX8_ownLine_23 : decode cX8_ownLine 23 = .ok (.if_icmp .ne 7, 3) := by decide +kernel
theorem dX8_ownLine_26 : decode cX8_ownLine 26 = .ok (.iload_n 1, 1) := by decide +kernel
theorem dX8_ownLine_27 : decode cX8_ownLine 27 = .ok (.goto 9, 3) := by decide +kernel
theorem dX8_ownLine_30 : decode cX8_ownLine 30 = .ok (.aload_n 0, 1) := by decide +kernel
theorem dX8_ownLine_31 : decode cX8_ownLine 31 = .ok (.getfield 43, 3) := by decide +kernel
theorem dX8_ownLine_34 : decode cX8_ownLine 34 = .ok (.iload_n 2, 1) := by decide +kernel
theorem dX8_ownLine_35 : decode cX8_ownLine 35 = .ok (.iaload, 1) := by decide +kernel
theorem dX8_ownLine_36 : decode cX8_ownLine 36 = .ok (.istore_n 1, 1) := by decide +kernel
theorem dX8_ownLine_37 : decode cX8_ownLine 37 = .ok (.iinc 2 (-1), 3) := by decide +kernel
theorem dX8_ownLine_40 : decode cX8_ownLine 40 = .ok (.goto (-28), 3) := by decide +kernel
theorem dX8_ownLine_43 : decode cX8_ownLine 43 = .ok (.iload_n 1, 1) := by decide +kernel
theorem dX8_ownLine_44 : decode cX8_ownLine 44 = .ok (.ireturn, 1) := by decide +kernel
theorem dX8_fail_0 : decode cX8_fail 0 = .ok (.aload_n 0, 1) := by decide +kernel
theorem dX8_fail_1 : decode cX8_fail 1 = .ok (.getfield 142, 3) := by decide +kernel
theorem dX8_fail_4 : decode cX8_fail 4 = .ok (.ifCond .eq 4, 3) := by decide +kernel
theorem dX8_fail_7 : decode cX8_fail 7 = .ok (.return_, 1) := by decide +kernel
theorem dX8_fail_8 : decode cX8_fail 8 = .ok (.aload_n 0, 1) := by decide +kernel
theorem dX8_fail_9 : decode cX8_fail 9 = .ok (.iload_n 1, 1) := by decide +kernel
theorem dX8_fail_10 : decode cX8_fail 10 = .ok (.putfield 142, 3) := by decide +kernel
theorem dX8_fail_13 : decode cX8_fail 13 = .ok (.aload_n 0, 1) := by decide +kernel
theorem dX8_fail_14 : decode cX8_fail 14 = .ok (.aload_n 0, 1) := by decide +kernel
theorem dX8_fail_15 : decode cX8_fail 15 = .ok (.invokevirtual 145, 3) := by decide +kernel
theorem dX8_fail_18 : decode cX8_fail 18 = .ok (.putfield 149, 3) := by decide +kernel
theorem dX8_fail_21 : decode cX8_fail 21 = .ok (.return_, 1) := by decide +kernel
theorem dX8_firstWord_0 : decode cX8_firstWord 0 = .ok (.iload_n 1, 1) := by decide +kernel
theorem dX8_firstWord_1 : decode cX8_firstWord 1 = .ok (.istore_n 3, 1) := by decide +kernel
theorem dX8_firstWord_2 : decode cX8_firstWord 2 = .ok (.iload_n 3, 1) := by decide +kernel
theorem dX8_firstWord_3 : decode cX8_firstWord 3 = .ok (.iload_n 2, 1) := by decide +kernel
theorem dX8_firstWord_4 : decode cX8_firstWord 4 = .ok (.if_icmp .ge 31, 3) := by decide +kernel
theorem dX8_firstWord_7 : decode cX8_firstWord 7 = .ok (.aload_n 0, 1) := by decide +kernel
theorem dX8_firstWord_8 : decode cX8_firstWord 8 = .ok (.getfield 14, 3) := by decide +kernel
theorem dX8_firstWord_11 : decode cX8_firstWord 11 = .ok (.iload_n 3, 1) := by decide +kernel
theorem dX8_firstWord_12 : decode cX8_firstWord 12 = .ok (.baload, 1) := by decide +kernel
theorem dX8_firstWord_13 : decode cX8_firstWord 13 = .ok (.bipush 32, 2) := by decide +kernel
theorem dX8_firstWord_15 : decode cX8_firstWord 15 = .ok (.if_icmp .eq 14, 3) := by decide +kernel
theorem dX8_firstWord_18 : decode cX8_firstWord 18 = .ok (.aload_n 0, 1) := by decide +kernel
theorem dX8_firstWord_19 : decode cX8_firstWord 19 = .ok (.getfield 14, 3) := by decide +kernel
theorem dX8_firstWord_22 : decode cX8_firstWord 22 = .ok (.iload_n 3, 1) := by decide +kernel
theorem dX8_firstWord_23 : decode cX8_firstWord 23 = .ok (.baload, 1) := by decide +kernel
theorem dX8_firstWord_24 : decode cX8_firstWord 24 = .ok (.bipush 9, 2) := by decide +kernel
theorem dX8_firstWord_26 : decode cX8_firstWord 26 = .ok (.if_icmp .ne 9, 3) := by decide +kernel
theorem dX8_firstWord_29 : decode cX8_firstWord 29 = .ok (.iinc 3 1, 3) := by decide +kernel
theorem dX8_firstWord_32 : decode cX8_firstWord 32 = .ok (.goto (-30), 3) := by decide +kernel
theorem dX8_firstWord_35 : decode cX8_firstWord 35 = .ok (.aload_n 0, 1) := by decide +kernel
theorem dX8_firstWord_36 : decode cX8_firstWord 36 = .ok (.getfield 14, 3) := by decide +kernel
theorem dX8_firstWord_39 : decode cX8_firstWord 39 = .ok (.iload_n 3, 1) := by decide +kernel
theorem dX8_firstWord_40 : decode cX8_firstWord 40 = .ok (.iload_n 2, 1) := by decide +kernel
theorem dX8_firstWord_41 : decode cX8_firstWord 41 = .ok (.invokestatic 152, 3) := by decide +kernel
theorem dX8_firstWord_44 : decode cX8_firstWord 44 = .ok (.invokestatic 156, 3) := by decide +kernel
theorem dX8_firstWord_47 : decode cX8_firstWord 47 = .ok (.ireturn, 1) := by decide +kernel
theorem dX8_endOfLine_0 : decode cX8_endOfLine 0 = .ok (.iload_n 1, 1) := by decide +kernel
theorem dX8_endOfLine_1 : decode cX8_endOfLine 1 = .ok (.istore_n 2, 1) := by decide +kernel
theorem dX8_endOfLine_2 : decode cX8_endOfLine 2 = .ok (.iload_n 2, 1) := by decide +kernel
theorem dX8_endOfLine_3 : decode cX8_endOfLine 3 = .ok (.aload_n 0, 1) := by decide +kernel
theorem dX8_endOfLine_4 : decode cX8_endOfLine 4 = .ok (.getfield 160, 3) := by decide +kernel
theorem dX8_endOfLine_7 : decode cX8_endOfLine 7 = .ok (.if_icmp .ge 20, 3) := by decide +kernel
theorem dX8_endOfLine_10 : decode cX8_endOfLine 10 = .ok (.aload_n 0, 1) := by decide +kernel
theorem dX8_endOfLine_11 : decode cX8_endOfLine 11 = .ok (.getfield 14, 3) := by decide +kernel
theorem dX8_endOfLine_14 : decode cX8_endOfLine 14 = .ok (.iload_n 2, 1) := by decide +kernel
theorem dX8_endOfLine_15 : decode cX8_endOfLine 15 = .ok (.baload, 1) := by decide +kernel
theorem dX8_endOfLine_16 : decode cX8_endOfLine 16 = .ok (.bipush 10, 2) := by decide +kernel
theorem dX8_endOfLine_18 : decode cX8_endOfLine 18 = .ok (.if_icmp .eq 9, 3) := by decide +kernel
theorem dX8_endOfLine_21 : decode cX8_endOfLine 21 = .ok (.iinc 2 1, 3) := by decide +kernel
theorem dX8_endOfLine_24 : decode cX8_endOfLine 24 = .ok (.goto (-22), 3) := by decide +kernel
theorem dX8_endOfLine_27 : decode cX8_endOfLine 27 = .ok (.iload_n 2, 1) := by decide +kernel
theorem dX8_endOfLine_28 : decode cX8_endOfLine 28 = .ok (.ireturn, 1) := by decide +kernel
theorem dX8_findEnd_0 : decode cX8_findEnd 0 = .ok (.iload_n 1, 1) := by decide +kernel
theorem dX8_findEnd_1 : decode cX8_findEnd 1 = .ok (.istore 7, 2) := by decide +kernel
theorem dX8_findEnd_3 : decode cX8_findEnd 3 = .ok (.iload_n 2, 1) := by decide +kernel
theorem dX8_findEnd_4 : decode cX8_findEnd 4 = .ok (.istore 8, 2) := by decide +kernel
theorem dX8_findEnd_6 : decode cX8_findEnd 6 = .ok (.iconst 0, 1) := by decide +kernel
theorem dX8_findEnd_7 : decode cX8_findEnd 7 = .ok (.istore 9, 2) := by decide +kernel
theorem dX8_findEnd_9 : decode cX8_findEnd 9 = .ok (.iload 7, 2) := by decide +kernel
theorem dX8_findEnd_11 : decode cX8_findEnd 11 = .ok (.iload_n 3, 1) := by decide +kernel
theorem dX8_findEnd_12 : decode cX8_findEnd 12 = .ok (.if_icmp .ge 129, 3) := by decide +kernel
theorem dX8_findEnd_15 : decode cX8_findEnd 15 = .ok (.aload_n 0, 1) := by decide +kernel
theorem dX8_findEnd_16 : decode cX8_findEnd 16 = .ok (.iload 7, 2) := by decide +kernel
