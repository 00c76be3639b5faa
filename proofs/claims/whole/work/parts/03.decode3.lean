theorem dX8_findEnd_18 : decode cX8_findEnd 18 = .ok (.invokevirtual 163, 3) := by decide +kernel
theorem dX8_findEnd_21 : decode cX8_findEnd 21 = .ok (.istore 10, 2) := by decide +kernel
theorem dX8_findEnd_23 : decode cX8_findEnd 23 = .ok (.aload_n 0, 1) := by decide +kernel
theorem dX8_findEnd_24 : decode cX8_findEnd 24 = .ok (.iload 7, 2) := by decide +kernel
theorem dX8_findEnd_26 : decode cX8_findEnd 26 = .ok (.iload 10, 2) := by decide +kernel
theorem dX8_findEnd_28 : decode cX8_findEnd 28 = .ok (.invokevirtual 167, 3) := by decide +kernel
theorem dX8_findEnd_31 : decode cX8_findEnd 31 = .ok (.istore 11, 2) := by decide +kernel
theorem dX8_findEnd_33 : decode cX8_findEnd 33 = .ok (.iload 9, 2) := by decide +kernel
theorem dX8_findEnd_35 : decode cX8_findEnd 35 = .ok (.ifCond .ne 67, 3) := by decide +kernel
theorem dX8_findEnd_38 : decode cX8_findEnd 38 = .ok (.iload 11, 2) := by decide +kernel
theorem dX8_findEnd_40 : decode cX8_findEnd 40 = .ok (.iload 5, 2) := by decide +kernel
theorem dX8_findEnd_42 : decode cX8_findEnd 42 = .ok (.if_icmp .eq 14, 3) := by decide +kernel
theorem dX8_findEnd_45 : decode cX8_findEnd 45 = .ok (.iload 6, 2) := by decide +kernel
theorem dX8_findEnd_47 : decode cX8_findEnd 47 = .ok (.ifCond .eq 55, 3) := by decide +kernel
theorem dX8_findEnd_50 : decode cX8_findEnd 50 = .ok (.iload 11, 2) := by decide +kernel
theorem dX8_findEnd_52 : decode cX8_findEnd 52 = .ok (.iconst 2, 1) := by decide +kernel
theorem dX8_findEnd_53 : decode cX8_findEnd 53 = .ok (.if_icmp .ne 49, 3) := by decide +kernel
theorem dX8_findEnd_56 : decode cX8_findEnd 56 = .ok (.aload_n 0, 1) := by decide +kernel
theorem dX8_findEnd_57 : decode cX8_findEnd 57 = .ok (.iload 7, 2) := by decide +kernel
theorem dX8_findEnd_59 : decode cX8_findEnd 59 = .ok (.putfield 171, 3) := by decide +kernel
theorem dX8_findEnd_62 : decode cX8_findEnd 62 = .ok (.aload_n 0, 1) := by decide +kernel
theorem dX8_findEnd_63 : decode cX8_findEnd 63 = .ok (.iload 8, 2) := by decide +kernel
theorem dX8_findEnd_65 : decode cX8_findEnd 65 = .ok (.putfield 174, 3) := by decide +kernel
theorem dX8_findEnd_68 : decode cX8_findEnd 68 = .ok (.aload_n 0, 1) := by decide +kernel
theorem dX8_findEnd_69 : decode cX8_findEnd 69 = .ok (.iload 11, 2) := by decide +kernel
theorem dX8_findEnd_71 : decode cX8_findEnd 71 = .ok (.putfield 177, 3) := by decide +kernel
theorem dX8_findEnd_74 : decode cX8_findEnd 74 = .ok (.aload_n 0, 1) := by decide +kernel
theorem dX8_findEnd_75 : decode cX8_findEnd 75 = .ok (.iload 10, 2) := by decide +kernel
theorem dX8_findEnd_77 : decode cX8_findEnd 77 = .ok (.iconst 1, 1) := by decide +kernel
theorem dX8_findEnd_78 : decode cX8_findEnd 78 = .ok (.iadd, 1) := by decide +kernel
theorem dX8_findEnd_79 : decode cX8_findEnd 79 = .ok (.aload_n 0, 1) := by decide +kernel
theorem dX8_findEnd_80 : decode cX8_findEnd 80 = .ok (.getfield 160, 3) := by decide +kernel
theorem dX8_findEnd_83 : decode cX8_findEnd 83 = .ok (.if_icmp .le 10, 3) := by decide +kernel
theorem dX8_findEnd_86 : decode cX8_findEnd 86 = .ok (.aload_n 0, 1) := by decide +kernel
theorem dX8_findEnd_87 : decode cX8_findEnd 87 = .ok (.getfield 160, 3) := by decide +kernel
theorem dX8_findEnd_90 : decode cX8_findEnd 90 = .ok (.goto 7, 3) := by decide +kernel
theorem dX8_findEnd_93 : decode cX8_findEnd 93 = .ok (.iload 10, 2) := by decide +kernel
theorem dX8_findEnd_95 : decode cX8_findEnd 95 = .ok (.iconst 1, 1) := by decide +kernel
theorem dX8_findEnd_96 : decode cX8_findEnd 96 = .ok (.iadd, 1) := by decide +kernel
theorem dX8_findEnd_97 : decode cX8_findEnd 97 = .ok (.putfield 180, 3) := by decide +kernel
theorem dX8_findEnd_100 : decode cX8_findEnd 100 = .ok (.iconst 1, 1) := by decide +kernel
theorem dX8_findEnd_101 : decode cX8_findEnd 101 = .ok (.ireturn, 1) := by decide +kernel
theorem dX8_findEnd_102 : decode cX8_findEnd 102 = .ok (.iload 11, 2) := by decide +kernel
theorem dX8_findEnd_104 : decode cX8_findEnd 104 = .ok (.iload 4, 2) := by decide +kernel
theorem dX8_findEnd_106 : decode cX8_findEnd 106 = .ok (.if_icmp .ne 13, 3) := by decide +kernel
theorem dX8_findEnd_109 : decode cX8_findEnd 109 = .ok (.iload 4, 2) := by decide +kernel
theorem dX8_findEnd_111 : decode cX8_findEnd 111 = .ok (.bipush 6, 2) := by decide +kernel
theorem dX8_findEnd_113 : decode cX8_findEnd 113 = .ok (.if_icmp .eq 6, 3) := by decide +kernel
theorem dX8_findEnd_116 : decode cX8_findEnd 116 = .ok (.iinc 9 1, 3) := by decide +kernel
theorem dX8_findEnd_119 : decode cX8_findEnd 119 = .ok (.iload 11, 2) := by decide +kernel
theorem dX8_findEnd_121 : decode cX8_findEnd 121 = .ok (.iload 5, 2) := by decide +kernel
theorem dX8_findEnd_123 : decode cX8_findEnd 123 = .ok (.if_icmp .ne 6, 3) := by decide +kernel
theorem dX8_findEnd_126 : decode cX8_findEnd 126 = .ok (.iinc 9 (-1), 3) := by decide +kernel
theorem dX8_findEnd_129 : decode cX8_findEnd 129 = .ok (.iload 10, 2) := by decide +kernel
theorem dX8_findEnd_131 : decode cX8_findEnd 131 = .ok (.iconst 1, 1) := by decide +kernel
theorem dX8_findEnd_132 : decode cX8_findEnd 132 = .ok (.iadd, 1) := by decide +kernel
theorem dX8_findEnd_133 : decode cX8_findEnd 133 = .ok (.istore 7, 2) := by decide +kernel
theorem dX8_findEnd_135 : decode cX8_findEnd 135 = .ok (.iinc 8 1, 3) := by decide +kernel
theorem dX8_findEnd_138 : decode cX8_findEnd 138 = .ok (.goto (-129), 3) := by decide +kernel
theorem dX8_findEnd_141 : decode cX8_findEnd 141 = .ok (.iconst 0, 1) := by decide +kernel
theorem dX8_findEnd_142 : decode cX8_findEnd 142 = .ok (.ireturn, 1) := by decide +kernel
theorem dX8_reader_0 : decode cX8_reader 0 = .ok (.aload_n 0, 1) := by decide +kernel
theorem dX8_reader_1 : decode cX8_reader 1 = .ok (.getfield 139, 3) := by decide +kernel
theorem dX8_reader_4 : decode cX8_reader 4 = .ok (.iconst 1, 1) := by decide +kernel
theorem dX8_reader_5 : decode cX8_reader 5 = .ok (.isub, 1) := by decide +kernel
theorem dX8_reader_6 : decode cX8_reader 6 = .ok (.istore_n 1, 1) := by decide +kernel
theorem dX8_reader_7 : decode cX8_reader 7 = .ok (.iload_n 1, 1) := by decide +kernel
theorem dX8_reader_8 : decode cX8_reader 8 = .ok (.ifCond .lt 21, 3) := by decide +kernel
theorem dX8_reader_11 : decode cX8_reader 11 = .ok (.aload_n 0, 1) := by decide +kernel
theorem dX8_reader_12 : decode cX8_reader 12 = .ok (.getfield 24, 3) := by decide +kernel
theorem dX8_reader_15 : decode cX8_reader 15 = .ok (.iload_n 1, 1) := by decide +kernel
theorem dX8_reader_16 : decode cX8_reader 16 = .ok (.iaload, 1) := by decide +kernel
theorem dX8_reader_17 : decode cX8_reader 17 = .ok (.iconst 1, 1) := by decide +kernel
theorem dX8_reader_18 : decode cX8_reader 18 = .ok (.if_icmp .eq 5, 3) := by decide +kernel
theorem dX8_reader_21 : decode cX8_reader 21 = .ok (.iload_n 1, 1) := by decide +kernel
theorem dX8_reader_22 : decode cX8_reader 22 = .ok (.ireturn, 1) := by decide +kernel
theorem dX8_reader_23 : decode cX8_reader 23 = .ok (.iinc 1 (-1), 3) := by decide +kernel
theorem dX8_reader_26 : decode cX8_reader 26 = .ok (.goto (-19), 3) := by decide +kernel
theorem dX8_reader_29 : decode cX8_reader 29 = .ok (.iconst (-1), 1) := by decide +kernel
theorem dX8_reader_30 : decode cX8_reader 30 = .ok (.ireturn, 1) := by decide +kernel
theorem dX8_macroFrame_0 : decode cX8_macroFrame 0 = .ok (.aload_n 0, 1) := by decide +kernel
theorem dX8_macroFrame_1 : decode cX8_macroFrame 1 = .ok (.getfield 139, 3) := by decide +kernel
theorem dX8_macroFrame_4 : decode cX8_macroFrame 4 = .ok (.iconst 1, 1) := by decide +kernel
theorem dX8_macroFrame_5 : decode cX8_macroFrame 5 = .ok (.isub, 1) := by decide +kernel
theorem dX8_macroFrame_6 : decode cX8_macroFrame 6 = .ok (.istore_n 1, 1) := by decide +kernel
theorem dX8_macroFrame_7 : decode cX8_macroFrame 7 = .ok (.iload_n 1, 1) := by decide +kernel
theorem dX8_macroFrame_8 : decode cX8_macroFrame 8 = .ok (.ifCond .lt 22, 3) := by decide +kernel
theorem dX8_macroFrame_11 : decode cX8_macroFrame 11 = .ok (.aload_n 0, 1) := by decide +kernel
theorem dX8_macroFrame_12 : decode cX8_macroFrame 12 = .ok (.getfield 24, 3) := by decide +kernel
theorem dX8_macroFrame_15 : decode cX8_macroFrame 15 = .ok (.iload_n 1, 1) := by decide +kernel
theorem dX8_macroFrame_16 : decode cX8_macroFrame 16 = .ok (.iaload, 1) := by decide +kernel
theorem dX8_macroFrame_17 : decode cX8_macroFrame 17 = .ok (.bipush 6, 2) := by decide +kernel
theorem dX8_macroFrame_19 : decode cX8_macroFrame 19 = .ok (.if_icmp .ne 5, 3) := by decide +kernel
theorem dX8_macroFrame_22 : decode cX8_macroFrame 22 = .ok (.iload_n 1, 1) := by decide +kernel
theorem dX8_macroFrame_23 : decode cX8_macroFrame 23 = .ok (.ireturn, 1) := by decide +kernel
theorem dX8_macroFrame_24 : decode cX8_macroFrame 24 = .ok (.iinc 1 (-1), 3) := by decide +kernel
theorem dX8_macroFrame_27 : decode cX8_macroFrame 27 = .ok (.goto (-20), 3) := by decide +kernel
theorem dX8_macroFrame_30 : decode cX8_macroFrame 30 = .ok (.iconst (-1), 1) := by decide +kernel
theorem dX8_macroFrame_31 : decode cX8_macroFrame 31 = .ok (.ireturn, 1) := by decide +kernel
theorem dX8_nextLine_0 : decode cX8_nextLine 0 = .ok (.aload_n 0, 1) := by decide +kernel
theorem dX8_nextLine_1 : decode cX8_nextLine 1 = .ok (.invokevirtual 183, 3) := by decide +kernel
theorem dX8_nextLine_4 : decode cX8_nextLine 4 = .ok (.istore_n 1, 1) := by decide +kernel
theorem dX8_nextLine_5 : decode cX8_nextLine 5 = .ok (.iload_n 1, 1) := by decide +kernel
theorem dX8_nextLine_6 : decode cX8_nextLine 6 = .ok (.ifCond .lt 185, 3) := by decide +kernel
theorem dX8_nextLine_9 : decode cX8_nextLine 9 = .ok (.aload_n 0, 1) := by decide +kernel
theorem dX8_nextLine_10 : decode cX8_nextLine 10 = .ok (.getfield 186, 3) := by decide +kernel
theorem dX8_nextLine_13 : decode cX8_nextLine 13 = .ok (.aload_n 0, 1) := by decide +kernel
theorem dX8_nextLine_14 : decode cX8_nextLine 14 = .ok (.getfield 28, 3) := by decide +kernel
theorem dX8_nextLine_17 : decode cX8_nextLine 17 = .ok (.iload_n 1, 1) := by decide +kernel
theorem dX8_nextLine_18 : decode cX8_nextLine 18 = .ok (.iaload, 1) := by decide +kernel
theorem dX8_nextLine_19 : decode cX8_nextLine 19 = .ok (.if_icmp .lt 172, 3) := by decide +kernel
theorem dX8_nextLine_22 : decode cX8_nextLine 22 = .ok (.aload_n 0, 1) := by decide +kernel
theorem dX8_nextLine_23 : decode cX8_nextLine 23 = .ok (.getfield 142, 3) := by decide +kernel
theorem dX8_nextLine_26 : decode cX8_nextLine 26 = .ok (.ifCond .ne 165, 3) := by decide +kernel
theorem dX8_nextLine_29 : decode cX8_nextLine 29 = .ok (.aload_n 0, 1) := by decide +kernel
theorem dX8_nextLine_30 : decode cX8_nextLine 30 = .ok (.getfield 139, 3) := by decide +kernel
theorem dX8_nextLine_33 : decode cX8_nextLine 33 = .ok (.iconst 1, 1) := by decide +kernel
theorem dX8_nextLine_34 : decode cX8_nextLine 34 = .ok (.isub, 1) := by decide +kernel
theorem dX8_nextLine_35 : decode cX8_nextLine 35 = .ok (.iload_n 1, 1) := by decide +kernel
theorem dX8_nextLine_36 : decode cX8_nextLine 36 = .ok (.if_icmp .eq 11, 3) := by decide +kernel
theorem dX8_nextLine_39 : decode cX8_nextLine 39 = .ok (.aload_n 0, 1) := by decide +kernel
theorem dX8_nextLine_40 : decode cX8_nextLine 40 = .ok (.bipush 6, 2) := by decide +kernel
theorem dX8_nextLine_42 : decode cX8_nextLine 42 = .ok (.invokevirtual 189, 3) := by decide +kernel
theorem dX8_nextLine_45 : decode cX8_nextLine 45 = .ok (.iconst 0, 1) := by decide +kernel
theorem dX8_nextLine_46 : decode cX8_nextLine 46 = .ok (.ireturn, 1) := by decide +kernel
theorem dX8_nextLine_47 : decode cX8_nextLine 47 = .ok (.aload_n 0, 1) := by decide +kernel
theorem dX8_nextLine_48 : decode cX8_nextLine 48 = .ok (.getfield 40, 3) := by decide +kernel
theorem dX8_nextLine_51 : decode cX8_nextLine 51 = .ok (.iload_n 1, 1) := by decide +kernel
theorem dX8_nextLine_52 : decode cX8_nextLine 52 = .ok (.dup2, 1) := by decide +kernel
theorem dX8_nextLine_53 : decode cX8_nextLine 53 = .ok (.iaload, 1) := by decide +kernel
theorem dX8_nextLine_54 : decode cX8_nextLine 54 = .ok (.iconst 1, 1) := by decide +kernel
theorem dX8_nextLine_55 : decode cX8_nextLine 55 = .ok (.isub, 1) := by decide +kernel
theorem dX8_nextLine_56 : decode cX8_nextLine 56 = .ok (.iastore, 1) := by decide +kernel
theorem dX8_nextLine_57 : decode cX8_nextLine 57 = .ok (.aload_n 0, 1) := by decide +kernel
theorem dX8_nextLine_58 : decode cX8_nextLine 58 = .ok (.getfield 24, 3) := by decide +kernel
theorem dX8_nextLine_61 : decode cX8_nextLine 61 = .ok (.iload_n 1, 1) := by decide +kernel
theorem dX8_nextLine_62 : decode cX8_nextLine 62 = .ok (.iaload, 1) := by decide +kernel
theorem dX8_nextLine_63 : decode cX8_nextLine 63 = .ok (.iconst 4, 1) := by decide +kernel
theorem dX8_nextLine_64 : decode cX8_nextLine 64 = .ok (.if_icmp .ne 50, 3) := by decide +kernel
theorem dX8_nextLine_67 : decode cX8_nextLine 67 = .ok (.aload_n 0, 1) := by decide +kernel
theorem dX8_nextLine_68 : decode cX8_nextLine 68 = .ok (.getfield 40, 3) := by decide +kernel
theorem dX8_nextLine_71 : decode cX8_nextLine 71 = .ok (.iload_n 1, 1) := by decide +kernel
theorem dX8_nextLine_72 : decode cX8_nextLine 72 = .ok (.iaload, 1) := by decide +kernel
theorem dX8_nextLine_73 : decode cX8_nextLine 73 = .ok (.ifCond .le 41, 3) := by decide +kernel
theorem dX8_nextLine_76 : decode cX8_nextLine 76 = .ok (.aload_n 0, 1) := by decide +kernel
theorem dX8_nextLine_77 : decode cX8_nextLine 77 = .ok (.getfield 34, 3) := by decide +kernel
theorem dX8_nextLine_80 : decode cX8_nextLine 80 = .ok (.iload_n 1, 1) := by decide +kernel
theorem dX8_nextLine_81 : decode cX8_nextLine 81 = .ok (.iaload, 1) := by decide +kernel
theorem dX8_nextLine_82 : decode cX8_nextLine 82 = .ok (.aload_n 0, 1) := by decide +kernel
theorem dX8_nextLine_83 : decode cX8_nextLine 83 = .ok (.getfield 28, 3) := by decide +kernel
theorem dX8_nextLine_86 : decode cX8_nextLine 86 = .ok (.iload_n 1, 1) := by decide +kernel
theorem dX8_nextLine_87 : decode cX8_nextLine 87 = .ok (.iaload, 1) := by decide +kernel
theorem dX8_nextLine_88 : decode cX8_nextLine 88 = .ok (.if_icmp .ge 26, 3) := by decide +kernel
theorem dX8_nextLine_91 : decode cX8_nextLine 91 = .ok (.aload_n 0, 1) := by decide +kernel
theorem dX8_nextLine_92 : decode cX8_nextLine 92 = .ok (.aload_n 0, 1) := by decide +kernel
theorem dX8_nextLine_93 : decode cX8_nextLine 93 = .ok (.getfield 34, 3) := by decide +kernel
theorem dX8_nextLine_96 : decode cX8_nextLine 96 = .ok (.iload_n 1, 1) := by decide +kernel
theorem dX8_nextLine_97 : decode cX8_nextLine 97 = .ok (.iaload, 1) := by decide +kernel
theorem dX8_nextLine_98 : decode cX8_nextLine 98 = .ok (.putfield 186, 3) := by decide +kernel
theorem dX8_nextLine_101 : decode cX8_nextLine 101 = .ok (.aload_n 0, 1) := by decide +kernel
theorem dX8_nextLine_102 : decode cX8_nextLine 102 = .ok (.aload_n 0, 1) := by decide +kernel
theorem dX8_nextLine_103 : decode cX8_nextLine 103 = .ok (.getfield 37, 3) := by decide +kernel
theorem dX8_nextLine_106 : decode cX8_nextLine 106 = .ok (.iload_n 1, 1) := by decide +kernel
theorem dX8_nextLine_107 : decode cX8_nextLine 107 = .ok (.iaload, 1) := by decide +kernel
theorem dX8_nextLine_108 : decode cX8_nextLine 108 = .ok (.putfield 136, 3) := by decide +kernel
theorem dX8_nextLine_111 : decode cX8_nextLine 111 = .ok (.goto 72, 3) := by decide +kernel
theorem dX8_nextLine_114 : decode cX8_nextLine 114 = .ok (.aload_n 0, 1) := by decide +kernel
theorem dX8_nextLine_115 : decode cX8_nextLine 115 = .ok (.aload_n 0, 1) := by decide +kernel
theorem dX8_nextLine_116 : decode cX8_nextLine 116 = .ok (.getfield 24, 3) := by decide +kernel
theorem dX8_nextLine_119 : decode cX8_nextLine 119 = .ok (.iload_n 1, 1) := by decide +kernel
theorem dX8_nextLine_120 : decode cX8_nextLine 120 = .ok (.iaload, 1) := by decide +kernel
theorem dX8_nextLine_121 : decode cX8_nextLine 121 = .ok (.iconst 4, 1) := by decide +kernel
theorem dX8_nextLine_122 : decode cX8_nextLine 122 = .ok (.if_icmp .ne 18, 3) := by decide +kernel
theorem dX8_nextLine_125 : decode cX8_nextLine 125 = .ok (.aload_n 0, 1) := by decide +kernel
theorem dX8_nextLine_126 : decode cX8_nextLine 126 = .ok (.aload_n 0, 1) := by decide +kernel
theorem dX8_nextLine_127 : decode cX8_nextLine 127 = .ok (.getfield 28, 3) := by decide +kernel
theorem dX8_nextLine_130 : decode cX8_nextLine 130 = .ok (.iload_n 1, 1) := by decide +kernel
theorem dX8_nextLine_131 : decode cX8_nextLine 131 = .ok (.iaload, 1) := by decide +kernel
theorem dX8_nextLine_132 : decode cX8_nextLine 132 = .ok (.invokevirtual 163, 3) := by decide +kernel
theorem dX8_nextLine_135 : decode cX8_nextLine 135 = .ok (.iconst 1, 1) := by decide +kernel
theorem dX8_nextLine_136 : decode cX8_nextLine 136 = .ok (.iadd, 1) := by decide +kernel
theorem dX8_nextLine_137 : decode cX8_nextLine 137 = .ok (.goto 9, 3) := by decide +kernel
theorem dX8_nextLine_140 : decode cX8_nextLine 140 = .ok (.aload_n 0, 1) := by decide +kernel
theorem dX8_nextLine_141 : decode cX8_nextLine 141 = .ok (.getfield 34, 3) := by decide +kernel
theorem dX8_nextLine_144 : decode cX8_nextLine 144 = .ok (.iload_n 1, 1) := by decide +kernel
theorem dX8_nextLine_145 : decode cX8_nextLine 145 = .ok (.iaload, 1) := by decide +kernel
theorem dX8_nextLine_146 : decode cX8_nextLine 146 = .ok (.putfield 186, 3) := by decide +kernel
theorem dX8_nextLine_149 : decode cX8_nextLine 149 = .ok (.aload_n 0, 1) := by decide +kernel
theorem dX8_nextLine_150 : decode cX8_nextLine 150 = .ok (.aload_n 0, 1) := by decide +kernel
theorem dX8_nextLine_151 : decode cX8_nextLine 151 = .ok (.getfield 24, 3) := by decide +kernel
theorem dX8_nextLine_154 : decode cX8_nextLine 154 = .ok (.iload_n 1, 1) := by decide +kernel
theorem dX8_nextLine_155 : decode cX8_nextLine 155 = .ok (.iaload, 1) := by decide +kernel
theorem dX8_nextLine_156 : decode cX8_nextLine 156 = .ok (.iconst 4, 1) := by decide +kernel
theorem dX8_nextLine_157 : decode cX8_nextLine 157 = .ok (.if_icmp .ne 12, 3) := by decide +kernel
theorem dX8_nextLine_160 : decode cX8_nextLine 160 = .ok (.aload_n 0, 1) := by decide +kernel
theorem dX8_nextLine_161 : decode cX8_nextLine 161 = .ok (.getfield 31, 3) := by decide +kernel
theorem dX8_nextLine_164 : decode cX8_nextLine 164 = .ok (.iload_n 1, 1) := by decide +kernel
theorem dX8_nextLine_165 : decode cX8_nextLine 165 = .ok (.iaload, 1) := by decide +kernel
theorem dX8_nextLine_166 : decode cX8_nextLine 166 = .ok (.goto 9, 3) := by decide +kernel
theorem dX8_nextLine_169 : decode cX8_nextLine 169 = .ok (.aload_n 0, 1) := by decide +kernel
theorem dX8_nextLine_170 : decode cX8_nextLine 170 = .ok (.getfield 37, 3) := by decide +kernel
theorem dX8_nextLine_173 : decode cX8_nextLine 173 = .ok (.iload_n 1, 1) := by decide +kernel
theorem dX8_nextLine_174 : decode cX8_nextLine 174 = .ok (.iaload, 1) := by decide +kernel
theorem dX8_nextLine_175 : decode cX8_nextLine 175 = .ok (.putfield 136, 3) := by decide +kernel
theorem dX8_nextLine_178 : decode cX8_nextLine 178 = .ok (.aload_n 0, 1) := by decide +kernel
theorem dX8_nextLine_179 : decode cX8_nextLine 179 = .ok (.iload_n 1, 1) := by decide +kernel
theorem dX8_nextLine_180 : decode cX8_nextLine 180 = .ok (.putfield 139, 3) := by decide +kernel
theorem dX8_nextLine_183 : decode cX8_nextLine 183 = .ok (.aload_n 0, 1) := by decide +kernel
theorem dX8_nextLine_184 : decode cX8_nextLine 184 = .ok (.invokevirtual 183, 3) := by decide +kernel
theorem dX8_nextLine_187 : decode cX8_nextLine 187 = .ok (.istore_n 1, 1) := by decide +kernel
theorem dX8_nextLine_188 : decode cX8_nextLine 188 = .ok (.goto (-183), 3) := by decide +kernel
theorem dX8_nextLine_191 : decode cX8_nextLine 191 = .ok (.aload_n 0, 1) := by decide +kernel
theorem dX8_nextLine_192 : decode cX8_nextLine 192 = .ok (.getfield 142, 3) := by decide +kernel
theorem dX8_nextLine_195 : decode cX8_nextLine 195 = .ok (.ifCond .ne 14, 3) := by decide +kernel
theorem dX8_nextLine_198 : decode cX8_nextLine 198 = .ok (.aload_n 0, 1) := by decide +kernel
theorem dX8_nextLine_199 : decode cX8_nextLine 199 = .ok (.getfield 186, 3) := by decide +kernel
theorem dX8_nextLine_202 : decode cX8_nextLine 202 = .ok (.aload_n 0, 1) := by decide +kernel
theorem dX8_nextLine_203 : decode cX8_nextLine 203 = .ok (.getfield 160, 3) := by decide +kernel
theorem dX8_nextLine_206 : decode cX8_nextLine 206 = .ok (.if_icmp .lt 5, 3) := by decide +kernel
theorem dX8_nextLine_209 : decode cX8_nextLine 209 = .ok (.iconst 0, 1) := by decide +kernel
theorem dX8_nextLine_210 : decode cX8_nextLine 210 = .ok (.ireturn, 1) := by decide +kernel
theorem dX8_nextLine_211 : decode cX8_nextLine 211 = .ok (.aload_n 0, 1) := by decide +kernel
theorem dX8_nextLine_212 : decode cX8_nextLine 212 = .ok (.aload_n 0, 1) := by decide +kernel
theorem dX8_nextLine_213 : decode cX8_nextLine 213 = .ok (.getfield 186, 3) := by decide +kernel
theorem dX8_nextLine_216 : decode cX8_nextLine 216 = .ok (.putfield 193, 3) := by decide +kernel
theorem dX8_nextLine_219 : decode cX8_nextLine 219 = .ok (.aload_n 0, 1) := by decide +kernel
theorem dX8_nextLine_220 : decode cX8_nextLine 220 = .ok (.aload_n 0, 1) := by decide +kernel
theorem dX8_nextLine_221 : decode cX8_nextLine 221 = .ok (.aload_n 0, 1) := by decide +kernel
theorem dX8_nextLine_222 : decode cX8_nextLine 222 = .ok (.getfield 186, 3) := by decide +kernel
theorem dX8_nextLine_225 : decode cX8_nextLine 225 = .ok (.invokevirtual 163, 3) := by decide +kernel
theorem dX8_nextLine_228 : decode cX8_nextLine 228 = .ok (.putfield 196, 3) := by decide +kernel
theorem dX8_nextLine_231 : decode cX8_nextLine 231 = .ok (.aload_n 0, 1) := by decide +kernel
theorem dX8_nextLine_232 : decode cX8_nextLine 232 = .ok (.aload_n 0, 1) := by decide +kernel
theorem dX8_nextLine_233 : decode cX8_nextLine 233 = .ok (.getfield 196, 3) := by decide +kernel
theorem dX8_nextLine_236 : decode cX8_nextLine 236 = .ok (.iconst 1, 1) := by decide +kernel
theorem dX8_nextLine_237 : decode cX8_nextLine 237 = .ok (.iadd, 1) := by decide +kernel
theorem dX8_nextLine_238 : decode cX8_nextLine 238 = .ok (.putfield 186, 3) := by decide +kernel
theorem dX8_nextLine_241 : decode cX8_nextLine 241 = .ok (.aload_n 0, 1) := by decide +kernel
theorem dX8_nextLine_242 : decode cX8_nextLine 242 = .ok (.dup, 1) := by decide +kernel
theorem dX8_nextLine_243 : decode cX8_nextLine 243 = .ok (.getfield 136, 3) := by decide +kernel
theorem dX8_nextLine_246 : decode cX8_nextLine 246 = .ok (.iconst 1, 1) := by decide +kernel
theorem dX8_nextLine_247 : decode cX8_nextLine 247 = .ok (.iadd, 1) := by decide +kernel
theorem dX8_nextLine_248 : decode cX8_nextLine 248 = .ok (.putfield 136, 3) := by decide +kernel
theorem dX8_nextLine_251 : decode cX8_nextLine 251 = .ok (.iconst 1, 1) := by decide +kernel
theorem dX8_nextLine_252 : decode cX8_nextLine 252 = .ok (.ireturn, 1) := by decide +kernel
theorem dX8_append_0 : decode cX8_append 0 = .ok (.aload_n 0, 1) := by decide +kernel
theorem dX8_append_1 : decode cX8_append 1 = .ok (.getfield 199, 3) := by decide +kernel
theorem dX8_append_4 : decode cX8_append 4 = .ok (.sipush 1090, 3) := by decide +kernel
theorem dX8_append_7 : decode cX8_append 7 = .ok (.if_icmp .ge 14, 3) := by decide +kernel
theorem dX8_append_10 : decode cX8_append 10 = .ok (.aload_n 0, 1) := by decide +kernel
theorem dX8_append_11 : decode cX8_append 11 = .ok (.getfield 21, 3) := by decide +kernel
theorem dX8_append_14 : decode cX8_append 14 = .ok (.aload_n 0, 1) := by decide +kernel
theorem dX8_append_15 : decode cX8_append 15 = .ok (.getfield 199, 3) := by decide +kernel
theorem dX8_append_18 : decode cX8_append 18 = .ok (.iload_n 1, 1) := by decide +kernel
theorem dX8_append_19 : decode cX8_append 19 = .ok (.i2b, 1) := by decide +kernel
theorem dX8_append_20 : decode cX8_append 20 = .ok (.bastore, 1) := by decide +kernel
theorem dX8_append_21 : decode cX8_append 21 = .ok (.aload_n 0, 1) := by decide +kernel
theorem dX8_append_22 : decode cX8_append 22 = .ok (.dup, 1) := by decide +kernel
theorem dX8_append_23 : decode cX8_append 23 = .ok (.getfield 199, 3) := by decide +kernel
theorem dX8_append_26 : decode cX8_append 26 = .ok (.iconst 1, 1) := by decide +kernel
theorem dX8_append_27 : decode cX8_append 27 = .ok (.iadd, 1) := by decide +kernel
theorem dX8_append_28 : decode cX8_append 28 = .ok (.putfield 199, 3) := by decide +kernel
theorem dX8_append_31 : decode cX8_append 31 = .ok (.return_, 1) := by decide +kernel
theorem dX8_parameterAt_0 : decode cX8_parameterAt 0 = .ok (.iconst 0, 1) := by decide +kernel
theorem dX8_parameterAt_1 : decode cX8_parameterAt 1 = .ok (.istore 4, 2) := by decide +kernel
theorem dX8_parameterAt_3 : decode cX8_parameterAt 3 = .ok (.aload_n 0, 1) := by decide +kernel
theorem dX8_parameterAt_4 : decode cX8_parameterAt 4 = .ok (.getfield 75, 3) := by decide +kernel
theorem dX8_parameterAt_7 : decode cX8_parameterAt 7 = .ok (.iload_n 1, 1) := by decide +kernel
theorem dX8_parameterAt_8 : decode cX8_parameterAt 8 = .ok (.iaload, 1) := by decide +kernel
theorem dX8_parameterAt_9 : decode cX8_parameterAt 9 = .ok (.istore 5, 2) := by decide +kernel
theorem dX8_parameterAt_11 : decode cX8_parameterAt 11 = .ok (.aload_n 0, 1) := by decide +kernel
theorem dX8_parameterAt_12 : decode cX8_parameterAt 12 = .ok (.iload 5, 2) := by decide +kernel
theorem dX8_parameterAt_14 : decode cX8_parameterAt 14 = .ok (.invokevirtual 163, 3) := by decide +kernel
theorem dX8_parameterAt_17 : decode cX8_parameterAt 17 = .ok (.istore 6, 2) := by decide +kernel
theorem dX8_parameterAt_19 : decode cX8_parameterAt 19 = .ok (.iconst 0, 1) := by decide +kernel
theorem dX8_parameterAt_20 : decode cX8_parameterAt 20 = .ok (.istore 7, 2) := by decide +kernel
theorem dX8_parameterAt_22 : decode cX8_parameterAt 22 = .ok (.iload 5, 2) := by decide +kernel
theorem dX8_parameterAt_24 : decode cX8_parameterAt 24 = .ok (.iload 6, 2) := by decide +kernel
theorem dX8_parameterAt_26 : decode cX8_parameterAt 26 = .ok (.if_icmp .ge 169, 3) := by decide +kernel
theorem dX8_parameterAt_29 : decode cX8_parameterAt 29 = .ok (.aload_n 0, 1) := by decide +kernel
theorem dX8_parameterAt_30 : decode cX8_parameterAt 30 = .ok (.getfield 14, 3) := by decide +kernel
theorem dX8_parameterAt_33 : decode cX8_parameterAt 33 = .ok (.iload 5, 2) := by decide +kernel
theorem dX8_parameterAt_35 : decode cX8_parameterAt 35 = .ok (.baload, 1) := by decide +kernel
theorem dX8_parameterAt_36 : decode cX8_parameterAt 36 = .ok (.bipush 59, 2) := by decide +kernel
theorem dX8_parameterAt_38 : decode cX8_parameterAt 38 = .ok (.if_icmp .eq 157, 3) := by decide +kernel
theorem dX8_parameterAt_41 : decode cX8_parameterAt 41 = .ok (.aload_n 0, 1) := by decide +kernel
theorem dX8_parameterAt_42 : decode cX8_parameterAt 42 = .ok (.getfield 14, 3) := by decide +kernel
theorem dX8_parameterAt_45 : decode cX8_parameterAt 45 = .ok (.iload 5, 2) := by decide +kernel
theorem dX8_parameterAt_47 : decode cX8_parameterAt 47 = .ok (.baload, 1) := by decide +kernel
theorem dX8_parameterAt_48 : decode cX8_parameterAt 48 = .ok (.invokestatic 117, 3) := by decide +kernel
theorem dX8_parameterAt_51 : decode cX8_parameterAt 51 = .ok (.ifCond .ne 9, 3) := by decide +kernel
theorem dX8_parameterAt_54 : decode cX8_parameterAt 54 = .ok (.iinc 5 1, 3) := by decide +kernel
theorem dX8_parameterAt_57 : decode cX8_parameterAt 57 = .ok (.goto (-35), 3) := by decide +kernel
theorem dX8_parameterAt_60 : decode cX8_parameterAt 60 = .ok (.iconst 0, 1) := by decide +kernel
theorem dX8_parameterAt_61 : decode cX8_parameterAt 61 = .ok (.istore 8, 2) := by decide +kernel
theorem dX8_parameterAt_63 : decode cX8_parameterAt 63 = .ok (.iload 5, 2) := by decide +kernel
theorem dX8_parameterAt_65 : decode cX8_parameterAt 65 = .ok (.iload 8, 2) := by decide +kernel
theorem dX8_parameterAt_67 : decode cX8_parameterAt 67 = .ok (.iadd, 1) := by decide +kernel
theorem dX8_parameterAt_68 : decode cX8_parameterAt 68 = .ok (.iload 6, 2) := by decide +kernel
theorem dX8_parameterAt_70 : decode cX8_parameterAt 70 = .ok (.if_icmp .ge 25, 3) := by decide +kernel
theorem dX8_parameterAt_73 : decode cX8_parameterAt 73 = .ok (.aload_n 0, 1) := by decide +kernel
theorem dX8_parameterAt_74 : decode cX8_parameterAt 74 = .ok (.getfield 14, 3) := by decide +kernel
theorem dX8_parameterAt_77 : decode cX8_parameterAt 77 = .ok (.iload 5, 2) := by decide +kernel
theorem dX8_parameterAt_79 : decode cX8_parameterAt 79 = .ok (.iload 8, 2) := by decide +kernel
theorem dX8_parameterAt_81 : decode cX8_parameterAt 81 = .ok (.iadd, 1) := by decide +kernel
theorem dX8_parameterAt_82 : decode cX8_parameterAt 82 = .ok (.baload, 1) := by decide +kernel
theorem dX8_parameterAt_83 : decode cX8_parameterAt 83 = .ok (.invokestatic 117, 3) := by decide +kernel
theorem dX8_parameterAt_86 : decode cX8_parameterAt 86 = .ok (.ifCond .eq 9, 3) := by decide +kernel
theorem dX8_parameterAt_89 : decode cX8_parameterAt 89 = .ok (.iinc 8 1, 3) := by decide +kernel
theorem dX8_parameterAt_92 : decode cX8_parameterAt 92 = .ok (.goto (-29), 3) := by decide +kernel
theorem dX8_parameterAt_95 : decode cX8_parameterAt 95 = .ok (.iload_n 2, 1) := by decide +kernel
theorem dX8_parameterAt_96 : decode cX8_parameterAt 96 = .ok (.iload 8, 2) := by decide +kernel
theorem dX8_parameterAt_98 : decode cX8_parameterAt 98 = .ok (.iadd, 1) := by decide +kernel
theorem dX8_parameterAt_99 : decode cX8_parameterAt 99 = .ok (.iload_n 3, 1) := by decide +kernel
theorem dX8_parameterAt_100 : decode cX8_parameterAt 100 = .ok (.if_icmp .gt 7, 3) := by decide +kernel
theorem dX8_parameterAt_103 : decode cX8_parameterAt 103 = .ok (.iconst 1, 1) := by decide +kernel
theorem dX8_parameterAt_104 : decode cX8_parameterAt 104 = .ok (.goto 4, 3) := by decide +kernel
theorem dX8_parameterAt_107 : decode cX8_parameterAt 107 = .ok (.iconst 0, 1) := by decide +kernel
theorem dX8_parameterAt_108 : decode cX8_parameterAt 108 = .ok (.istore 9, 2) := by decide +kernel
theorem dX8_parameterAt_110 : decode cX8_parameterAt 110 = .ok (.iconst 0, 1) := by decide +kernel
theorem dX8_parameterAt_111 : decode cX8_parameterAt 111 = .ok (.istore 10, 2) := by decide +kernel
theorem dX8_parameterAt_113 : decode cX8_parameterAt 113 = .ok (.iload 10, 2) := by decide +kernel
theorem dX8_parameterAt_115 : decode cX8_parameterAt 115 = .ok (.iload 8, 2) := by decide +kernel
theorem dX8_parameterAt_117 : decode cX8_parameterAt 117 = .ok (.if_icmp .ge 43, 3) := by decide +kernel
theorem dX8_parameterAt_120 : decode cX8_parameterAt 120 = .ok (.iload 9, 2) := by decide +kernel
theorem dX8_parameterAt_122 : decode cX8_parameterAt 122 = .ok (.ifCond .eq 38, 3) := by decide +kernel
theorem dX8_parameterAt_125 : decode cX8_parameterAt 125 = .ok (.aload_n 0, 1) := by decide +kernel
theorem dX8_parameterAt_126 : decode cX8_parameterAt 126 = .ok (.getfield 14, 3) := by decide +kernel
theorem dX8_parameterAt_129 : decode cX8_parameterAt 129 = .ok (.iload 5, 2) := by decide +kernel
theorem dX8_parameterAt_131 : decode cX8_parameterAt 131 = .ok (.iload 10, 2) := by decide +kernel
theorem dX8_parameterAt_133 : decode cX8_parameterAt 133 = .ok (.iadd, 1) := by decide +kernel
theorem dX8_parameterAt_134 : decode cX8_parameterAt 134 = .ok (.baload, 1) := by decide +kernel
theorem dX8_parameterAt_135 : decode cX8_parameterAt 135 = .ok (.aload_n 0, 1) := by decide +kernel
theorem dX8_parameterAt_136 : decode cX8_parameterAt 136 = .ok (.getfield 14, 3) := by decide +kernel
theorem dX8_parameterAt_139 : decode cX8_parameterAt 139 = .ok (.iload_n 2, 1) := by decide +kernel
theorem dX8_parameterAt_140 : decode cX8_parameterAt 140 = .ok (.iload 10, 2) := by decide +kernel
theorem dX8_parameterAt_142 : decode cX8_parameterAt 142 = .ok (.iadd, 1) := by decide +kernel
theorem dX8_parameterAt_143 : decode cX8_parameterAt 143 = .ok (.baload, 1) := by decide +kernel
theorem dX8_parameterAt_144 : decode cX8_parameterAt 144 = .ok (.if_icmp .ne 7, 3) := by decide +kernel
theorem dX8_parameterAt_147 : decode cX8_parameterAt 147 = .ok (.iconst 1, 1) := by decide +kernel
theorem dX8_parameterAt_148 : decode cX8_parameterAt 148 = .ok (.goto 4, 3) := by decide +kernel
theorem dX8_parameterAt_151 : decode cX8_parameterAt 151 = .ok (.iconst 0, 1) := by decide +kernel
theorem dX8_parameterAt_152 : decode cX8_parameterAt 152 = .ok (.istore 9, 2) := by decide +kernel
theorem dX8_parameterAt_154 : decode cX8_parameterAt 154 = .ok (.iinc 10 1, 3) := by decide +kernel
theorem dX8_parameterAt_157 : decode cX8_parameterAt 157 = .ok (.goto (-44), 3) := by decide +kernel
theorem dX8_parameterAt_160 : decode cX8_parameterAt 160 = .ok (.iload 9, 2) := by decide +kernel
theorem dX8_parameterAt_162 : decode cX8_parameterAt 162 = .ok (.ifCond .eq 20, 3) := by decide +kernel
theorem dX8_parameterAt_165 : decode cX8_parameterAt 165 = .ok (.iload 8, 2) := by decide +kernel
theorem dX8_parameterAt_167 : decode cX8_parameterAt 167 = .ok (.iload 4, 2) := by decide +kernel
theorem dX8_parameterAt_169 : decode cX8_parameterAt 169 = .ok (.if_icmp .le 13, 3) := by decide +kernel
theorem dX8_parameterAt_172 : decode cX8_parameterAt 172 = .ok (.iload 8, 2) := by decide +kernel
theorem dX8_parameterAt_174 : decode cX8_parameterAt 174 = .ok (.istore 4, 2) := by decide +kernel
theorem dX8_parameterAt_176 : decode cX8_parameterAt 176 = .ok (.aload_n 0, 1) := by decide +kernel
theorem dX8_parameterAt_177 : decode cX8_parameterAt 177 = .ok (.iload 7, 2) := by decide +kernel
theorem dX8_parameterAt_179 : decode cX8_parameterAt 179 = .ok (.putfield 171, 3) := by decide +kernel
theorem dX8_parameterAt_182 : decode cX8_parameterAt 182 = .ok (.iinc 7 1, 3) := by decide +kernel
theorem dX8_parameterAt_185 : decode cX8_parameterAt 185 = .ok (.iload 5, 2) := by decide +kernel
theorem dX8_parameterAt_187 : decode cX8_parameterAt 187 = .ok (.iload 8, 2) := by decide +kernel
theorem dX8_parameterAt_189 : decode cX8_parameterAt 189 = .ok (.iadd, 1) := by decide +kernel
theorem dX8_parameterAt_190 : decode cX8_parameterAt 190 = .ok (.istore 5, 2) := by decide +kernel
theorem dX8_parameterAt_192 : decode cX8_parameterAt 192 = .ok (.goto (-170), 3) := by decide +kernel
theorem dX8_parameterAt_195 : decode cX8_parameterAt 195 = .ok (.iload 4, 2) := by decide +kernel
theorem dX8_parameterAt_197 : decode cX8_parameterAt 197 = .ok (.ireturn, 1) := by decide +kernel
theorem dX8_appendNumber_0 : decode cX8_appendNumber 0 = .ok (.iconst 1, 1) := by decide +kernel
theorem dX8_appendNumber_1 : decode cX8_appendNumber 1 = .ok (.istore_n 2, 1) := by decide +kernel
theorem dX8_appendNumber_2 : decode cX8_appendNumber 2 = .ok (.iload_n 1, 1) := by decide +kernel
theorem dX8_appendNumber_3 : decode cX8_appendNumber 3 = .ok (.iload_n 2, 1) := by decide +kernel
theorem dX8_appendNumber_4 : decode cX8_appendNumber 4 = .ok (.idiv, 1) := by decide +kernel
theorem dX8_appendNumber_5 : decode cX8_appendNumber 5 = .ok (.bipush 9, 2) := by decide +kernel
theorem dX8_appendNumber_7 : decode cX8_appendNumber 7 = .ok (.if_icmp .le 11, 3) := by decide +kernel
theorem dX8_appendNumber_10 : decode cX8_appendNumber 10 = .ok (.iload_n 2, 1) := by decide +kernel
theorem dX8_appendNumber_11 : decode cX8_appendNumber 11 = .ok (.bipush 10, 2) := by decide +kernel
theorem dX8_appendNumber_13 : decode cX8_appendNumber 13 = .ok (.imul, 1) := by decide +kernel
theorem dX8_appendNumber_14 : decode cX8_appendNumber 14 = .ok (.istore_n 2, 1) := by decide +kernel
theorem dX8_appendNumber_15 : decode cX8_appendNumber 15 = .ok (.goto (-13), 3) := by decide +kernel
theorem dX8_appendNumber_18 : decode cX8_appendNumber 18 = .ok (.iload_n 2, 1) := by decide +kernel
theorem dX8_appendNumber_19 : decode cX8_appendNumber 19 = .ok (.istore_n 3, 1) := by decide +kernel
theorem dX8_appendNumber_20 : decode cX8_appendNumber 20 = .ok (.iload_n 3, 1) := by decide +kernel
theorem dX8_appendNumber_21 : decode cX8_appendNumber 21 = .ok (.ifCond .le 24, 3) := by decide +kernel
theorem dX8_appendNumber_24 : decode cX8_appendNumber 24 = .ok (.aload_n 0, 1) := by decide +kernel
theorem dX8_appendNumber_25 : decode cX8_appendNumber 25 = .ok (.bipush 48, 2) := by decide +kernel
theorem dX8_appendNumber_27 : decode cX8_appendNumber 27 = .ok (.iload_n 1, 1) := by decide +kernel
theorem dX8_appendNumber_28 : decode cX8_appendNumber 28 = .ok (.iload_n 3, 1) := by decide +kernel
theorem dX8_appendNumber_29 : decode cX8_appendNumber 29 = .ok (.idiv, 1) := by decide +kernel
theorem dX8_appendNumber_30 : decode cX8_appendNumber 30 = .ok (.bipush 10, 2) := by decide +kernel
theorem dX8_appendNumber_32 : decode cX8_appendNumber 32 = .ok (.irem, 1) := by decide +kernel
theorem dX8_appendNumber_33 : decode cX8_appendNumber 33 = .ok (.iadd, 1) := by decide +kernel
theorem dX8_appendNumber_34 : decode cX8_appendNumber 34 = .ok (.invokevirtual 202, 3) := by decide +kernel
theorem dX8_appendNumber_37 : decode cX8_appendNumber 37 = .ok (.iload_n 3, 1) := by decide +kernel
theorem dX8_appendNumber_38 : decode cX8_appendNumber 38 = .ok (.bipush 10, 2) := by decide +kernel
theorem dX8_appendNumber_40 : decode cX8_appendNumber 40 = .ok (.idiv, 1) := by decide +kernel
theorem dX8_appendNumber_41 : decode cX8_appendNumber 41 = .ok (.istore_n 3, 1) := by decide +kernel
theorem dX8_appendNumber_42 : decode cX8_appendNumber 42 = .ok (.goto (-22), 3) := by decide +kernel
theorem dX8_appendNumber_45 : decode cX8_appendNumber 45 = .ok (.return_, 1) := by decide +kernel
theorem dX8_expand_0 : decode cX8_expand 0 = .ok (.aload_n 0, 1) := by decide +kernel
theorem dX8_expand_1 : decode cX8_expand 1 = .ok (.iconst 0, 1) := by decide +kernel
theorem dX8_expand_2 : decode cX8_expand 2 = .ok (.putfield 199, 3) := by decide +kernel
theorem dX8_expand_5 : decode cX8_expand 5 = .ok (.aload_n 0, 1) := by decide +kernel
theorem dX8_expand_6 : decode cX8_expand 6 = .ok (.getfield 196, 3) := by decide +kernel
theorem dX8_expand_9 : decode cX8_expand 9 = .ok (.aload_n 0, 1) := by decide +kernel
theorem dX8_expand_10 : decode cX8_expand 10 = .ok (.getfield 193, 3) := by decide +kernel
theorem dX8_expand_13 : decode cX8_expand 13 = .ok (.isub, 1) := by decide +kernel
theorem dX8_expand_14 : decode cX8_expand 14 = .ok (.sipush 1024, 3) := by decide +kernel
theorem dX8_expand_17 : decode cX8_expand 17 = .ok (.if_icmp .le 9, 3) := by decide +kernel
theorem dX8_expand_20 : decode cX8_expand 20 = .ok (.aload_n 0, 1) := by decide +kernel
theorem dX8_expand_21 : decode cX8_expand 21 = .ok (.iconst 5, 1) := by decide +kernel
theorem dX8_expand_22 : decode cX8_expand 22 = .ok (.invokevirtual 189, 3) := by decide +kernel
theorem dX8_expand_25 : decode cX8_expand 25 = .ok (.return_, 1) := by decide +kernel
theorem dX8_expand_26 : decode cX8_expand 26 = .ok (.aload_n 0, 1) := by decide +kernel
theorem dX8_expand_27 : decode cX8_expand 27 = .ok (.invokevirtual 205, 3) := by decide +kernel
theorem dX8_expand_30 : decode cX8_expand 30 = .ok (.istore_n 1, 1) := by decide +kernel
theorem dX8_expand_31 : decode cX8_expand 31 = .ok (.aload_n 0, 1) := by decide +kernel
theorem dX8_expand_32 : decode cX8_expand 32 = .ok (.getfield 193, 3) := by decide +kernel
theorem dX8_expand_35 : decode cX8_expand 35 = .ok (.istore_n 2, 1) := by decide +kernel
theorem dX8_expand_36 : decode cX8_expand 36 = .ok (.iload_n 2, 1) := by decide +kernel
theorem dX8_expand_37 : decode cX8_expand 37 = .ok (.aload_n 0, 1) := by decide +kernel
theorem dX8_expand_38 : decode cX8_expand 38 = .ok (.getfield 196, 3) := by decide +kernel
theorem dX8_expand_41 : decode cX8_expand 41 = .ok (.if_icmp .ge 201, 3) := by decide +kernel
theorem dX8_expand_44 : decode cX8_expand 44 = .ok (.aload_n 0, 1) := by decide +kernel
theorem dX8_expand_45 : decode cX8_expand 45 = .ok (.getfield 14, 3) := by decide +kernel
theorem dX8_expand_48 : decode cX8_expand 48 = .ok (.iload_n 2, 1) := by decide +kernel
theorem dX8_expand_49 : decode cX8_expand 49 = .ok (.baload, 1) := by decide +kernel
theorem dX8_expand_50 : decode cX8_expand 50 = .ok (.istore_n 3, 1) := by decide +kernel
theorem dX8_expand_51 : decode cX8_expand 51 = .ok (.iload_n 1, 1) := by decide +kernel
theorem dX8_expand_52 : decode cX8_expand 52 = .ok (.ifCond .lt 29, 3) := by decide +kernel
theorem dX8_expand_55 : decode cX8_expand 55 = .ok (.iload_n 3, 1) := by decide +kernel
theorem dX8_expand_56 : decode cX8_expand 56 = .ok (.bipush 92, 2) := by decide +kernel
theorem dX8_expand_58 : decode cX8_expand 58 = .ok (.if_icmp .ne 23, 3) := by decide +kernel
theorem dX8_expand_61 : decode cX8_expand 61 = .ok (.aload_n 0, 1) := by decide +kernel
theorem dX8_expand_62 : decode cX8_expand 62 = .ok (.aload_n 0, 1) := by decide +kernel
theorem dX8_expand_63 : decode cX8_expand 63 = .ok (.getfield 46, 3) := by decide +kernel
theorem dX8_expand_66 : decode cX8_expand 66 = .ok (.iload_n 1, 1) := by decide +kernel
theorem dX8_expand_67 : decode cX8_expand 67 = .ok (.iaload, 1) := by decide +kernel
theorem dX8_expand_68 : decode cX8_expand 68 = .ok (.iload_n 2, 1) := by decide +kernel
theorem dX8_expand_69 : decode cX8_expand 69 = .ok (.iconst 1, 1) := by decide +kernel
theorem dX8_expand_70 : decode cX8_expand 70 = .ok (.iadd, 1) := by decide +kernel
theorem dX8_expand_71 : decode cX8_expand 71 = .ok (.aload_n 0, 1) := by decide +kernel
theorem dX8_expand_72 : decode cX8_expand 72 = .ok (.getfield 196, 3) := by decide +kernel
theorem dX8_expand_75 : decode cX8_expand 75 = .ok (.invokevirtual 208, 3) := by decide +kernel
theorem dX8_expand_78 : decode cX8_expand 78 = .ok (.goto 4, 3) := by decide +kernel
theorem dX8_expand_81 : decode cX8_expand 81 = .ok (.iconst 0, 1) := by decide +kernel
theorem dX8_expand_82 : decode cX8_expand 82 = .ok (.istore 4, 2) := by decide +kernel
theorem dX8_expand_84 : decode cX8_expand 84 = .ok (.iload 4, 2) := by decide +kernel
theorem dX8_expand_86 : decode cX8_expand 86 = .ok (.ifCond .le 80, 3) := by decide +kernel
theorem dX8_expand_89 : decode cX8_expand 89 = .ok (.aload_n 0, 1) := by decide +kernel
theorem dX8_expand_90 : decode cX8_expand 90 = .ok (.getfield 63, 3) := by decide +kernel
theorem dX8_expand_93 : decode cX8_expand 93 = .ok (.iload_n 1, 1) := by decide +kernel
theorem dX8_expand_94 : decode cX8_expand 94 = .ok (.aaload, 1) := by decide +kernel
theorem dX8_expand_95 : decode cX8_expand 95 = .ok (.iconst 2, 1) := by decide +kernel
theorem dX8_expand_96 : decode cX8_expand 96 = .ok (.aload_n 0, 1) := by decide +kernel
theorem dX8_expand_97 : decode cX8_expand 97 = .ok (.getfield 171, 3) := by decide +kernel
theorem dX8_expand_100 : decode cX8_expand 100 = .ok (.imul, 1) := by decide +kernel
theorem dX8_expand_101 : decode cX8_expand 101 = .ok (.iaload, 1) := by decide +kernel
theorem dX8_expand_102 : decode cX8_expand 102 = .ok (.istore 5, 2) := by decide +kernel
theorem dX8_expand_104 : decode cX8_expand 104 = .ok (.iload 5, 2) := by decide +kernel
theorem dX8_expand_106 : decode cX8_expand 106 = .ok (.aload_n 0, 1) := by decide +kernel
theorem dX8_expand_107 : decode cX8_expand 107 = .ok (.getfield 63, 3) := by decide +kernel
theorem dX8_expand_110 : decode cX8_expand 110 = .ok (.iload_n 1, 1) := by decide +kernel
theorem dX8_expand_111 : decode cX8_expand 111 = .ok (.aaload, 1) := by decide +kernel
theorem dX8_expand_112 : decode cX8_expand 112 = .ok (.iconst 2, 1) := by decide +kernel
theorem dX8_expand_113 : decode cX8_expand 113 = .ok (.aload_n 0, 1) := by decide +kernel
theorem dX8_expand_114 : decode cX8_expand 114 = .ok (.getfield 171, 3) := by decide +kernel
theorem dX8_expand_117 : decode cX8_expand 117 = .ok (.imul, 1) := by decide +kernel
theorem dX8_expand_118 : decode cX8_expand 118 = .ok (.iconst 1, 1) := by decide +kernel
theorem dX8_expand_119 : decode cX8_expand 119 = .ok (.iadd, 1) := by decide +kernel
theorem dX8_expand_120 : decode cX8_expand 120 = .ok (.iaload, 1) := by decide +kernel
theorem dX8_expand_121 : decode cX8_expand 121 = .ok (.if_icmp .ge 35, 3) := by decide +kernel
theorem dX8_expand_124 : decode cX8_expand 124 = .ok (.aload_n 0, 1) := by decide +kernel
theorem dX8_expand_125 : decode cX8_expand 125 = .ok (.getfield 171, 3) := by decide +kernel
theorem dX8_expand_128 : decode cX8_expand 128 = .ok (.aload_n 0, 1) := by decide +kernel
theorem dX8_expand_129 : decode cX8_expand 129 = .ok (.getfield 66, 3) := by decide +kernel
theorem dX8_expand_132 : decode cX8_expand 132 = .ok (.iload_n 1, 1) := by decide +kernel
theorem dX8_expand_133 : decode cX8_expand 133 = .ok (.iaload, 1) := by decide +kernel
theorem dX8_expand_134 : decode cX8_expand 134 = .ok (.if_icmp .ge 22, 3) := by decide +kernel
theorem dX8_expand_137 : decode cX8_expand 137 = .ok (.aload_n 0, 1) := by decide +kernel
theorem dX8_expand_138 : decode cX8_expand 138 = .ok (.aload_n 0, 1) := by decide +kernel
theorem dX8_expand_139 : decode cX8_expand 139 = .ok (.getfield 58, 3) := by decide +kernel
theorem dX8_expand_142 : decode cX8_expand 142 = .ok (.iload_n 1, 1) := by decide +kernel
theorem dX8_expand_143 : decode cX8_expand 143 = .ok (.aaload, 1) := by decide +kernel
theorem dX8_expand_144 : decode cX8_expand 144 = .ok (.iload 5, 2) := by decide +kernel
theorem dX8_expand_146 : decode cX8_expand 146 = .ok (.baload, 1) := by decide +kernel
theorem dX8_expand_147 : decode cX8_expand 147 = .ok (.invokevirtual 202, 3) := by decide +kernel
theorem dX8_expand_150 : decode cX8_expand 150 = .ok (.iinc 5 1, 3) := by decide +kernel
theorem dX8_expand_153 : decode cX8_expand 153 = .ok (.goto (-49), 3) := by decide +kernel
theorem dX8_expand_156 : decode cX8_expand 156 = .ok (.iload_n 2, 1) := by decide +kernel
theorem dX8_expand_157 : decode cX8_expand 157 = .ok (.iload 4, 2) := by decide +kernel
theorem dX8_expand_159 : decode cX8_expand 159 = .ok (.iconst 1, 1) := by decide +kernel
theorem dX8_expand_160 : decode cX8_expand 160 = .ok (.iadd, 1) := by decide +kernel
theorem dX8_expand_161 : decode cX8_expand 161 = .ok (.iadd, 1) := by decide +kernel
theorem dX8_expand_162 : decode cX8_expand 162 = .ok (.istore_n 2, 1) := by decide +kernel
theorem dX8_expand_163 : decode cX8_expand 163 = .ok (.goto 60, 3) := by decide +kernel
theorem dX8_expand_166 : decode cX8_expand 166 = .ok (.iload_n 1, 1) := by decide +kernel
theorem dX8_expand_167 : decode cX8_expand 167 = .ok (.ifCond .lt 48, 3) := by decide +kernel
theorem dX8_expand_170 : decode cX8_expand 170 = .ok (.iload_n 3, 1) := by decide +kernel
theorem dX8_expand_171 : decode cX8_expand 171 = .ok (.bipush 92, 2) := by decide +kernel
theorem dX8_expand_173 : decode cX8_expand 173 = .ok (.if_icmp .ne 42, 3) := by decide +kernel
theorem dX8_expand_176 : decode cX8_expand 176 = .ok (.iload_n 2, 1) := by decide +kernel
theorem dX8_expand_177 : decode cX8_expand 177 = .ok (.iconst 1, 1) := by decide +kernel
theorem dX8_expand_178 : decode cX8_expand 178 = .ok (.iadd, 1) := by decide +kernel
theorem dX8_expand_179 : decode cX8_expand 179 = .ok (.aload_n 0, 1) := by decide +kernel
theorem dX8_expand_180 : decode cX8_expand 180 = .ok (.getfield 196, 3) := by decide +kernel
theorem dX8_expand_183 : decode cX8_expand 183 = .ok (.if_icmp .ge 32, 3) := by decide +kernel
theorem dX8_expand_186 : decode cX8_expand 186 = .ok (.aload_n 0, 1) := by decide +kernel
theorem dX8_expand_187 : decode cX8_expand 187 = .ok (.getfield 14, 3) := by decide +kernel
theorem dX8_expand_190 : decode cX8_expand 190 = .ok (.iload_n 2, 1) := by decide +kernel
theorem dX8_expand_191 : decode cX8_expand 191 = .ok (.iconst 1, 1) := by decide +kernel
theorem dX8_expand_192 : decode cX8_expand 192 = .ok (.iadd, 1) := by decide +kernel
theorem dX8_expand_193 : decode cX8_expand 193 = .ok (.baload, 1) := by decide +kernel
theorem dX8_expand_194 : decode cX8_expand 194 = .ok (.bipush 64, 2) := by decide +kernel
theorem dX8_expand_196 : decode cX8_expand 196 = .ok (.if_icmp .ne 19, 3) := by decide +kernel
theorem dX8_expand_199 : decode cX8_expand 199 = .ok (.aload_n 0, 1) := by decide +kernel
theorem dX8_expand_200 : decode cX8_expand 200 = .ok (.aload_n 0, 1) := by decide +kernel
theorem dX8_expand_201 : decode cX8_expand 201 = .ok (.getfield 49, 3) := by decide +kernel
theorem dX8_expand_204 : decode cX8_expand 204 = .ok (.iload_n 1, 1) := by decide +kernel
theorem dX8_expand_205 : decode cX8_expand 205 = .ok (.iaload, 1) := by decide +kernel
theorem dX8_expand_206 : decode cX8_expand 206 = .ok (.invokevirtual 212, 3) := by decide +kernel
theorem dX8_expand_209 : decode cX8_expand 209 = .ok (.iinc 2 2, 3) := by decide +kernel
theorem dX8_expand_212 : decode cX8_expand 212 = .ok (.goto 11, 3) := by decide +kernel
theorem dX8_expand_215 : decode cX8_expand 215 = .ok (.aload_n 0, 1) := by decide +kernel
theorem dX8_expand_216 : decode cX8_expand 216 = .ok (.iload_n 3, 1) := by decide +kernel
theorem dX8_expand_217 : decode cX8_expand 217 = .ok (.invokevirtual 202, 3) := by decide +kernel
theorem dX8_expand_220 : decode cX8_expand 220 = .ok (.iinc 2 1, 3) := by decide +kernel
theorem dX8_expand_223 : decode cX8_expand 223 = .ok (.aload_n 0, 1) := by decide +kernel
theorem dX8_expand_224 : decode cX8_expand 224 = .ok (.getfield 199, 3) := by decide +kernel
theorem dX8_expand_227 : decode cX8_expand 227 = .ok (.sipush 1024, 3) := by decide +kernel
theorem dX8_expand_230 : decode cX8_expand 230 = .ok (.if_icmp .le 9, 3) := by decide +kernel
theorem dX8_expand_233 : decode cX8_expand 233 = .ok (.aload_n 0, 1) := by decide +kernel
theorem dX8_expand_234 : decode cX8_expand 234 = .ok (.iconst 5, 1) := by decide +kernel
theorem dX8_expand_235 : decode cX8_expand 235 = .ok (.invokevirtual 189, 3) := by decide +kernel
theorem dX8_expand_238 : decode cX8_expand 238 = .ok (.return_, 1) := by decide +kernel
theorem dX8_expand_239 : decode cX8_expand 239 = .ok (.goto (-203), 3) := by decide +kernel
theorem dX8_expand_242 : decode cX8_expand 242 = .ok (.return_, 1) := by decide +kernel
theorem dX8_token_0 : decode cX8_token 0 = .ok (.aload_n 0, 1) := by decide +kernel
theorem dX8_token_1 : decode cX8_token 1 = .ok (.getfield 90, 3) := by decide +kernel
theorem dX8_token_4 : decode cX8_token 4 = .ok (.aload_n 0, 1) := by decide +kernel
theorem dX8_token_5 : decode cX8_token 5 = .ok (.getfield 215, 3) := by decide +kernel
theorem dX8_token_8 : decode cX8_token 8 = .ok (.iload_n 1, 1) := by decide +kernel
theorem dX8_token_9 : decode cX8_token 9 = .ok (.iastore, 1) := by decide +kernel
theorem dX8_token_10 : decode cX8_token 10 = .ok (.aload_n 0, 1) := by decide +kernel
theorem dX8_token_11 : decode cX8_token 11 = .ok (.getfield 93, 3) := by decide +kernel
theorem dX8_token_14 : decode cX8_token 14 = .ok (.aload_n 0, 1) := by decide +kernel
theorem dX8_token_15 : decode cX8_token 15 = .ok (.getfield 215, 3) := by decide +kernel
theorem dX8_token_18 : decode cX8_token 18 = .ok (.iload_n 2, 1) := by decide +kernel
theorem dX8_token_19 : decode cX8_token 19 = .ok (.iastore, 1) := by decide +kernel
theorem dX8_token_20 : decode cX8_token 20 = .ok (.aload_n 0, 1) := by decide +kernel
theorem dX8_token_21 : decode cX8_token 21 = .ok (.getfield 96, 3) := by decide +kernel
theorem dX8_token_24 : decode cX8_token 24 = .ok (.aload_n 0, 1) := by decide +kernel
theorem dX8_token_25 : decode cX8_token 25 = .ok (.getfield 215, 3) := by decide +kernel
theorem dX8_token_28 : decode cX8_token 28 = .ok (.iload_n 3, 1) := by decide +kernel
theorem dX8_token_29 : decode cX8_token 29 = .ok (.iload_n 2, 1) := by decide +kernel
theorem dX8_token_30 : decode cX8_token 30 = .ok (.isub, 1) := by decide +kernel
theorem dX8_token_31 : decode cX8_token 31 = .ok (.iastore, 1) := by decide +kernel
theorem dX8_token_32 : decode cX8_token 32 = .ok (.aload_n 0, 1) := by decide +kernel
theorem dX8_token_33 : decode cX8_token 33 = .ok (.getfield 99, 3) := by decide +kernel
theorem dX8_token_36 : decode cX8_token 36 = .ok (.aload_n 0, 1) := by decide +kernel
theorem dX8_token_37 : decode cX8_token 37 = .ok (.getfield 215, 3) := by decide +kernel
theorem dX8_token_40 : decode cX8_token 40 = .ok (.lload 4, 2) := by decide +kernel
theorem dX8_token_42 : decode cX8_token 42 = .ok (.lastore, 1) := by decide +kernel
theorem dX8_token_43 : decode cX8_token 43 = .ok (.aload_n 0, 1) := by decide +kernel
theorem dX8_token_44 : decode cX8_token 44 = .ok (.dup, 1) := by decide +kernel
theorem dX8_token_45 : decode cX8_token 45 = .ok (.getfield 215, 3) := by decide +kernel
theorem dX8_token_48 : decode cX8_token 48 = .ok (.iconst 1, 1) := by decide +kernel
theorem dX8_token_49 : decode cX8_token 49 = .ok (.iadd, 1) := by decide +kernel
theorem dX8_token_50 : decode cX8_token 50 = .ok (.putfield 215, 3) := by decide +kernel
theorem dX8_token_53 : decode cX8_token 53 = .ok (.return_, 1) := by decide +kernel
theorem dX8_character_0 : decode cX8_character 0 = .ok (.iload_n 1, 1) := by decide +kernel
theorem dX8_character_1 : decode cX8_character 1 = .ok (.aload_n 0, 1) := by decide +kernel
theorem dX8_character_2 : decode cX8_character 2 = .ok (.getfield 199, 3) := by decide +kernel
theorem dX8_character_5 : decode cX8_character 5 = .ok (.if_icmp .ge 35, 3) := by decide +kernel
theorem dX8_character_8 : decode cX8_character 8 = .ok (.aload_n 0, 1) := by decide +kernel
theorem dX8_character_9 : decode cX8_character 9 = .ok (.getfield 21, 3) := by decide +kernel
theorem dX8_character_12 : decode cX8_character 12 = .ok (.iload_n 1, 1) := by decide +kernel
theorem dX8_character_13 : decode cX8_character 13 = .ok (.baload, 1) := by decide +kernel
theorem dX8_character_14 : decode cX8_character 14 = .ok (.iload_n 2, 1) := by decide +kernel
theorem dX8_character_15 : decode cX8_character 15 = .ok (.if_icmp .eq 25, 3) := by decide +kernel
theorem dX8_character_18 : decode cX8_character 18 = .ok (.aload_n 0, 1) := by decide +kernel
theorem dX8_character_19 : decode cX8_character 19 = .ok (.getfield 21, 3) := by decide +kernel
theorem dX8_character_22 : decode cX8_character 22 = .ok (.iload_n 1, 1) := by decide +kernel
theorem dX8_character_23 : decode cX8_character 23 = .ok (.baload, 1) := by decide +kernel
theorem dX8_character_24 : decode cX8_character 24 = .ok (.bipush 32, 2) := by decide +kernel
theorem dX8_character_26 : decode cX8_character 26 = .ok (.if_icmp .lt 14, 3) := by decide +kernel
theorem dX8_character_29 : decode cX8_character 29 = .ok (.aload_n 0, 1) := by decide +kernel
theorem dX8_character_30 : decode cX8_character 30 = .ok (.getfield 21, 3) := by decide +kernel
theorem dX8_character_33 : decode cX8_character 33 = .ok (.iload_n 1, 1) := by decide +kernel
theorem dX8_character_34 : decode cX8_character 34 = .ok (.baload, 1) := by decide +kernel
theorem dX8_character_35 : decode cX8_character 35 = .ok (.bipush 126, 2) := by decide +kernel
theorem dX8_character_37 : decode cX8_character 37 = .ok (.if_icmp .le 5, 3) := by decide +kernel
theorem dX8_character_40 : decode cX8_character 40 = .ok (.iconst (-1), 1) := by decide +kernel
theorem dX8_character_41 : decode cX8_character 41 = .ok (.ireturn, 1) := by decide +kernel
theorem dX8_character_42 : decode cX8_character 42 = .ok (.aload_n 0, 1) := by decide +kernel
theorem dX8_character_43 : decode cX8_character 43 = .ok (.aload_n 0, 1) := by decide +kernel
theorem dX8_character_44 : decode cX8_character 44 = .ok (.getfield 21, 3) := by decide +kernel
theorem dX8_character_47 : decode cX8_character 47 = .ok (.iload_n 1, 1) := by decide +kernel
theorem dX8_character_48 : decode cX8_character 48 = .ok (.baload, 1) := by decide +kernel
theorem dX8_character_49 : decode cX8_character 49 = .ok (.putfield 171, 3) := by decide +kernel
theorem dX8_character_52 : decode cX8_character 52 = .ok (.aload_n 0, 1) := by decide +kernel
theorem dX8_character_53 : decode cX8_character 53 = .ok (.getfield 21, 3) := by decide +kernel
theorem dX8_character_56 : decode cX8_character 56 = .ok (.iload_n 1, 1) := by decide +kernel
theorem dX8_character_57 : decode cX8_character 57 = .ok (.baload, 1) := by decide +kernel
theorem dX8_character_58 : decode cX8_character 58 = .ok (.bipush 92, 2) := by decide +kernel
theorem dX8_character_60 : decode cX8_character 60 = .ok (.if_icmp .eq 7, 3) := by decide +kernel
theorem dX8_character_63 : decode cX8_character 63 = .ok (.iload_n 1, 1) := by decide +kernel
theorem dX8_character_64 : decode cX8_character 64 = .ok (.iconst 1, 1) := by decide +kernel
theorem dX8_character_65 : decode cX8_character 65 = .ok (.iadd, 1) := by decide +kernel
theorem dX8_character_66 : decode cX8_character 66 = .ok (.ireturn, 1) := by decide +kernel
theorem dX8_character_67 : decode cX8_character 67 = .ok (.iload_n 1, 1) := by decide +kernel
theorem dX8_character_68 : decode cX8_character 68 = .ok (.iconst 1, 1) := by decide +kernel
theorem dX8_character_69 : decode cX8_character 69 = .ok (.iadd, 1) := by decide +kernel
theorem dX8_character_70 : decode cX8_character 70 = .ok (.aload_n 0, 1) := by decide +kernel
theorem dX8_character_71 : decode cX8_character 71 = .ok (.getfield 199, 3) := by decide +kernel
theorem dX8_character_74 : decode cX8_character 74 = .ok (.if_icmp .ge 29, 3) := by decide +kernel
theorem dX8_character_77 : decode cX8_character 77 = .ok (.aload_n 0, 1) := by decide +kernel
theorem dX8_character_78 : decode cX8_character 78 = .ok (.getfield 21, 3) := by decide +kernel
theorem dX8_character_81 : decode cX8_character 81 = .ok (.iload_n 1, 1) := by decide +kernel
theorem dX8_character_82 : decode cX8_character 82 = .ok (.iconst 1, 1) := by decide +kernel
theorem dX8_character_83 : decode cX8_character 83 = .ok (.iadd, 1) := by decide +kernel
theorem dX8_character_84 : decode cX8_character 84 = .ok (.baload, 1) := by decide +kernel
theorem dX8_character_85 : decode cX8_character 85 = .ok (.bipush 32, 2) := by decide +kernel
theorem dX8_character_87 : decode cX8_character 87 = .ok (.if_icmp .lt 16, 3) := by decide +kernel
theorem dX8_character_90 : decode cX8_character 90 = .ok (.aload_n 0, 1) := by decide +kernel
theorem dX8_character_91 : decode cX8_character 91 = .ok (.getfield 21, 3) := by decide +kernel
theorem dX8_character_94 : decode cX8_character 94 = .ok (.iload_n 1, 1) := by decide +kernel
theorem dX8_character_95 : decode cX8_character 95 = .ok (.iconst 1, 1) := by decide +kernel
theorem dX8_character_96 : decode cX8_character 96 = .ok (.iadd, 1) := by decide +kernel
theorem dX8_character_97 : decode cX8_character 97 = .ok (.baload, 1) := by decide +kernel
theorem dX8_character_98 : decode cX8_character 98 = .ok (.bipush 126, 2) := by decide +kernel
theorem dX8_character_100 : decode cX8_character 100 = .ok (.if_icmp .le 5, 3) := by decide +kernel
theorem dX8_character_103 : decode cX8_character 103 = .ok (.iconst (-1), 1) := by decide +kernel
theorem dX8_character_104 : decode cX8_character 104 = .ok (.ireturn, 1) := by decide +kernel
theorem dX8_character_105 : decode cX8_character 105 = .ok (.aload_n 0, 1) := by decide +kernel
theorem dX8_character_106 : decode cX8_character 106 = .ok (.getfield 21, 3) := by decide +kernel
theorem dX8_character_109 : decode cX8_character 109 = .ok (.iload_n 1, 1) := by decide +kernel
theorem dX8_character_110 : decode cX8_character 110 = .ok (.iconst 1, 1) := by decide +kernel
theorem dX8_character_111 : decode cX8_character 111 = .ok (.iadd, 1) := by decide +kernel
theorem dX8_character_112 : decode cX8_character 112 = .ok (.baload, 1) := by decide +kernel
theorem dX8_character_113 : decode cX8_character 113 = .ok (.istore_n 3, 1) := by decide +kernel
theorem dX8_character_114 : decode cX8_character 114 = .ok (.aload_n 0, 1) := by decide +kernel
theorem dX8_character_115 : decode cX8_character 115 = .ok (.iload_n 3, 1) := by decide +kernel
theorem dX8_character_116 : decode cX8_character 116 = .ok (.bipush 110, 2) := by decide +kernel
theorem dX8_character_118 : decode cX8_character 118 = .ok (.if_icmp .ne 8, 3) := by decide +kernel
theorem dX8_character_121 : decode cX8_character 121 = .ok (.bipush 10, 2) := by decide +kernel
theorem dX8_character_123 : decode cX8_character 123 = .ok (.goto 25, 3) := by decide +kernel
theorem dX8_character_126 : decode cX8_character 126 = .ok (.iload_n 3, 1) := by decide +kernel
theorem dX8_character_127 : decode cX8_character 127 = .ok (.bipush 116, 2) := by decide +kernel
theorem dX8_character_129 : decode cX8_character 129 = .ok (.if_icmp .ne 8, 3) := by decide +kernel
theorem dX8_character_132 : decode cX8_character 132 = .ok (.bipush 9, 2) := by decide +kernel
theorem dX8_character_134 : decode cX8_character 134 = .ok (.goto 14, 3) := by decide +kernel
theorem dX8_character_137 : decode cX8_character 137 = .ok (.iload_n 3, 1) := by decide +kernel
theorem dX8_character_138 : decode cX8_character 138 = .ok (.bipush 48, 2) := by decide +kernel
theorem dX8_character_140 : decode cX8_character 140 = .ok (.if_icmp .ne 7, 3) := by decide +kernel
theorem dX8_character_143 : decode cX8_character 143 = .ok (.iconst 0, 1) := by decide +kernel
theorem dX8_character_144 : decode cX8_character 144 = .ok (.goto 4, 3) := by decide +kernel
theorem dX8_character_147 : decode cX8_character 147 = .ok (.iload_n 3, 1) := by decide +kernel
theorem dX8_character_148 : decode cX8_character 148 = .ok (.putfield 171, 3) := by decide +kernel
theorem dX8_character_151 : decode cX8_character 151 = .ok (.iload_n 1, 1) := by decide +kernel
theorem dX8_character_152 : decode cX8_character 152 = .ok (.iconst 2, 1) := by decide +kernel
theorem dX8_character_153 : decode cX8_character 153 = .ok (.iadd, 1) := by decide +kernel
theorem dX8_character_154 : decode cX8_character 154 = .ok (.ireturn, 1) := by decide +kernel
theorem dX8_numberToken_0 : decode cX8_numberToken 0 = .ok (.lconst 0, 1) := by decide +kernel
theorem dX8_numberToken_1 : decode cX8_numberToken 1 = .ok (.lstore_n 2, 1) := by decide +kernel
theorem dX8_numberToken_2 : decode cX8_numberToken 2 = .ok (.iload_n 1, 1) := by decide +kernel
theorem dX8_numberToken_3 : decode cX8_numberToken 3 = .ok (.istore 4, 2) := by decide +kernel
theorem dX8_numberToken_5 : decode cX8_numberToken 5 = .ok (.aload_n 0, 1) := by decide +kernel
theorem dX8_numberToken_6 : decode cX8_numberToken 6 = .ok (.getfield 21, 3) := by decide +kernel
theorem dX8_numberToken_9 : decode cX8_numberToken 9 = .ok (.iload_n 1, 1) := by decide +kernel
theorem dX8_numberToken_10 : decode cX8_numberToken 10 = .ok (.baload, 1) := by decide +kernel
theorem dX8_numberToken_11 : decode cX8_numberToken 11 = .ok (.bipush 48, 2) := by decide +kernel
theorem dX8_numberToken_13 : decode cX8_numberToken 13 = .ok (.if_icmp .ne 31, 3) := by decide +kernel
theorem dX8_numberToken_16 : decode cX8_numberToken 16 = .ok (.iload_n 1, 1) := by decide +kernel
theorem dX8_numberToken_17 : decode cX8_numberToken 17 = .ok (.iconst 1, 1) := by decide +kernel
theorem dX8_numberToken_18 : decode cX8_numberToken 18 = .ok (.iadd, 1) := by decide +kernel
theorem dX8_numberToken_19 : decode cX8_numberToken 19 = .ok (.aload_n 0, 1) := by decide +kernel
theorem dX8_numberToken_20 : decode cX8_numberToken 20 = .ok (.getfield 199, 3) := by decide +kernel
theorem dX8_numberToken_23 : decode cX8_numberToken 23 = .ok (.if_icmp .ge 21, 3) := by decide +kernel
theorem dX8_numberToken_26 : decode cX8_numberToken 26 = .ok (.aload_n 0, 1) := by decide +kernel
theorem dX8_numberToken_27 : decode cX8_numberToken 27 = .ok (.getfield 21, 3) := by decide +kernel
theorem dX8_numberToken_30 : decode cX8_numberToken 30 = .ok (.iload_n 1, 1) := by decide +kernel
theorem dX8_numberToken_31 : decode cX8_numberToken 31 = .ok (.iconst 1, 1) := by decide +kernel
theorem dX8_numberToken_32 : decode cX8_numberToken 32 = .ok (.iadd, 1) := by decide +kernel
theorem dX8_numberToken_33 : decode cX8_numberToken 33 = .ok (.baload, 1) := by decide +kernel
theorem dX8_numberToken_34 : decode cX8_numberToken 34 = .ok (.bipush 120, 2) := by decide +kernel
theorem dX8_numberToken_36 : decode cX8_numberToken 36 = .ok (.if_icmp .ne 8, 3) := by decide +kernel
theorem dX8_numberToken_39 : decode cX8_numberToken 39 = .ok (.bipush 16, 2) := by decide +kernel
theorem dX8_numberToken_41 : decode cX8_numberToken 41 = .ok (.goto 43, 3) := by decide +kernel
theorem dX8_numberToken_44 : decode cX8_numberToken 44 = .ok (.aload_n 0, 1) := by decide +kernel
theorem dX8_numberToken_45 : decode cX8_numberToken 45 = .ok (.getfield 21, 3) := by decide +kernel
theorem dX8_numberToken_48 : decode cX8_numberToken 48 = .ok (.iload_n 1, 1) := by decide +kernel
theorem dX8_numberToken_49 : decode cX8_numberToken 49 = .ok (.baload, 1) := by decide +kernel
theorem dX8_numberToken_50 : decode cX8_numberToken 50 = .ok (.bipush 48, 2) := by decide +kernel
theorem dX8_numberToken_52 : decode cX8_numberToken 52 = .ok (.if_icmp .ne 30, 3) := by decide +kernel
theorem dX8_numberToken_55 : decode cX8_numberToken 55 = .ok (.iload_n 1, 1) := by decide +kernel
theorem dX8_numberToken_56 : decode cX8_numberToken 56 = .ok (.iconst 1, 1) := by decide +kernel
theorem dX8_numberToken_57 : decode cX8_numberToken 57 = .ok (.iadd, 1) := by decide +kernel
theorem dX8_numberToken_58 : decode cX8_numberToken 58 = .ok (.aload_n 0, 1) := by decide +kernel
theorem dX8_numberToken_59 : decode cX8_numberToken 59 = .ok (.getfield 199, 3) := by decide +kernel
theorem dX8_numberToken_62 : decode cX8_numberToken 62 = .ok (.if_icmp .ge 20, 3) := by decide +kernel
theorem dX8_numberToken_65 : decode cX8_numberToken 65 = .ok (.aload_n 0, 1) := by decide +kernel
theorem dX8_numberToken_66 : decode cX8_numberToken 66 = .ok (.getfield 21, 3) := by decide +kernel
theorem dX8_numberToken_69 : decode cX8_numberToken 69 = .ok (.iload_n 1, 1) := by decide +kernel
theorem dX8_numberToken_70 : decode cX8_numberToken 70 = .ok (.iconst 1, 1) := by decide +kernel
theorem dX8_numberToken_71 : decode cX8_numberToken 71 = .ok (.iadd, 1) := by decide +kernel
theorem dX8_numberToken_72 : decode cX8_numberToken 72 = .ok (.baload, 1) := by decide +kernel
theorem dX8_numberToken_73 : decode cX8_numberToken 73 = .ok (.bipush 98, 2) := by decide +kernel
theorem dX8_numberToken_75 : decode cX8_numberToken 75 = .ok (.if_icmp .ne 7, 3) := by decide +kernel
theorem dX8_numberToken_78 : decode cX8_numberToken 78 = .ok (.iconst 2, 1) := by decide +kernel
theorem dX8_numberToken_79 : decode cX8_numberToken 79 = .ok (.goto 5, 3) := by decide +kernel
theorem dX8_numberToken_82 : decode cX8_numberToken 82 = .ok (.bipush 10, 2) := by decide +kernel
theorem dX8_numberToken_84 : decode cX8_numberToken 84 = .ok (.istore 5, 2) := by decide +kernel
theorem dX8_numberToken_86 : decode cX8_numberToken 86 = .ok (.iload 5, 2) := by decide +kernel
theorem dX8_numberToken_88 : decode cX8_numberToken 88 = .ok (.bipush 10, 2) := by decide +kernel
theorem dX8_numberToken_90 : decode cX8_numberToken 90 = .ok (.if_icmp .ne 7, 3) := by decide +kernel
theorem dX8_numberToken_93 : decode cX8_numberToken 93 = .ok (.iload_n 1, 1) := by decide +kernel
theorem dX8_numberToken_94 : decode cX8_numberToken 94 = .ok (.goto 6, 3) := by decide +kernel
theorem dX8_numberToken_97 : decode cX8_numberToken 97 = .ok (.iload_n 1, 1) := by decide +kernel
theorem dX8_numberToken_98 : decode cX8_numberToken 98 = .ok (.iconst 2, 1) := by decide +kernel
theorem dX8_numberToken_99 : decode cX8_numberToken 99 = .ok (.iadd, 1) := by decide +kernel
theorem dX8_numberToken_100 : decode cX8_numberToken 100 = .ok (.istore 6, 2) := by decide +kernel
theorem dX8_numberToken_102 : decode cX8_numberToken 102 = .ok (.iload 6, 2) := by decide +kernel
theorem dX8_numberToken_104 : decode cX8_numberToken 104 = .ok (.istore 4, 2) := by decide +kernel
theorem dX8_numberToken_106 : decode cX8_numberToken 106 = .ok (.iload 4, 2) := by decide +kernel
theorem dX8_numberToken_108 : decode cX8_numberToken 108 = .ok (.aload_n 0, 1) := by decide +kernel
theorem dX8_numberToken_109 : decode cX8_numberToken 109 = .ok (.getfield 199, 3) := by decide +kernel
theorem dX8_numberToken_112 : decode cX8_numberToken 112 = .ok (.if_icmp .ge 132, 3) := by decide +kernel
theorem dX8_numberToken_115 : decode cX8_numberToken 115 = .ok (.aload_n 0, 1) := by decide +kernel
theorem dX8_numberToken_116 : decode cX8_numberToken 116 = .ok (.getfield 21, 3) := by decide +kernel
theorem dX8_numberToken_119 : decode cX8_numberToken 119 = .ok (.iload 4, 2) := by decide +kernel
theorem dX8_numberToken_121 : decode cX8_numberToken 121 = .ok (.baload, 1) := by decide +kernel
theorem dX8_numberToken_122 : decode cX8_numberToken 122 = .ok (.invokestatic 218, 3) := by decide +kernel
theorem dX8_numberToken_125 : decode cX8_numberToken 125 = .ok (.iload 5, 2) := by decide +kernel
theorem dX8_numberToken_127 : decode cX8_numberToken 127 = .ok (.if_icmp .ge 117, 3) := by decide +kernel
theorem dX8_numberToken_130 : decode cX8_numberToken 130 = .ok (.aload_n 0, 1) := by decide +kernel
theorem dX8_numberToken_131 : decode cX8_numberToken 131 = .ok (.getfield 21, 3) := by decide +kernel
theorem dX8_numberToken_134 : decode cX8_numberToken 134 = .ok (.iload 4, 2) := by decide +kernel
theorem dX8_numberToken_136 : decode cX8_numberToken 136 = .ok (.baload, 1) := by decide +kernel
theorem dX8_numberToken_137 : decode cX8_numberToken 137 = .ok (.invokestatic 218, 3) := by decide +kernel
theorem dX8_numberToken_140 : decode cX8_numberToken 140 = .ok (.istore 7, 2) := by decide +kernel
theorem dX8_numberToken_142 : decode cX8_numberToken 142 = .ok (.iload 5, 2) := by decide +kernel
theorem dX8_numberToken_144 : decode cX8_numberToken 144 = .ok (.bipush 10, 2) := by decide +kernel
theorem dX8_numberToken_146 : decode cX8_numberToken 146 = .ok (.if_icmp .ne 35, 3) := by decide +kernel
theorem dX8_numberToken_149 : decode cX8_numberToken 149 = .ok (.lload_n 2, 1) := by decide +kernel
theorem dX8_numberToken_150 : decode cX8_numberToken 150 = .ok (.ldc2_w 221, 3) := by decide +kernel
theorem dX8_numberToken_153 : decode cX8_numberToken 153 = .ok (.invokestatic 223, 3) := by decide +kernel
theorem dX8_numberToken_156 : decode cX8_numberToken 156 = .ok (.ifCond .gt 17, 3) := by decide +kernel
theorem dX8_numberToken_159 : decode cX8_numberToken 159 = .ok (.lload_n 2, 1) := by decide +kernel
theorem dX8_numberToken_160 : decode cX8_numberToken 160 = .ok (.ldc2_w 221, 3) := by decide +kernel
theorem dX8_numberToken_163 : decode cX8_numberToken 163 = .ok (.lcmp, 1) := by decide +kernel
theorem dX8_numberToken_164 : decode cX8_numberToken 164 = .ok (.ifCond .ne 13, 3) := by decide +kernel
theorem dX8_numberToken_167 : decode cX8_numberToken 167 = .ok (.iload 7, 2) := by decide +kernel
theorem dX8_numberToken_169 : decode cX8_numberToken 169 = .ok (.iconst 5, 1) := by decide +kernel
theorem dX8_numberToken_170 : decode cX8_numberToken 170 = .ok (.if_icmp .le 7, 3) := by decide +kernel
theorem dX8_numberToken_173 : decode cX8_numberToken 173 = .ok (.iconst 1, 1) := by decide +kernel
theorem dX8_numberToken_174 : decode cX8_numberToken 174 = .ok (.goto 45, 3) := by decide +kernel
theorem dX8_numberToken_177 : decode cX8_numberToken 177 = .ok (.iconst 0, 1) := by decide +kernel
theorem dX8_numberToken_178 : decode cX8_numberToken 178 = .ok (.goto 41, 3) := by decide +kernel
theorem dX8_numberToken_181 : decode cX8_numberToken 181 = .ok (.iload 5, 2) := by decide +kernel
theorem dX8_numberToken_183 : decode cX8_numberToken 183 = .ok (.bipush 16, 2) := by decide +kernel
theorem dX8_numberToken_185 : decode cX8_numberToken 185 = .ok (.if_icmp .ne 20, 3) := by decide +kernel
theorem dX8_numberToken_188 : decode cX8_numberToken 188 = .ok (.lload_n 2, 1) := by decide +kernel
theorem dX8_numberToken_189 : decode cX8_numberToken 189 = .ok (.bipush 60, 2) := by decide +kernel
theorem dX8_numberToken_191 : decode cX8_numberToken 191 = .ok (.lushr, 1) := by decide +kernel
theorem dX8_numberToken_192 : decode cX8_numberToken 192 = .ok (.lconst 0, 1) := by decide +kernel
theorem dX8_numberToken_193 : decode cX8_numberToken 193 = .ok (.lcmp, 1) := by decide +kernel
theorem dX8_numberToken_194 : decode cX8_numberToken 194 = .ok (.ifCond .eq 7, 3) := by decide +kernel
theorem dX8_numberToken_197 : decode cX8_numberToken 197 = .ok (.iconst 1, 1) := by decide +kernel
theorem dX8_numberToken_198 : decode cX8_numberToken 198 = .ok (.goto 21, 3) := by decide +kernel
theorem dX8_numberToken_201 : decode cX8_numberToken 201 = .ok (.iconst 0, 1) := by decide +kernel
theorem dX8_numberToken_202 : decode cX8_numberToken 202 = .ok (.goto 17, 3) := by decide +kernel
theorem dX8_numberToken_205 : decode cX8_numberToken 205 = .ok (.lload_n 2, 1) := by decide +kernel
theorem dX8_numberToken_206 : decode cX8_numberToken 206 = .ok (.bipush 63, 2) := by decide +kernel
theorem dX8_numberToken_208 : decode cX8_numberToken 208 = .ok (.lushr, 1) := by decide +kernel
theorem dX8_numberToken_209 : decode cX8_numberToken 209 = .ok (.lconst 0, 1) := by decide +kernel
theorem dX8_numberToken_210 : decode cX8_numberToken 210 = .ok (.lcmp, 1) := by decide +kernel
theorem dX8_numberToken_211 : decode cX8_numberToken 211 = .ok (.ifCond .eq 7, 3) := by decide +kernel
theorem dX8_numberToken_214 : decode cX8_numberToken 214 = .ok (.iconst 1, 1) := by decide +kernel
theorem dX8_numberToken_215 : decode cX8_numberToken 215 = .ok (.goto 4, 3) := by decide +kernel
theorem dX8_numberToken_218 : decode cX8_numberToken 218 = .ok (.iconst 0, 1) := by decide +kernel
theorem dX8_numberToken_219 : decode cX8_numberToken 219 = .ok (.istore 8, 2) := by decide +kernel
theorem dX8_numberToken_221 : decode cX8_numberToken 221 = .ok (.iload 8, 2) := by decide +kernel
theorem dX8_numberToken_223 : decode cX8_numberToken 223 = .ok (.ifCond .eq 5, 3) := by decide +kernel
theorem dX8_numberToken_226 : decode cX8_numberToken 226 = .ok (.iconst (-1), 1) := by decide +kernel
theorem dX8_numberToken_227 : decode cX8_numberToken 227 = .ok (.ireturn, 1) := by decide +kernel
theorem dX8_numberToken_228 : decode cX8_numberToken 228 = .ok (.lload_n 2, 1) := by decide +kernel
theorem dX8_numberToken_229 : decode cX8_numberToken 229 = .ok (.iload 5, 2) := by decide +kernel
theorem dX8_numberToken_231 : decode cX8_numberToken 231 = .ok (.i2l, 1) := by decide +kernel
theorem dX8_numberToken_232 : decode cX8_numberToken 232 = .ok (.lmul, 1) := by decide +kernel
theorem dX8_numberToken_233 : decode cX8_numberToken 233 = .ok (.iload 7, 2) := by decide +kernel
theorem dX8_numberToken_235 : decode cX8_numberToken 235 = .ok (.i2l, 1) := by decide +kernel
theorem dX8_numberToken_236 : decode cX8_numberToken 236 = .ok (.ladd, 1) := by decide +kernel
theorem dX8_numberToken_237 : decode cX8_numberToken 237 = .ok (.lstore_n 2, 1) := by decide +kernel
theorem dX8_numberToken_238 : decode cX8_numberToken 238 = .ok (.iinc 4 1, 3) := by decide +kernel
theorem dX8_numberToken_241 : decode cX8_numberToken 241 = .ok (.goto (-135), 3) := by decide +kernel
theorem dX8_numberToken_244 : decode cX8_numberToken 244 = .ok (.iload 4, 2) := by decide +kernel
theorem dX8_numberToken_246 : decode cX8_numberToken 246 = .ok (.iload 6, 2) := by decide +kernel
theorem dX8_numberToken_248 : decode cX8_numberToken 248 = .ok (.if_icmp .eq 25, 3) := by decide +kernel
theorem dX8_numberToken_251 : decode cX8_numberToken 251 = .ok (.iload 4, 2) := by decide +kernel
theorem dX8_numberToken_253 : decode cX8_numberToken 253 = .ok (.aload_n 0, 1) := by decide +kernel
theorem dX8_numberToken_254 : decode cX8_numberToken 254 = .ok (.getfield 199, 3) := by decide +kernel
theorem dX8_numberToken_257 : decode cX8_numberToken 257 = .ok (.if_icmp .ge 18, 3) := by decide +kernel
theorem dX8_numberToken_260 : decode cX8_numberToken 260 = .ok (.aload_n 0, 1) := by decide +kernel
theorem dX8_numberToken_261 : decode cX8_numberToken 261 = .ok (.getfield 21, 3) := by decide +kernel
theorem dX8_numberToken_264 : decode cX8_numberToken 264 = .ok (.iload 4, 2) := by decide +kernel
theorem dX8_numberToken_266 : decode cX8_numberToken 266 = .ok (.baload, 1) := by decide +kernel
theorem dX8_numberToken_267 : decode cX8_numberToken 267 = .ok (.invokestatic 117, 3) := by decide +kernel
theorem dX8_numberToken_270 : decode cX8_numberToken 270 = .ok (.ifCond .eq 5, 3) := by decide +kernel
theorem dX8_numberToken_273 : decode cX8_numberToken 273 = .ok (.iconst (-1), 1) := by decide +kernel
theorem dX8_numberToken_274 : decode cX8_numberToken 274 = .ok (.ireturn, 1) := by decide +kernel
theorem dX8_numberToken_275 : decode cX8_numberToken 275 = .ok (.aload_n 0, 1) := by decide +kernel
theorem dX8_numberToken_276 : decode cX8_numberToken 276 = .ok (.iconst 2, 1) := by decide +kernel
theorem dX8_numberToken_277 : decode cX8_numberToken 277 = .ok (.iload_n 1, 1) := by decide +kernel
theorem dX8_numberToken_278 : decode cX8_numberToken 278 = .ok (.iload 4, 2) := by decide +kernel
theorem dX8_numberToken_280 : decode cX8_numberToken 280 = .ok (.lload_n 2, 1) := by decide +kernel
theorem dX8_numberToken_281 : decode cX8_numberToken 281 = .ok (.invokevirtual 229, 3) := by decide +kernel
theorem dX8_numberToken_284 : decode cX8_numberToken 284 = .ok (.iload 4, 2) := by decide +kernel
theorem dX8_numberToken_286 : decode cX8_numberToken 286 = .ok (.ireturn, 1) := by decide +kernel
theorem dX8_readToken_0 : decode cX8_readToken 0 = .ok (.aload_n 0, 1) := by decide +kernel
theorem dX8_readToken_1 : decode cX8_readToken 1 = .ok (.getfield 21, 3) := by decide +kernel
theorem dX8_readToken_4 : decode cX8_readToken 4 = .ok (.iload_n 1, 1) := by decide +kernel
theorem dX8_readToken_5 : decode cX8_readToken 5 = .ok (.baload, 1) := by decide +kernel
theorem dX8_readToken_6 : decode cX8_readToken 6 = .ok (.istore_n 2, 1) := by decide +kernel
theorem dX8_readToken_7 : decode cX8_readToken 7 = .ok (.iload_n 2, 1) := by decide +kernel
theorem dX8_readToken_8 : decode cX8_readToken 8 = .ok (.invokestatic 114, 3) := by decide +kernel
theorem dX8_readToken_11 : decode cX8_readToken 11 = .ok (.ifCond .eq 9, 3) := by decide +kernel
theorem dX8_readToken_14 : decode cX8_readToken 14 = .ok (.aload_n 0, 1) := by decide +kernel
theorem dX8_readToken_15 : decode cX8_readToken 15 = .ok (.iload_n 1, 1) := by decide +kernel
theorem dX8_readToken_16 : decode cX8_readToken 16 = .ok (.invokevirtual 232, 3) := by decide +kernel
theorem dX8_readToken_19 : decode cX8_readToken 19 = .ok (.ireturn, 1) := by decide +kernel
theorem dX8_readToken_20 : decode cX8_readToken 20 = .ok (.iload_n 2, 1) := by decide +kernel
theorem dX8_readToken_21 : decode cX8_readToken 21 = .ok (.invokestatic 110, 3) := by decide +kernel
theorem dX8_readToken_24 : decode cX8_readToken 24 = .ok (.ifCond .eq 61, 3) := by decide +kernel
theorem dX8_readToken_27 : decode cX8_readToken 27 = .ok (.iload_n 1, 1) := by decide +kernel
theorem dX8_readToken_28 : decode cX8_readToken 28 = .ok (.istore_n 3, 1) := by decide +kernel
theorem dX8_readToken_29 : decode cX8_readToken 29 = .ok (.iload_n 3, 1) := by decide +kernel
theorem dX8_readToken_30 : decode cX8_readToken 30 = .ok (.aload_n 0, 1) := by decide +kernel
theorem dX8_readToken_31 : decode cX8_readToken 31 = .ok (.getfield 199, 3) := by decide +kernel
theorem dX8_readToken_34 : decode cX8_readToken 34 = .ok (.if_icmp .ge 21, 3) := by decide +kernel
theorem dX8_readToken_37 : decode cX8_readToken 37 = .ok (.aload_n 0, 1) := by decide +kernel
theorem dX8_readToken_38 : decode cX8_readToken 38 = .ok (.getfield 21, 3) := by decide +kernel
theorem dX8_readToken_41 : decode cX8_readToken 41 = .ok (.iload_n 3, 1) := by decide +kernel
theorem dX8_readToken_42 : decode cX8_readToken 42 = .ok (.baload, 1) := by decide +kernel
theorem dX8_readToken_43 : decode cX8_readToken 43 = .ok (.invokestatic 117, 3) := by decide +kernel
theorem dX8_readToken_46 : decode cX8_readToken 46 = .ok (.ifCond .eq 9, 3) := by decide +kernel
theorem dX8_readToken_49 : decode cX8_readToken 49 = .ok (.iinc 3 1, 3) := by decide +kernel
theorem dX8_readToken_52 : decode cX8_readToken 52 = .ok (.goto (-23), 3) := by decide +kernel
theorem dX8_readToken_55 : decode cX8_readToken 55 = .ok (.aload_n 0, 1) := by decide +kernel
theorem dX8_readToken_56 : decode cX8_readToken 56 = .ok (.iconst 1, 1) := by decide +kernel
theorem dX8_readToken_57 : decode cX8_readToken 57 = .ok (.iload_n 1, 1) := by decide +kernel
theorem dX8_readToken_58 : decode cX8_readToken 58 = .ok (.iload_n 3, 1) := by decide +kernel
theorem dX8_readToken_59 : decode cX8_readToken 59 = .ok (.aload_n 0, 1) := by decide +kernel
theorem dX8_readToken_60 : decode cX8_readToken 60 = .ok (.getfield 21, 3) := by decide +kernel
theorem dX8_readToken_63 : decode cX8_readToken 63 = .ok (.iload_n 1, 1) := by decide +kernel
theorem dX8_readToken_64 : decode cX8_readToken 64 = .ok (.iload_n 3, 1) := by decide +kernel
theorem dX8_readToken_65 : decode cX8_readToken 65 = .ok (.invokestatic 152, 3) := by decide +kernel
theorem dX8_readToken_68 : decode cX8_readToken 68 = .ok (.invokevirtual 229, 3) := by decide +kernel
theorem dX8_readToken_71 : decode cX8_readToken 71 = .ok (.iload_n 3, 1) := by decide +kernel
theorem dX8_readToken_72 : decode cX8_readToken 72 = .ok (.iload_n 1, 1) := by decide +kernel
theorem dX8_readToken_73 : decode cX8_readToken 73 = .ok (.isub, 1) := by decide +kernel
theorem dX8_readToken_74 : decode cX8_readToken 74 = .ok (.bipush 63, 2) := by decide +kernel
theorem dX8_readToken_76 : decode cX8_readToken 76 = .ok (.if_icmp .le 7, 3) := by decide +kernel
theorem dX8_readToken_79 : decode cX8_readToken 79 = .ok (.iconst (-1), 1) := by decide +kernel
theorem dX8_readToken_80 : decode cX8_readToken 80 = .ok (.goto 4, 3) := by decide +kernel
theorem dX8_readToken_83 : decode cX8_readToken 83 = .ok (.iload_n 3, 1) := by decide +kernel
theorem dX8_readToken_84 : decode cX8_readToken 84 = .ok (.ireturn, 1) := by decide +kernel
theorem dX8_readToken_85 : decode cX8_readToken 85 = .ok (.iload_n 2, 1) := by decide +kernel
theorem dX8_readToken_86 : decode cX8_readToken 86 = .ok (.bipush 39, 2) := by decide +kernel
theorem dX8_readToken_88 : decode cX8_readToken 88 = .ok (.if_icmp .ne 80, 3) := by decide +kernel
theorem dX8_readToken_91 : decode cX8_readToken 91 = .ok (.aload_n 0, 1) := by decide +kernel
theorem dX8_readToken_92 : decode cX8_readToken 92 = .ok (.iload_n 1, 1) := by decide +kernel
theorem dX8_readToken_93 : decode cX8_readToken 93 = .ok (.iconst 1, 1) := by decide +kernel
theorem dX8_readToken_94 : decode cX8_readToken 94 = .ok (.iadd, 1) := by decide +kernel
theorem dX8_readToken_95 : decode cX8_readToken 95 = .ok (.bipush 39, 2) := by decide +kernel
theorem dX8_readToken_97 : decode cX8_readToken 97 = .ok (.invokevirtual 235, 3) := by decide +kernel
theorem dX8_readToken_100 : decode cX8_readToken 100 = .ok (.istore_n 3, 1) := by decide +kernel
theorem dX8_readToken_101 : decode cX8_readToken 101 = .ok (.iload_n 3, 1) := by decide +kernel
theorem dX8_readToken_102 : decode cX8_readToken 102 = .ok (.ifCond .lt 46, 3) := by decide +kernel
theorem dX8_readToken_105 : decode cX8_readToken 105 = .ok (.iload_n 3, 1) := by decide +kernel
theorem dX8_readToken_106 : decode cX8_readToken 106 = .ok (.aload_n 0, 1) := by decide +kernel
theorem dX8_readToken_107 : decode cX8_readToken 107 = .ok (.getfield 199, 3) := by decide +kernel
theorem dX8_readToken_110 : decode cX8_readToken 110 = .ok (.if_icmp .ge 38, 3) := by decide +kernel
theorem dX8_readToken_113 : decode cX8_readToken 113 = .ok (.aload_n 0, 1) := by decide +kernel
theorem dX8_readToken_114 : decode cX8_readToken 114 = .ok (.getfield 21, 3) := by decide +kernel
theorem dX8_readToken_117 : decode cX8_readToken 117 = .ok (.iload_n 3, 1) := by decide +kernel
theorem dX8_readToken_118 : decode cX8_readToken 118 = .ok (.baload, 1) := by decide +kernel
theorem dX8_readToken_119 : decode cX8_readToken 119 = .ok (.bipush 39, 2) := by decide +kernel
theorem dX8_readToken_121 : decode cX8_readToken 121 = .ok (.if_icmp .ne 27, 3) := by decide +kernel
theorem dX8_readToken_124 : decode cX8_readToken 124 = .ok (.iload_n 3, 1) := by decide +kernel
theorem dX8_readToken_125 : decode cX8_readToken 125 = .ok (.iconst 1, 1) := by decide +kernel
theorem dX8_readToken_126 : decode cX8_readToken 126 = .ok (.iadd, 1) := by decide +kernel
theorem dX8_readToken_127 : decode cX8_readToken 127 = .ok (.aload_n 0, 1) := by decide +kernel
theorem dX8_readToken_128 : decode cX8_readToken 128 = .ok (.getfield 199, 3) := by decide +kernel
theorem dX8_readToken_131 : decode cX8_readToken 131 = .ok (.if_icmp .ge 19, 3) := by decide +kernel
theorem dX8_readToken_134 : decode cX8_readToken 134 = .ok (.aload_n 0, 1) := by decide +kernel
theorem dX8_readToken_135 : decode cX8_readToken 135 = .ok (.getfield 21, 3) := by decide +kernel
theorem dX8_readToken_138 : decode cX8_readToken 138 = .ok (.iload_n 3, 1) := by decide +kernel
theorem dX8_readToken_139 : decode cX8_readToken 139 = .ok (.iconst 1, 1) := by decide +kernel
theorem dX8_readToken_140 : decode cX8_readToken 140 = .ok (.iadd, 1) := by decide +kernel
theorem dX8_readToken_141 : decode cX8_readToken 141 = .ok (.baload, 1) := by decide +kernel
theorem dX8_readToken_142 : decode cX8_readToken 142 = .ok (.invokestatic 117, 3) := by decide +kernel
theorem dX8_readToken_145 : decode cX8_readToken 145 = .ok (.ifCond .eq 5, 3) := by decide +kernel
theorem dX8_readToken_148 : decode cX8_readToken 148 = .ok (.iconst (-1), 1) := by decide +kernel
theorem dX8_readToken_149 : decode cX8_readToken 149 = .ok (.ireturn, 1) := by decide +kernel
theorem dX8_readToken_150 : decode cX8_readToken 150 = .ok (.aload_n 0, 1) := by decide +kernel
theorem dX8_readToken_151 : decode cX8_readToken 151 = .ok (.iconst 2, 1) := by decide +kernel
theorem dX8_readToken_152 : decode cX8_readToken 152 = .ok (.iload_n 1, 1) := by decide +kernel
theorem dX8_readToken_153 : decode cX8_readToken 153 = .ok (.iload_n 3, 1) := by decide +kernel
theorem dX8_readToken_154 : decode cX8_readToken 154 = .ok (.iconst 1, 1) := by decide +kernel
theorem dX8_readToken_155 : decode cX8_readToken 155 = .ok (.iadd, 1) := by decide +kernel
theorem dX8_readToken_156 : decode cX8_readToken 156 = .ok (.aload_n 0, 1) := by decide +kernel
theorem dX8_readToken_157 : decode cX8_readToken 157 = .ok (.getfield 171, 3) := by decide +kernel
theorem dX8_readToken_160 : decode cX8_readToken 160 = .ok (.i2l, 1) := by decide +kernel
theorem dX8_readToken_161 : decode cX8_readToken 161 = .ok (.invokevirtual 229, 3) := by decide +kernel
theorem dX8_readToken_164 : decode cX8_readToken 164 = .ok (.iload_n 3, 1) := by decide +kernel
theorem dX8_readToken_165 : decode cX8_readToken 165 = .ok (.iconst 1, 1) := by decide +kernel
theorem dX8_readToken_166 : decode cX8_readToken 166 = .ok (.iadd, 1) := by decide +kernel
theorem dX8_readToken_167 : decode cX8_readToken 167 = .ok (.ireturn, 1) := by decide +kernel
theorem dX8_readToken_168 : decode cX8_readToken 168 = .ok (.iload_n 2, 1) := by decide +kernel
theorem dX8_readToken_169 : decode cX8_readToken 169 = .ok (.bipush 34, 2) := by decide +kernel
theorem dX8_readToken_171 : decode cX8_readToken 171 = .ok (.if_icmp .ne 69, 3) := by decide +kernel
theorem dX8_readToken_174 : decode cX8_readToken 174 = .ok (.iload_n 1, 1) := by decide +kernel
theorem dX8_readToken_175 : decode cX8_readToken 175 = .ok (.iconst 1, 1) := by decide +kernel
theorem dX8_readToken_176 : decode cX8_readToken 176 = .ok (.iadd, 1) := by decide +kernel
theorem dX8_readToken_177 : decode cX8_readToken 177 = .ok (.istore_n 3, 1) := by decide +kernel
theorem dX8_readToken_178 : decode cX8_readToken 178 = .ok (.iload_n 3, 1) := by decide +kernel
theorem dX8_readToken_179 : decode cX8_readToken 179 = .ok (.ifCond .lt 33, 3) := by decide +kernel
theorem dX8_readToken_182 : decode cX8_readToken 182 = .ok (.iload_n 3, 1) := by decide +kernel
theorem dX8_readToken_183 : decode cX8_readToken 183 = .ok (.aload_n 0, 1) := by decide +kernel
theorem dX8_readToken_184 : decode cX8_readToken 184 = .ok (.getfield 199, 3) := by decide +kernel
theorem dX8_readToken_187 : decode cX8_readToken 187 = .ok (.if_icmp .ge 25, 3) := by decide +kernel
theorem dX8_readToken_190 : decode cX8_readToken 190 = .ok (.aload_n 0, 1) := by decide +kernel
theorem dX8_readToken_191 : decode cX8_readToken 191 = .ok (.getfield 21, 3) := by decide +kernel
theorem dX8_readToken_194 : decode cX8_readToken 194 = .ok (.iload_n 3, 1) := by decide +kernel
theorem dX8_readToken_195 : decode cX8_readToken 195 = .ok (.baload, 1) := by decide +kernel
theorem dX8_readToken_196 : decode cX8_readToken 196 = .ok (.bipush 34, 2) := by decide +kernel
theorem dX8_readToken_198 : decode cX8_readToken 198 = .ok (.if_icmp .eq 14, 3) := by decide +kernel
theorem dX8_readToken_201 : decode cX8_readToken 201 = .ok (.aload_n 0, 1) := by decide +kernel
theorem dX8_readToken_202 : decode cX8_readToken 202 = .ok (.iload_n 3, 1) := by decide +kernel
theorem dX8_readToken_203 : decode cX8_readToken 203 = .ok (.bipush 34, 2) := by decide +kernel
theorem dX8_readToken_205 : decode cX8_readToken 205 = .ok (.invokevirtual 235, 3) := by decide +kernel
theorem dX8_readToken_208 : decode cX8_readToken 208 = .ok (.istore_n 3, 1) := by decide +kernel
theorem dX8_readToken_209 : decode cX8_readToken 209 = .ok (.goto (-31), 3) := by decide +kernel
theorem dX8_readToken_212 : decode cX8_readToken 212 = .ok (.iload_n 3, 1) := by decide +kernel
theorem dX8_readToken_213 : decode cX8_readToken 213 = .ok (.ifCond .lt 11, 3) := by decide +kernel
theorem dX8_readToken_216 : decode cX8_readToken 216 = .ok (.iload_n 3, 1) := by decide +kernel
theorem dX8_readToken_217 : decode cX8_readToken 217 = .ok (.aload_n 0, 1) := by decide +kernel
theorem dX8_readToken_218 : decode cX8_readToken 218 = .ok (.getfield 199, 3) := by decide +kernel
theorem dX8_readToken_221 : decode cX8_readToken 221 = .ok (.if_icmp .lt 5, 3) := by decide +kernel
theorem dX8_readToken_224 : decode cX8_readToken 224 = .ok (.iconst (-1), 1) := by decide +kernel
theorem dX8_readToken_225 : decode cX8_readToken 225 = .ok (.ireturn, 1) := by decide +kernel
theorem dX8_readToken_226 : decode cX8_readToken 226 = .ok (.aload_n 0, 1) := by decide +kernel
theorem dX8_readToken_227 : decode cX8_readToken 227 = .ok (.iconst 3, 1) := by decide +kernel
theorem dX8_readToken_228 : decode cX8_readToken 228 = .ok (.iload_n 1, 1) := by decide +kernel
theorem dX8_readToken_229 : decode cX8_readToken 229 = .ok (.iload_n 3, 1) := by decide +kernel
theorem dX8_readToken_230 : decode cX8_readToken 230 = .ok (.iconst 1, 1) := by decide +kernel
theorem dX8_readToken_231 : decode cX8_readToken 231 = .ok (.iadd, 1) := by decide +kernel
theorem dX8_readToken_232 : decode cX8_readToken 232 = .ok (.lconst 0, 1) := by decide +kernel
theorem dX8_readToken_233 : decode cX8_readToken 233 = .ok (.invokevirtual 229, 3) := by decide +kernel
theorem dX8_readToken_236 : decode cX8_readToken 236 = .ok (.iload_n 3, 1) := by decide +kernel
theorem dX8_readToken_237 : decode cX8_readToken 237 = .ok (.iconst 1, 1) := by decide +kernel
theorem dX8_readToken_238 : decode cX8_readToken 238 = .ok (.iadd, 1) := by decide +kernel
theorem dX8_readToken_239 : decode cX8_readToken 239 = .ok (.ireturn, 1) := by decide +kernel
theorem dX8_readToken_240 : decode cX8_readToken 240 = .ok (.iload_n 2, 1) := by decide +kernel
theorem dX8_readToken_241 : decode cX8_readToken 241 = .ok (.bipush 60, 2) := by decide +kernel
theorem dX8_readToken_243 : decode cX8_readToken 243 = .ok (.if_icmp .eq 9, 3) := by decide +kernel
theorem dX8_readToken_246 : decode cX8_readToken 246 = .ok (.iload_n 2, 1) := by decide +kernel
theorem dX8_readToken_247 : decode cX8_readToken 247 = .ok (.bipush 62, 2) := by decide +kernel
theorem dX8_readToken_249 : decode cX8_readToken 249 = .ok (.if_icmp .ne 29, 3) := by decide +kernel
theorem dX8_readToken_252 : decode cX8_readToken 252 = .ok (.iload_n 1, 1) := by decide +kernel
theorem dX8_readToken_253 : decode cX8_readToken 253 = .ok (.iconst 1, 1) := by decide +kernel
theorem dX8_readToken_254 : decode cX8_readToken 254 = .ok (.iadd, 1) := by decide +kernel
theorem dX8_readToken_255 : decode cX8_readToken 255 = .ok (.aload_n 0, 1) := by decide +kernel
theorem dX8_readToken_256 : decode cX8_readToken 256 = .ok (.getfield 199, 3) := by decide +kernel
theorem dX8_readToken_259 : decode cX8_readToken 259 = .ok (.if_icmp .ge 19, 3) := by decide +kernel
theorem dX8_readToken_262 : decode cX8_readToken 262 = .ok (.aload_n 0, 1) := by decide +kernel
theorem dX8_readToken_263 : decode cX8_readToken 263 = .ok (.getfield 21, 3) := by decide +kernel
theorem dX8_readToken_266 : decode cX8_readToken 266 = .ok (.iload_n 1, 1) := by decide +kernel
theorem dX8_readToken_267 : decode cX8_readToken 267 = .ok (.iconst 1, 1) := by decide +kernel
theorem dX8_readToken_268 : decode cX8_readToken 268 = .ok (.iadd, 1) := by decide +kernel
theorem dX8_readToken_269 : decode cX8_readToken 269 = .ok (.baload, 1) := by decide +kernel
theorem dX8_readToken_270 : decode cX8_readToken 270 = .ok (.iload_n 2, 1) := by decide +kernel
theorem dX8_readToken_271 : decode cX8_readToken 271 = .ok (.if_icmp .ne 7, 3) := by decide +kernel
theorem dX8_readToken_274 : decode cX8_readToken 274 = .ok (.iconst 1, 1) := by decide +kernel
theorem dX8_readToken_275 : decode cX8_readToken 275 = .ok (.goto 4, 3) := by decide +kernel
theorem dX8_readToken_278 : decode cX8_readToken 278 = .ok (.iconst 0, 1) := by decide +kernel
theorem dX8_readToken_279 : decode cX8_readToken 279 = .ok (.istore_n 3, 1) := by decide +kernel
theorem dX8_readToken_280 : decode cX8_readToken 280 = .ok (.iload_n 2, 1) := by decide +kernel
theorem dX8_readToken_281 : decode cX8_readToken 281 = .ok (.bipush 44, 2) := by decide +kernel
theorem dX8_readToken_283 : decode cX8_readToken 283 = .ok (.if_icmp .eq 93, 3) := by decide +kernel
theorem dX8_readToken_286 : decode cX8_readToken 286 = .ok (.iload_n 2, 1) := by decide +kernel
theorem dX8_readToken_287 : decode cX8_readToken 287 = .ok (.bipush 58, 2) := by decide +kernel
theorem dX8_readToken_289 : decode cX8_readToken 289 = .ok (.if_icmp .eq 87, 3) := by decide +kernel
theorem dX8_readToken_292 : decode cX8_readToken 292 = .ok (.iload_n 2, 1) := by decide +kernel
theorem dX8_readToken_293 : decode cX8_readToken 293 = .ok (.bipush 91, 2) := by decide +kernel
theorem dX8_readToken_295 : decode cX8_readToken 295 = .ok (.if_icmp .eq 81, 3) := by decide +kernel
theorem dX8_readToken_298 : decode cX8_readToken 298 = .ok (.iload_n 2, 1) := by decide +kernel
theorem dX8_readToken_299 : decode cX8_readToken 299 = .ok (.bipush 93, 2) := by decide +kernel
theorem dX8_readToken_301 : decode cX8_readToken 301 = .ok (.if_icmp .eq 75, 3) := by decide +kernel
theorem dX8_readToken_304 : decode cX8_readToken 304 = .ok (.iload_n 2, 1) := by decide +kernel
theorem dX8_readToken_305 : decode cX8_readToken 305 = .ok (.bipush 40, 2) := by decide +kernel
theorem dX8_readToken_307 : decode cX8_readToken 307 = .ok (.if_icmp .eq 69, 3) := by decide +kernel
theorem dX8_readToken_310 : decode cX8_readToken 310 = .ok (.iload_n 2, 1) := by decide +kernel
theorem dX8_readToken_311 : decode cX8_readToken 311 = .ok (.bipush 41, 2) := by decide +kernel
