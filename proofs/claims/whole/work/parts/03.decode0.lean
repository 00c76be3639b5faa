theorem dX0_init_0 : decode cX0_init 0 = .ok (.aload_n 0, 1) := by decide +kernel
theorem dX0_init_1 : decode cX0_init 1 = .ok (.invokespecial 1, 3) := by decide +kernel
theorem dX0_init_4 : decode cX0_init 4 = .ok (.aload_n 0, 1) := by decide +kernel
theorem dX0_init_5 : decode cX0_init 5 = .ok (.iload_n 2, 1) := by decide +kernel
theorem dX0_init_6 : decode cX0_init 6 = .ok (.putfield 7, 3) := by decide +kernel
theorem dX0_init_9 : decode cX0_init 9 = .ok (.aload_n 0, 1) := by decide +kernel
theorem dX0_init_10 : decode cX0_init 10 = .ok (.iconst 0, 1) := by decide +kernel
theorem dX0_init_11 : decode cX0_init 11 = .ok (.iload_n 1, 1) := by decide +kernel
theorem dX0_init_12 : decode cX0_init 12 = .ok (.invokestatic 13, 3) := by decide +kernel
theorem dX0_init_15 : decode cX0_init 15 = .ok (.newarray .byte, 2) := by decide +kernel
theorem dX0_init_17 : decode cX0_init 17 = .ok (.putfield 19, 3) := by decide +kernel
theorem dX0_init_20 : decode cX0_init 20 = .ok (.return_, 1) := by decide +kernel
theorem dX0_size_0 : decode cX0_size 0 = .ok (.aload_n 0, 1) := by decide +kernel
theorem dX0_size_1 : decode cX0_size 1 = .ok (.getfield 23, 3) := by decide +kernel
theorem dX0_size_4 : decode cX0_size 4 = .ok (.ireturn, 1) := by decide +kernel
theorem dX0_clear_0 : decode cX0_clear 0 = .ok (.aload_n 0, 1) := by decide +kernel
theorem dX0_clear_1 : decode cX0_clear 1 = .ok (.iconst 0, 1) := by decide +kernel
theorem dX0_clear_2 : decode cX0_clear 2 = .ok (.putfield 23, 3) := by decide +kernel
theorem dX0_clear_5 : decode cX0_clear 5 = .ok (.return_, 1) := by decide +kernel
theorem dX0_at_0 : decode cX0_at 0 = .ok (.iload_n 1, 1) := by decide +kernel
theorem dX0_at_1 : decode cX0_at 1 = .ok (.ifCond .lt 33, 3) := by decide +kernel
theorem dX0_at_4 : decode cX0_at 4 = .ok (.iload_n 1, 1) := by decide +kernel
theorem dX0_at_5 : decode cX0_at 5 = .ok (.aload_n 0, 1) := by decide +kernel
theorem dX0_at_6 : decode cX0_at 6 = .ok (.getfield 23, 3) := by decide +kernel
theorem dX0_at_9 : decode cX0_at 9 = .ok (.if_icmp .ge 25, 3) := by decide +kernel
theorem dX0_at_12 : decode cX0_at 12 = .ok (.iload_n 1, 1) := by decide +kernel
theorem dX0_at_13 : decode cX0_at 13 = .ok (.aload_n 0, 1) := by decide +kernel
theorem dX0_at_14 : decode cX0_at 14 = .ok (.getfield 19, 3) := by decide +kernel
theorem dX0_at_17 : decode cX0_at 17 = .ok (.arraylength, 1) := by decide +kernel
theorem dX0_at_18 : decode cX0_at 18 = .ok (.if_icmp .ge 16, 3) := by decide +kernel
theorem dX0_at_21 : decode cX0_at 21 = .ok (.aload_n 0, 1) := by decide +kernel
theorem dX0_at_22 : decode cX0_at 22 = .ok (.getfield 19, 3) := by decide +kernel
theorem dX0_at_25 : decode cX0_at 25 = .ok (.iload_n 1, 1) := by decide +kernel
theorem dX0_at_26 : decode cX0_at 26 = .ok (.baload, 1) := by decide +kernel
theorem dX0_at_27 : decode cX0_at 27 = .ok (.sipush 255, 3) := by decide +kernel
theorem dX0_at_30 : decode cX0_at 30 = .ok (.iand, 1) := by decide +kernel
theorem dX0_at_31 : decode cX0_at 31 = .ok (.goto 4, 3) := by decide +kernel
theorem dX0_at_34 : decode cX0_at 34 = .ok (.iconst (-1), 1) := by decide +kernel
theorem dX0_at_35 : decode cX0_at 35 = .ok (.ireturn, 1) := by decide +kernel
theorem dX0_holds_0 : decode cX0_holds 0 = .ok (.iload_n 1, 1) := by decide +kernel
theorem dX0_holds_1 : decode cX0_holds 1 = .ok (.ifCond .lt 21, 3) := by decide +kernel
theorem dX0_holds_4 : decode cX0_holds 4 = .ok (.iload_n 2, 1) := by decide +kernel
theorem dX0_holds_5 : decode cX0_holds 5 = .ok (.ifCond .lt 17, 3) := by decide +kernel
theorem dX0_holds_8 : decode cX0_holds 8 = .ok (.iload_n 2, 1) := by decide +kernel
theorem dX0_holds_9 : decode cX0_holds 9 = .ok (.aload_n 0, 1) := by decide +kernel
theorem dX0_holds_10 : decode cX0_holds 10 = .ok (.getfield 23, 3) := by decide +kernel
theorem dX0_holds_13 : decode cX0_holds 13 = .ok (.iload_n 1, 1) := by decide +kernel
theorem dX0_holds_14 : decode cX0_holds 14 = .ok (.isub, 1) := by decide +kernel
theorem dX0_holds_15 : decode cX0_holds 15 = .ok (.if_icmp .gt 7, 3) := by decide +kernel
theorem dX0_holds_18 : decode cX0_holds 18 = .ok (.iconst 1, 1) := by decide +kernel
theorem dX0_holds_19 : decode cX0_holds 19 = .ok (.goto 4, 3) := by decide +kernel
theorem dX0_holds_22 : decode cX0_holds 22 = .ok (.iconst 0, 1) := by decide +kernel
theorem dX0_holds_23 : decode cX0_holds 23 = .ok (.ireturn, 1) := by decide +kernel
theorem dX0_append_0 : decode cX0_append 0 = .ok (.aload_n 0, 1) := by decide +kernel
theorem dX0_append_1 : decode cX0_append 1 = .ok (.getfield 23, 3) := by decide +kernel
theorem dX0_append_4 : decode cX0_append 4 = .ok (.aload_n 0, 1) := by decide +kernel
theorem dX0_append_5 : decode cX0_append 5 = .ok (.getfield 7, 3) := by decide +kernel
theorem dX0_append_8 : decode cX0_append 8 = .ok (.if_icmp .lt 5, 3) := by decide +kernel
theorem dX0_append_11 : decode cX0_append 11 = .ok (.iconst 0, 1) := by decide +kernel
theorem dX0_append_12 : decode cX0_append 12 = .ok (.ireturn, 1) := by decide +kernel
theorem dX0_append_13 : decode cX0_append 13 = .ok (.aload_n 0, 1) := by decide +kernel
theorem dX0_append_14 : decode cX0_append 14 = .ok (.getfield 23, 3) := by decide +kernel
theorem dX0_append_17 : decode cX0_append 17 = .ok (.aload_n 0, 1) := by decide +kernel
theorem dX0_append_18 : decode cX0_append 18 = .ok (.getfield 19, 3) := by decide +kernel
theorem dX0_append_21 : decode cX0_append 21 = .ok (.arraylength, 1) := by decide +kernel
theorem dX0_append_22 : decode cX0_append 22 = .ok (.if_icmp .lt 31, 3) := by decide +kernel
theorem dX0_append_25 : decode cX0_append 25 = .ok (.aload_n 0, 1) := by decide +kernel
theorem dX0_append_26 : decode cX0_append 26 = .ok (.aload_n 0, 1) := by decide +kernel
theorem dX0_append_27 : decode cX0_append 27 = .ok (.getfield 19, 3) := by decide +kernel
theorem dX0_append_30 : decode cX0_append 30 = .ok (.aload_n 0, 1) := by decide +kernel
theorem dX0_append_31 : decode cX0_append 31 = .ok (.getfield 7, 3) := by decide +kernel
theorem dX0_append_34 : decode cX0_append 34 = .ok (.iconst 2, 1) := by decide +kernel
theorem dX0_append_35 : decode cX0_append 35 = .ok (.aload_n 0, 1) := by decide +kernel
theorem dX0_append_36 : decode cX0_append 36 = .ok (.getfield 19, 3) := by decide +kernel
theorem dX0_append_39 : decode cX0_append 39 = .ok (.arraylength, 1) := by decide +kernel
theorem dX0_append_40 : decode cX0_append 40 = .ok (.imul, 1) := by decide +kernel
theorem dX0_append_41 : decode cX0_append 41 = .ok (.bipush 16, 2) := by decide +kernel
theorem dX0_append_43 : decode cX0_append 43 = .ok (.iadd, 1) := by decide +kernel
theorem dX0_append_44 : decode cX0_append 44 = .ok (.invokestatic 26, 3) := by decide +kernel
theorem dX0_append_47 : decode cX0_append 47 = .ok (.invokestatic 29, 3) := by decide +kernel
theorem dX0_append_50 : decode cX0_append 50 = .ok (.putfield 19, 3) := by decide +kernel
theorem dX0_append_53 : decode cX0_append 53 = .ok (.aload_n 0, 1) := by decide +kernel
theorem dX0_append_54 : decode cX0_append 54 = .ok (.getfield 19, 3) := by decide +kernel
theorem dX0_append_57 : decode cX0_append 57 = .ok (.aload_n 0, 1) := by decide +kernel
theorem dX0_append_58 : decode cX0_append 58 = .ok (.getfield 23, 3) := by decide +kernel
theorem dX0_append_61 : decode cX0_append 61 = .ok (.iload_n 1, 1) := by decide +kernel
theorem dX0_append_62 : decode cX0_append 62 = .ok (.i2b, 1) := by decide +kernel
theorem dX0_append_63 : decode cX0_append 63 = .ok (.bastore, 1) := by decide +kernel
theorem dX0_append_64 : decode cX0_append 64 = .ok (.aload_n 0, 1) := by decide +kernel
theorem dX0_append_65 : decode cX0_append 65 = .ok (.dup, 1) := by decide +kernel
theorem dX0_append_66 : decode cX0_append 66 = .ok (.getfield 23, 3) := by decide +kernel
theorem dX0_append_69 : decode cX0_append 69 = .ok (.iconst 1, 1) := by decide +kernel
theorem dX0_append_70 : decode cX0_append 70 = .ok (.iadd, 1) := by decide +kernel
theorem dX0_append_71 : decode cX0_append 71 = .ok (.putfield 23, 3) := by decide +kernel
theorem dX0_append_74 : decode cX0_append 74 = .ok (.iconst 1, 1) := by decide +kernel
theorem dX0_append_75 : decode cX0_append 75 = .ok (.ireturn, 1) := by decide +kernel
theorem dX0_appendPart_0 : decode cX0_appendPart 0 = .ok (.iload_n 2, 1) := by decide +kernel
theorem dX0_appendPart_1 : decode cX0_appendPart 1 = .ok (.istore 4, 2) := by decide +kernel
theorem dX0_appendPart_3 : decode cX0_appendPart 3 = .ok (.iload 4, 2) := by decide +kernel
theorem dX0_appendPart_5 : decode cX0_appendPart 5 = .ok (.iload_n 3, 1) := by decide +kernel
theorem dX0_appendPart_6 : decode cX0_appendPart 6 = .ok (.if_icmp .ge 24, 3) := by decide +kernel
theorem dX0_appendPart_9 : decode cX0_appendPart 9 = .ok (.aload_n 0, 1) := by decide +kernel
theorem dX0_appendPart_10 : decode cX0_appendPart 10 = .ok (.aload_n 1, 1) := by decide +kernel
theorem dX0_appendPart_11 : decode cX0_appendPart 11 = .ok (.iload 4, 2) := by decide +kernel
theorem dX0_appendPart_13 : decode cX0_appendPart 13 = .ok (.invokevirtual 35, 3) := by decide +kernel
theorem dX0_appendPart_16 : decode cX0_appendPart 16 = .ok (.invokevirtual 39, 3) := by decide +kernel
theorem dX0_appendPart_19 : decode cX0_appendPart 19 = .ok (.ifCond .ne 5, 3) := by decide +kernel
theorem dX0_appendPart_22 : decode cX0_appendPart 22 = .ok (.iconst 0, 1) := by decide +kernel
theorem dX0_appendPart_23 : decode cX0_appendPart 23 = .ok (.ireturn, 1) := by decide +kernel
theorem dX0_appendPart_24 : decode cX0_appendPart 24 = .ok (.iinc 4 1, 3) := by decide +kernel
theorem dX0_appendPart_27 : decode cX0_appendPart 27 = .ok (.goto (-24), 3) := by decide +kernel
theorem dX0_appendPart_30 : decode cX0_appendPart 30 = .ok (.iconst 1, 1) := by decide +kernel
theorem dX0_appendPart_31 : decode cX0_appendPart 31 = .ok (.ireturn, 1) := by decide +kernel
theorem dX0_appendDecimal_0 : decode cX0_appendDecimal 0 = .ok (.iconst 0, 1) := by decide +kernel
theorem dX0_appendDecimal_1 : decode cX0_appendDecimal 1 = .ok (.istore_n 2, 1) := by decide +kernel
theorem dX0_appendDecimal_2 : decode cX0_appendDecimal 2 = .ok (.iconst 1, 1) := by decide +kernel
theorem dX0_appendDecimal_3 : decode cX0_appendDecimal 3 = .ok (.istore_n 3, 1) := by decide +kernel
theorem dX0_appendDecimal_4 : decode cX0_appendDecimal 4 = .ok (.ldc 43, 2) := by decide +kernel
theorem dX0_appendDecimal_6 : decode cX0_appendDecimal 6 = .ok (.istore 4, 2) := by decide +kernel
theorem dX0_appendDecimal_8 : decode cX0_appendDecimal 8 = .ok (.iload 4, 2) := by decide +kernel
theorem dX0_appendDecimal_10 : decode cX0_appendDecimal 10 = .ok (.ifCond .le 69, 3) := by decide +kernel
theorem dX0_appendDecimal_13 : decode cX0_appendDecimal 13 = .ok (.iload_n 1, 1) := by decide +kernel
theorem dX0_appendDecimal_14 : decode cX0_appendDecimal 14 = .ok (.iload 4, 2) := by decide +kernel
theorem dX0_appendDecimal_16 : decode cX0_appendDecimal 16 = .ok (.idiv, 1) := by decide +kernel
theorem dX0_appendDecimal_17 : decode cX0_appendDecimal 17 = .ok (.bipush 10, 2) := by decide +kernel
theorem dX0_appendDecimal_19 : decode cX0_appendDecimal 19 = .ok (.irem, 1) := by decide +kernel
theorem dX0_appendDecimal_20 : decode cX0_appendDecimal 20 = .ok (.istore 5, 2) := by decide +kernel
theorem dX0_appendDecimal_22 : decode cX0_appendDecimal 22 = .ok (.iload_n 2, 1) := by decide +kernel
theorem dX0_appendDecimal_23 : decode cX0_appendDecimal 23 = .ok (.ifCond .ne 14, 3) := by decide +kernel
theorem dX0_appendDecimal_26 : decode cX0_appendDecimal 26 = .ok (.iload 5, 2) := by decide +kernel
theorem dX0_appendDecimal_28 : decode cX0_appendDecimal 28 = .ok (.ifCond .ne 9, 3) := by decide +kernel
theorem dX0_appendDecimal_31 : decode cX0_appendDecimal 31 = .ok (.iload 4, 2) := by decide +kernel
theorem dX0_appendDecimal_33 : decode cX0_appendDecimal 33 = .ok (.iconst 1, 1) := by decide +kernel
theorem dX0_appendDecimal_34 : decode cX0_appendDecimal 34 = .ok (.if_icmp .ne 7, 3) := by decide +kernel
theorem dX0_appendDecimal_37 : decode cX0_appendDecimal 37 = .ok (.iconst 1, 1) := by decide +kernel
theorem dX0_appendDecimal_38 : decode cX0_appendDecimal 38 = .ok (.goto 4, 3) := by decide +kernel
theorem dX0_appendDecimal_41 : decode cX0_appendDecimal 41 = .ok (.iconst 0, 1) := by decide +kernel
theorem dX0_appendDecimal_42 : decode cX0_appendDecimal 42 = .ok (.istore_n 2, 1) := by decide +kernel
theorem dX0_appendDecimal_43 : decode cX0_appendDecimal 43 = .ok (.iload_n 2, 1) := by decide +kernel
theorem dX0_appendDecimal_44 : decode cX0_appendDecimal 44 = .ok (.ifCond .eq 25, 3) := by decide +kernel
theorem dX0_appendDecimal_47 : decode cX0_appendDecimal 47 = .ok (.aload_n 0, 1) := by decide +kernel
theorem dX0_appendDecimal_48 : decode cX0_appendDecimal 48 = .ok (.bipush 48, 2) := by decide +kernel
theorem dX0_appendDecimal_50 : decode cX0_appendDecimal 50 = .ok (.iload 5, 2) := by decide +kernel
theorem dX0_appendDecimal_52 : decode cX0_appendDecimal 52 = .ok (.iadd, 1) := by decide +kernel
theorem dX0_appendDecimal_53 : decode cX0_appendDecimal 53 = .ok (.invokevirtual 39, 3) := by decide +kernel
theorem dX0_appendDecimal_56 : decode cX0_appendDecimal 56 = .ok (.ifCond .eq 11, 3) := by decide +kernel
theorem dX0_appendDecimal_59 : decode cX0_appendDecimal 59 = .ok (.iload_n 3, 1) := by decide +kernel
theorem dX0_appendDecimal_60 : decode cX0_appendDecimal 60 = .ok (.ifCond .eq 7, 3) := by decide +kernel
theorem dX0_appendDecimal_63 : decode cX0_appendDecimal 63 = .ok (.iconst 1, 1) := by decide +kernel
theorem dX0_appendDecimal_64 : decode cX0_appendDecimal 64 = .ok (.goto 4, 3) := by decide +kernel
theorem dX0_appendDecimal_67 : decode cX0_appendDecimal 67 = .ok (.iconst 0, 1) := by decide +kernel
theorem dX0_appendDecimal_68 : decode cX0_appendDecimal 68 = .ok (.istore_n 3, 1) := by decide +kernel
theorem dX0_appendDecimal_69 : decode cX0_appendDecimal 69 = .ok (.iload 4, 2) := by decide +kernel
theorem dX0_appendDecimal_71 : decode cX0_appendDecimal 71 = .ok (.bipush 10, 2) := by decide +kernel
theorem dX0_appendDecimal_73 : decode cX0_appendDecimal 73 = .ok (.idiv, 1) := by decide +kernel
theorem dX0_appendDecimal_74 : decode cX0_appendDecimal 74 = .ok (.istore 4, 2) := by decide +kernel
theorem dX0_appendDecimal_76 : decode cX0_appendDecimal 76 = .ok (.goto (-68), 3) := by decide +kernel
theorem dX0_appendDecimal_79 : decode cX0_appendDecimal 79 = .ok (.iload_n 3, 1) := by decide +kernel
theorem dX0_appendDecimal_80 : decode cX0_appendDecimal 80 = .ok (.ireturn, 1) := by decide +kernel
theorem dX0_behindBlanks_0 : decode cX0_behindBlanks 0 = .ok (.iload_n 1, 1) := by decide +kernel
theorem dX0_behindBlanks_1 : decode cX0_behindBlanks 1 = .ok (.istore_n 2, 1) := by decide +kernel
theorem dX0_behindBlanks_2 : decode cX0_behindBlanks 2 = .ok (.iload_n 2, 1) := by decide +kernel
theorem dX0_behindBlanks_3 : decode cX0_behindBlanks 3 = .ok (.aload_n 0, 1) := by decide +kernel
theorem dX0_behindBlanks_4 : decode cX0_behindBlanks 4 = .ok (.getfield 23, 3) := by decide +kernel
theorem dX0_behindBlanks_7 : decode cX0_behindBlanks 7 = .ok (.if_icmp .ge 20, 3) := by decide +kernel
theorem dX0_behindBlanks_10 : decode cX0_behindBlanks 10 = .ok (.aload_n 0, 1) := by decide +kernel
theorem dX0_behindBlanks_11 : decode cX0_behindBlanks 11 = .ok (.iload_n 2, 1) := by decide +kernel
theorem dX0_behindBlanks_12 : decode cX0_behindBlanks 12 = .ok (.invokevirtual 35, 3) := by decide +kernel
theorem dX0_behindBlanks_15 : decode cX0_behindBlanks 15 = .ok (.invokestatic 44, 3) := by decide +kernel
theorem dX0_behindBlanks_18 : decode cX0_behindBlanks 18 = .ok (.ifCond .eq 9, 3) := by decide +kernel
theorem dX0_behindBlanks_21 : decode cX0_behindBlanks 21 = .ok (.iinc 2 1, 3) := by decide +kernel
theorem dX0_behindBlanks_24 : decode cX0_behindBlanks 24 = .ok (.goto (-22), 3) := by decide +kernel
theorem dX0_behindBlanks_27 : decode cX0_behindBlanks 27 = .ok (.iload_n 2, 1) := by decide +kernel
theorem dX0_behindBlanks_28 : decode cX0_behindBlanks 28 = .ok (.ireturn, 1) := by decide +kernel
theorem dX0_behindNameBytes_0 : decode cX0_behindNameBytes 0 = .ok (.iload_n 1, 1) := by decide +kernel
theorem dX0_behindNameBytes_1 : decode cX0_behindNameBytes 1 = .ok (.istore_n 2, 1) := by decide +kernel
theorem dX0_behindNameBytes_2 : decode cX0_behindNameBytes 2 = .ok (.iload_n 2, 1) := by decide +kernel
theorem dX0_behindNameBytes_3 : decode cX0_behindNameBytes 3 = .ok (.aload_n 0, 1) := by decide +kernel
theorem dX0_behindNameBytes_4 : decode cX0_behindNameBytes 4 = .ok (.getfield 23, 3) := by decide +kernel
theorem dX0_behindNameBytes_7 : decode cX0_behindNameBytes 7 = .ok (.if_icmp .ge 20, 3) := by decide +kernel
theorem dX0_behindNameBytes_10 : decode cX0_behindNameBytes 10 = .ok (.aload_n 0, 1) := by decide +kernel
theorem dX0_behindNameBytes_11 : decode cX0_behindNameBytes 11 = .ok (.iload_n 2, 1) := by decide +kernel
theorem dX0_behindNameBytes_12 : decode cX0_behindNameBytes 12 = .ok (.invokevirtual 35, 3) := by decide +kernel
theorem dX0_behindNameBytes_15 : decode cX0_behindNameBytes 15 = .ok (.invokestatic 49, 3) := by decide +kernel
theorem dX0_behindNameBytes_18 : decode cX0_behindNameBytes 18 = .ok (.ifCond .eq 9, 3) := by decide +kernel
theorem dX0_behindNameBytes_21 : decode cX0_behindNameBytes 21 = .ok (.iinc 2 1, 3) := by decide +kernel
theorem dX0_behindNameBytes_24 : decode cX0_behindNameBytes 24 = .ok (.goto (-22), 3) := by decide +kernel
theorem dX0_behindNameBytes_27 : decode cX0_behindNameBytes 27 = .ok (.iload_n 2, 1) := by decide +kernel
theorem dX0_behindNameBytes_28 : decode cX0_behindNameBytes 28 = .ok (.ireturn, 1) := by decide +kernel
theorem dX0_spells_0 : decode cX0_spells 0 = .ok (.iload_n 3, 1) := by decide +kernel
theorem dX0_spells_1 : decode cX0_spells 1 = .ok (.iload_n 2, 1) := by decide +kernel
theorem dX0_spells_2 : decode cX0_spells 2 = .ok (.isub, 1) := by decide +kernel
theorem dX0_spells_3 : decode cX0_spells 3 = .ok (.aload_n 1, 1) := by decide +kernel
theorem dX0_spells_4 : decode cX0_spells 4 = .ok (.invokevirtual 52, 3) := by decide +kernel
theorem dX0_spells_7 : decode cX0_spells 7 = .ok (.if_icmp .ne 15, 3) := by decide +kernel
theorem dX0_spells_10 : decode cX0_spells 10 = .ok (.aload_n 0, 1) := by decide +kernel
theorem dX0_spells_11 : decode cX0_spells 11 = .ok (.iload_n 2, 1) := by decide +kernel
theorem dX0_spells_12 : decode cX0_spells 12 = .ok (.aload_n 1, 1) := by decide +kernel
theorem dX0_spells_13 : decode cX0_spells 13 = .ok (.invokevirtual 52, 3) := by decide +kernel
theorem dX0_spells_16 : decode cX0_spells 16 = .ok (.invokevirtual 58, 3) := by decide +kernel
theorem dX0_spells_19 : decode cX0_spells 19 = .ok (.ifCond .ne 5, 3) := by decide +kernel
theorem dX0_spells_22 : decode cX0_spells 22 = .ok (.iconst 0, 1) := by decide +kernel
theorem dX0_spells_23 : decode cX0_spells 23 = .ok (.ireturn, 1) := by decide +kernel
theorem dX0_spells_24 : decode cX0_spells 24 = .ok (.iconst 0, 1) := by decide +kernel
theorem dX0_spells_25 : decode cX0_spells 25 = .ok (.istore 4, 2) := by decide +kernel
theorem dX0_spells_27 : decode cX0_spells 27 = .ok (.iload 4, 2) := by decide +kernel
theorem dX0_spells_29 : decode cX0_spells 29 = .ok (.aload_n 1, 1) := by decide +kernel
theorem dX0_spells_30 : decode cX0_spells 30 = .ok (.invokevirtual 52, 3) := by decide +kernel
theorem dX0_spells_33 : decode cX0_spells 33 = .ok (.if_icmp .ge 29, 3) := by decide +kernel
theorem dX0_spells_36 : decode cX0_spells 36 = .ok (.aload_n 0, 1) := by decide +kernel
theorem dX0_spells_37 : decode cX0_spells 37 = .ok (.getfield 19, 3) := by decide +kernel
theorem dX0_spells_40 : decode cX0_spells 40 = .ok (.iload_n 2, 1) := by decide +kernel
theorem dX0_spells_41 : decode cX0_spells 41 = .ok (.iload 4, 2) := by decide +kernel
theorem dX0_spells_43 : decode cX0_spells 43 = .ok (.iadd, 1) := by decide +kernel
theorem dX0_spells_44 : decode cX0_spells 44 = .ok (.baload, 1) := by decide +kernel
theorem dX0_spells_45 : decode cX0_spells 45 = .ok (.aload_n 1, 1) := by decide +kernel
theorem dX0_spells_46 : decode cX0_spells 46 = .ok (.iload 4, 2) := by decide +kernel
theorem dX0_spells_48 : decode cX0_spells 48 = .ok (.invokevirtual 62, 3) := by decide +kernel
theorem dX0_spells_51 : decode cX0_spells 51 = .ok (.if_icmp .eq 5, 3) := by decide +kernel
theorem dX0_spells_54 : decode cX0_spells 54 = .ok (.iconst 0, 1) := by decide +kernel
theorem dX0_spells_55 : decode cX0_spells 55 = .ok (.ireturn, 1) := by decide +kernel
theorem dX0_spells_56 : decode cX0_spells 56 = .ok (.iinc 4 1, 3) := by decide +kernel
theorem dX0_spells_59 : decode cX0_spells 59 = .ok (.goto (-32), 3) := by decide +kernel
theorem dX0_spells_62 : decode cX0_spells 62 = .ok (.iconst 1, 1) := by decide +kernel
theorem dX0_spells_63 : decode cX0_spells 63 = .ok (.ireturn, 1) := by decide +kernel
theorem dX0_isSame_0 : decode cX0_isSame 0 = .ok (.aload_n 0, 1) := by decide +kernel
theorem dX0_isSame_1 : decode cX0_isSame 1 = .ok (.iload_n 1, 1) := by decide +kernel
theorem dX0_isSame_2 : decode cX0_isSame 2 = .ok (.iload_n 2, 1) := by decide +kernel
theorem dX0_isSame_3 : decode cX0_isSame 3 = .ok (.invokevirtual 58, 3) := by decide +kernel
theorem dX0_isSame_6 : decode cX0_isSame 6 = .ok (.ifCond .eq 13, 3) := by decide +kernel
theorem dX0_isSame_9 : decode cX0_isSame 9 = .ok (.aload_n 3, 1) := by decide +kernel
theorem dX0_isSame_10 : decode cX0_isSame 10 = .ok (.iload 4, 2) := by decide +kernel
theorem dX0_isSame_12 : decode cX0_isSame 12 = .ok (.iload_n 2, 1) := by decide +kernel
theorem dX0_isSame_13 : decode cX0_isSame 13 = .ok (.invokevirtual 58, 3) := by decide +kernel
theorem dX0_isSame_16 : decode cX0_isSame 16 = .ok (.ifCond .ne 5, 3) := by decide +kernel
theorem dX0_isSame_19 : decode cX0_isSame 19 = .ok (.iconst 0, 1) := by decide +kernel
theorem dX0_isSame_20 : decode cX0_isSame 20 = .ok (.ireturn, 1) := by decide +kernel
theorem dX0_isSame_21 : decode cX0_isSame 21 = .ok (.iconst 0, 1) := by decide +kernel
theorem dX0_isSame_22 : decode cX0_isSame 22 = .ok (.istore 5, 2) := by decide +kernel
theorem dX0_isSame_24 : decode cX0_isSame 24 = .ok (.iload 5, 2) := by decide +kernel
theorem dX0_isSame_26 : decode cX0_isSame 26 = .ok (.iload_n 2, 1) := by decide +kernel
theorem dX0_isSame_27 : decode cX0_isSame 27 = .ok (.if_icmp .ge 33, 3) := by decide +kernel
theorem dX0_isSame_30 : decode cX0_isSame 30 = .ok (.aload_n 0, 1) := by decide +kernel
theorem dX0_isSame_31 : decode cX0_isSame 31 = .ok (.getfield 19, 3) := by decide +kernel
theorem dX0_isSame_34 : decode cX0_isSame 34 = .ok (.iload_n 1, 1) := by decide +kernel
theorem dX0_isSame_35 : decode cX0_isSame 35 = .ok (.iload 5, 2) := by decide +kernel
theorem dX0_isSame_37 : decode cX0_isSame 37 = .ok (.iadd, 1) := by decide +kernel
theorem dX0_isSame_38 : decode cX0_isSame 38 = .ok (.baload, 1) := by decide +kernel
theorem dX0_isSame_39 : decode cX0_isSame 39 = .ok (.aload_n 3, 1) := by decide +kernel
theorem dX0_isSame_40 : decode cX0_isSame 40 = .ok (.getfield 19, 3) := by decide +kernel
theorem dX0_isSame_43 : decode cX0_isSame 43 = .ok (.iload 4, 2) := by decide +kernel
theorem dX0_isSame_45 : decode cX0_isSame 45 = .ok (.iload 5, 2) := by decide +kernel
theorem dX0_isSame_47 : decode cX0_isSame 47 = .ok (.iadd, 1) := by decide +kernel
theorem dX0_isSame_48 : decode cX0_isSame 48 = .ok (.baload, 1) := by decide +kernel
theorem dX0_isSame_49 : decode cX0_isSame 49 = .ok (.if_icmp .eq 5, 3) := by decide +kernel
theorem dX0_isSame_52 : decode cX0_isSame 52 = .ok (.iconst 0, 1) := by decide +kernel
theorem dX0_isSame_53 : decode cX0_isSame 53 = .ok (.ireturn, 1) := by decide +kernel
theorem dX0_isSame_54 : decode cX0_isSame 54 = .ok (.iinc 5 1, 3) := by decide +kernel
theorem dX0_isSame_57 : decode cX0_isSame 57 = .ok (.goto (-33), 3) := by decide +kernel
theorem dX0_isSame_60 : decode cX0_isSame 60 = .ok (.iconst 1, 1) := by decide +kernel
theorem dX0_isSame_61 : decode cX0_isSame 61 = .ok (.ireturn, 1) := by decide +kernel
theorem dX1_init_0 : decode cX1_init 0 = .ok (.aload_n 0, 1) := by decide +kernel
theorem dX1_init_1 : decode cX1_init 1 = .ok (.invokespecial 1, 3) := by decide +kernel
theorem dX1_init_4 : decode cX1_init 4 = .ok (.aload_n 0, 1) := by decide +kernel
theorem dX1_init_5 : decode cX1_init 5 = .ok (.bipush 8, 2) := by decide +kernel
theorem dX1_init_7 : decode cX1_init 7 = .ok (.newarray .int, 2) := by decide +kernel
theorem dX1_init_9 : decode cX1_init 9 = .ok (.putfield 7, 3) := by decide +kernel
theorem dX1_init_12 : decode cX1_init 12 = .ok (.return_, 1) := by decide +kernel
theorem dX1_size_0 : decode cX1_size 0 = .ok (.aload_n 0, 1) := by decide +kernel
theorem dX1_size_1 : decode cX1_size 1 = .ok (.getfield 13, 3) := by decide +kernel
theorem dX1_size_4 : decode cX1_size 4 = .ok (.ireturn, 1) := by decide +kernel
theorem dX1_clear_0 : decode cX1_clear 0 = .ok (.aload_n 0, 1) := by decide +kernel
theorem dX1_clear_1 : decode cX1_clear 1 = .ok (.iconst 0, 1) := by decide +kernel
theorem dX1_clear_2 : decode cX1_clear 2 = .ok (.putfield 13, 3) := by decide +kernel
theorem dX1_clear_5 : decode cX1_clear 5 = .ok (.return_, 1) := by decide +kernel
theorem dX1_at_0 : decode cX1_at 0 = .ok (.iload_n 1, 1) := by decide +kernel
theorem dX1_at_1 : decode cX1_at 1 = .ok (.ifCond .lt 29, 3) := by decide +kernel
theorem dX1_at_4 : decode cX1_at 4 = .ok (.iload_n 1, 1) := by decide +kernel
theorem dX1_at_5 : decode cX1_at 5 = .ok (.aload_n 0, 1) := by decide +kernel
theorem dX1_at_6 : decode cX1_at 6 = .ok (.getfield 13, 3) := by decide +kernel
theorem dX1_at_9 : decode cX1_at 9 = .ok (.if_icmp .ge 21, 3) := by decide +kernel
theorem dX1_at_12 : decode cX1_at 12 = .ok (.iload_n 1, 1) := by decide +kernel
theorem dX1_at_13 : decode cX1_at 13 = .ok (.aload_n 0, 1) := by decide +kernel
theorem dX1_at_14 : decode cX1_at 14 = .ok (.getfield 7, 3) := by decide +kernel
theorem dX1_at_17 : decode cX1_at 17 = .ok (.arraylength, 1) := by decide +kernel
theorem dX1_at_18 : decode cX1_at 18 = .ok (.if_icmp .ge 12, 3) := by decide +kernel
theorem dX1_at_21 : decode cX1_at 21 = .ok (.aload_n 0, 1) := by decide +kernel
theorem dX1_at_22 : decode cX1_at 22 = .ok (.getfield 7, 3) := by decide +kernel
theorem dX1_at_25 : decode cX1_at 25 = .ok (.iload_n 1, 1) := by decide +kernel
theorem dX1_at_26 : decode cX1_at 26 = .ok (.iaload, 1) := by decide +kernel
theorem dX1_at_27 : decode cX1_at 27 = .ok (.goto 4, 3) := by decide +kernel
theorem dX1_at_30 : decode cX1_at 30 = .ok (.iconst 0, 1) := by decide +kernel
theorem dX1_at_31 : decode cX1_at 31 = .ok (.ireturn, 1) := by decide +kernel
theorem dX1_add_0 : decode cX1_add 0 = .ok (.aload_n 0, 1) := by decide +kernel
theorem dX1_add_1 : decode cX1_add 1 = .ok (.getfield 13, 3) := by decide +kernel
theorem dX1_add_4 : decode cX1_add 4 = .ok (.aload_n 0, 1) := by decide +kernel
theorem dX1_add_5 : decode cX1_add 5 = .ok (.getfield 7, 3) := by decide +kernel
theorem dX1_add_8 : decode cX1_add 8 = .ok (.arraylength, 1) := by decide +kernel
theorem dX1_add_9 : decode cX1_add 9 = .ok (.if_icmp .lt 24, 3) := by decide +kernel
theorem dX1_add_12 : decode cX1_add 12 = .ok (.aload_n 0, 1) := by decide +kernel
theorem dX1_add_13 : decode cX1_add 13 = .ok (.aload_n 0, 1) := by decide +kernel
theorem dX1_add_14 : decode cX1_add 14 = .ok (.getfield 7, 3) := by decide +kernel
theorem dX1_add_17 : decode cX1_add 17 = .ok (.iconst 2, 1) := by decide +kernel
theorem dX1_add_18 : decode cX1_add 18 = .ok (.aload_n 0, 1) := by decide +kernel
theorem dX1_add_19 : decode cX1_add 19 = .ok (.getfield 7, 3) := by decide +kernel
theorem dX1_add_22 : decode cX1_add 22 = .ok (.arraylength, 1) := by decide +kernel
theorem dX1_add_23 : decode cX1_add 23 = .ok (.imul, 1) := by decide +kernel
theorem dX1_add_24 : decode cX1_add 24 = .ok (.bipush 8, 2) := by decide +kernel
theorem dX1_add_26 : decode cX1_add 26 = .ok (.iadd, 1) := by decide +kernel
theorem dX1_add_27 : decode cX1_add 27 = .ok (.invokestatic 17, 3) := by decide +kernel
theorem dX1_add_30 : decode cX1_add 30 = .ok (.putfield 7, 3) := by decide +kernel
theorem dX1_add_33 : decode cX1_add 33 = .ok (.aload_n 0, 1) := by decide +kernel
theorem dX1_add_34 : decode cX1_add 34 = .ok (.getfield 7, 3) := by decide +kernel
theorem dX1_add_37 : decode cX1_add 37 = .ok (.aload_n 0, 1) := by decide +kernel
theorem dX1_add_38 : decode cX1_add 38 = .ok (.getfield 13, 3) := by decide +kernel
theorem dX1_add_41 : decode cX1_add 41 = .ok (.iload_n 1, 1) := by decide +kernel
theorem dX1_add_42 : decode cX1_add 42 = .ok (.iastore, 1) := by decide +kernel
theorem dX1_add_43 : decode cX1_add 43 = .ok (.aload_n 0, 1) := by decide +kernel
theorem dX1_add_44 : decode cX1_add 44 = .ok (.dup, 1) := by decide +kernel
theorem dX1_add_45 : decode cX1_add 45 = .ok (.getfield 13, 3) := by decide +kernel
theorem dX1_add_48 : decode cX1_add 48 = .ok (.iconst 1, 1) := by decide +kernel
theorem dX1_add_49 : decode cX1_add 49 = .ok (.iadd, 1) := by decide +kernel
theorem dX1_add_50 : decode cX1_add 50 = .ok (.putfield 13, 3) := by decide +kernel
theorem dX1_add_53 : decode cX1_add 53 = .ok (.return_, 1) := by decide +kernel
theorem dX2_init_0 : decode cX2_init 0 = .ok (.aload_n 0, 1) := by decide +kernel
theorem dX2_init_1 : decode cX2_init 1 = .ok (.invokespecial 1, 3) := by decide +kernel
theorem dX2_init_4 : decode cX2_init 4 = .ok (.aload_n 0, 1) := by decide +kernel
theorem dX2_init_5 : decode cX2_init 5 = .ok (.new 7, 3) := by decide +kernel
theorem dX2_init_8 : decode cX2_init 8 = .ok (.dup, 1) := by decide +kernel
theorem dX2_init_9 : decode cX2_init 9 = .ok (.invokespecial 9, 3) := by decide +kernel
theorem dX2_init_12 : decode cX2_init 12 = .ok (.putfield 10, 3) := by decide +kernel
theorem dX2_init_15 : decode cX2_init 15 = .ok (.aload_n 0, 1) := by decide +kernel
theorem dX2_init_16 : decode cX2_init 16 = .ok (.new 7, 3) := by decide +kernel
theorem dX2_init_19 : decode cX2_init 19 = .ok (.dup, 1) := by decide +kernel
theorem dX2_init_20 : decode cX2_init 20 = .ok (.invokespecial 9, 3) := by decide +kernel
theorem dX2_init_23 : decode cX2_init 23 = .ok (.putfield 16, 3) := by decide +kernel
theorem dX2_init_26 : decode cX2_init 26 = .ok (.aload_n 0, 1) := by decide +kernel
theorem dX2_init_27 : decode cX2_init 27 = .ok (.iload_n 2, 1) := by decide +kernel
theorem dX2_init_28 : decode cX2_init 28 = .ok (.aload_n 1, 1) := by decide +kernel
theorem dX2_init_29 : decode cX2_init 29 = .ok (.iconst 1, 1) := by decide +kernel
theorem dX2_init_30 : decode cX2_init 30 = .ok (.invokevirtual 19, 3) := by decide +kernel
theorem dX2_init_33 : decode cX2_init 33 = .ok (.iadd, 1) := by decide +kernel
theorem dX2_init_34 : decode cX2_init 34 = .ok (.putfield 25, 3) := by decide +kernel
theorem dX2_init_37 : decode cX2_init 37 = .ok (.aload_n 0, 1) := by decide +kernel
theorem dX2_init_38 : decode cX2_init 38 = .ok (.aload_n 1, 1) := by decide +kernel
theorem dX2_init_39 : decode cX2_init 39 = .ok (.iconst 1, 1) := by decide +kernel
theorem dX2_init_40 : decode cX2_init 40 = .ok (.invokevirtual 29, 3) := by decide +kernel
theorem dX2_init_43 : decode cX2_init 43 = .ok (.aload_n 1, 1) := by decide +kernel
theorem dX2_init_44 : decode cX2_init 44 = .ok (.iconst 1, 1) := by decide +kernel
theorem dX2_init_45 : decode cX2_init 45 = .ok (.invokevirtual 19, 3) := by decide +kernel
theorem dX2_init_48 : decode cX2_init 48 = .ok (.isub, 1) := by decide +kernel
theorem dX2_init_49 : decode cX2_init 49 = .ok (.putfield 32, 3) := by decide +kernel
theorem dX2_init_52 : decode cX2_init 52 = .ok (.aload_n 0, 1) := by decide +kernel
theorem dX2_init_53 : decode cX2_init 53 = .ok (.iload_n 3, 1) := by decide +kernel
theorem dX2_init_54 : decode cX2_init 54 = .ok (.putfield 35, 3) := by decide +kernel
theorem dX2_init_57 : decode cX2_init 57 = .ok (.aload_n 0, 1) := by decide +kernel
theorem dX2_init_58 : decode cX2_init 58 = .ok (.iload 4, 2) := by decide +kernel
theorem dX2_init_60 : decode cX2_init 60 = .ok (.putfield 38, 3) := by decide +kernel
theorem dX2_init_63 : decode cX2_init 63 = .ok (.iconst 2, 1) := by decide +kernel
theorem dX2_init_64 : decode cX2_init 64 = .ok (.istore 5, 2) := by decide +kernel
theorem dX2_init_66 : decode cX2_init 66 = .ok (.iload 5, 2) := by decide +kernel
theorem dX2_init_68 : decode cX2_init 68 = .ok (.aload_n 1, 1) := by decide +kernel
theorem dX2_init_69 : decode cX2_init 69 = .ok (.invokevirtual 41, 3) := by decide +kernel
theorem dX2_init_72 : decode cX2_init 72 = .ok (.if_icmp .ge 44, 3) := by decide +kernel
theorem dX2_init_75 : decode cX2_init 75 = .ok (.aload_n 0, 1) := by decide +kernel
theorem dX2_init_76 : decode cX2_init 76 = .ok (.getfield 10, 3) := by decide +kernel
theorem dX2_init_79 : decode cX2_init 79 = .ok (.iload_n 2, 1) := by decide +kernel
theorem dX2_init_80 : decode cX2_init 80 = .ok (.aload_n 1, 1) := by decide +kernel
theorem dX2_init_81 : decode cX2_init 81 = .ok (.iload 5, 2) := by decide +kernel
theorem dX2_init_83 : decode cX2_init 83 = .ok (.invokevirtual 19, 3) := by decide +kernel
theorem dX2_init_86 : decode cX2_init 86 = .ok (.iadd, 1) := by decide +kernel
theorem dX2_init_87 : decode cX2_init 87 = .ok (.invokevirtual 45, 3) := by decide +kernel
theorem dX2_init_90 : decode cX2_init 90 = .ok (.aload_n 0, 1) := by decide +kernel
theorem dX2_init_91 : decode cX2_init 91 = .ok (.getfield 16, 3) := by decide +kernel
theorem dX2_init_94 : decode cX2_init 94 = .ok (.aload_n 1, 1) := by decide +kernel
theorem dX2_init_95 : decode cX2_init 95 = .ok (.iload 5, 2) := by decide +kernel
theorem dX2_init_97 : decode cX2_init 97 = .ok (.invokevirtual 29, 3) := by decide +kernel
theorem dX2_init_100 : decode cX2_init 100 = .ok (.aload_n 1, 1) := by decide +kernel
theorem dX2_init_101 : decode cX2_init 101 = .ok (.iload 5, 2) := by decide +kernel
theorem dX2_init_103 : decode cX2_init 103 = .ok (.invokevirtual 19, 3) := by decide +kernel
theorem dX2_init_106 : decode cX2_init 106 = .ok (.isub, 1) := by decide +kernel
theorem dX2_init_107 : decode cX2_init 107 = .ok (.invokevirtual 45, 3) := by decide +kernel
theorem dX2_init_110 : decode cX2_init 110 = .ok (.iinc 5 2, 3) := by decide +kernel
theorem dX2_init_113 : decode cX2_init 113 = .ok (.goto (-47), 3) := by decide +kernel
theorem dX2_init_116 : decode cX2_init 116 = .ok (.return_, 1) := by decide +kernel
theorem dX2_places_0 : decode cX2_places 0 = .ok (.aload_n 0, 1) := by decide +kernel
theorem dX2_places_1 : decode cX2_places 1 = .ok (.getfield 10, 3) := by decide +kernel
theorem dX2_places_4 : decode cX2_places 4 = .ok (.invokevirtual 49, 3) := by decide +kernel
theorem dX2_places_7 : decode cX2_places 7 = .ok (.ireturn, 1) := by decide +kernel
theorem dX2_placeLength_0 : decode cX2_placeLength 0 = .ok (.aload_n 0, 1) := by decide +kernel
theorem dX2_placeLength_1 : decode cX2_placeLength 1 = .ok (.getfield 16, 3) := by decide +kernel
theorem dX2_placeLength_4 : decode cX2_placeLength 4 = .ok (.iload_n 1, 1) := by decide +kernel
theorem dX2_placeLength_5 : decode cX2_placeLength 5 = .ok (.invokevirtual 52, 3) := by decide +kernel
theorem dX2_placeLength_8 : decode cX2_placeLength 8 = .ok (.ireturn, 1) := by decide +kernel
theorem dX2_placeAt_0 : decode cX2_placeAt 0 = .ok (.iconst (-1), 1) := by decide +kernel
theorem dX2_placeAt_1 : decode cX2_placeAt 1 = .ok (.istore 4, 2) := by decide +kernel
theorem dX2_placeAt_3 : decode cX2_placeAt 3 = .ok (.iconst 0, 1) := by decide +kernel
theorem dX2_placeAt_4 : decode cX2_placeAt 4 = .ok (.istore 5, 2) := by decide +kernel
theorem dX2_placeAt_6 : decode cX2_placeAt 6 = .ok (.iconst 0, 1) := by decide +kernel
theorem dX2_placeAt_7 : decode cX2_placeAt 7 = .ok (.istore 6, 2) := by decide +kernel
theorem dX2_placeAt_9 : decode cX2_placeAt 9 = .ok (.iload 6, 2) := by decide +kernel
theorem dX2_placeAt_11 : decode cX2_placeAt 11 = .ok (.aload_n 0, 1) := by decide +kernel
theorem dX2_placeAt_12 : decode cX2_placeAt 12 = .ok (.getfield 10, 3) := by decide +kernel
theorem dX2_placeAt_15 : decode cX2_placeAt 15 = .ok (.invokevirtual 49, 3) := by decide +kernel
theorem dX2_placeAt_18 : decode cX2_placeAt 18 = .ok (.if_icmp .ge 63, 3) := by decide +kernel
theorem dX2_placeAt_21 : decode cX2_placeAt 21 = .ok (.aload_n 0, 1) := by decide +kernel
theorem dX2_placeAt_22 : decode cX2_placeAt 22 = .ok (.getfield 16, 3) := by decide +kernel
theorem dX2_placeAt_25 : decode cX2_placeAt 25 = .ok (.iload 6, 2) := by decide +kernel
theorem dX2_placeAt_27 : decode cX2_placeAt 27 = .ok (.invokevirtual 52, 3) := by decide +kernel
theorem dX2_placeAt_30 : decode cX2_placeAt 30 = .ok (.istore 7, 2) := by decide +kernel
theorem dX2_placeAt_32 : decode cX2_placeAt 32 = .ok (.iload 7, 2) := by decide +kernel
theorem dX2_placeAt_34 : decode cX2_placeAt 34 = .ok (.iload 5, 2) := by decide +kernel
theorem dX2_placeAt_36 : decode cX2_placeAt 36 = .ok (.if_icmp .le 39, 3) := by decide +kernel
theorem dX2_placeAt_39 : decode cX2_placeAt 39 = .ok (.iload_n 2, 1) := by decide +kernel
theorem dX2_placeAt_40 : decode cX2_placeAt 40 = .ok (.iload 7, 2) := by decide +kernel
theorem dX2_placeAt_42 : decode cX2_placeAt 42 = .ok (.iadd, 1) := by decide +kernel
theorem dX2_placeAt_43 : decode cX2_placeAt 43 = .ok (.iload_n 3, 1) := by decide +kernel
theorem dX2_placeAt_44 : decode cX2_placeAt 44 = .ok (.if_icmp .gt 31, 3) := by decide +kernel
theorem dX2_placeAt_47 : decode cX2_placeAt 47 = .ok (.aload_n 1, 1) := by decide +kernel
theorem dX2_placeAt_48 : decode cX2_placeAt 48 = .ok (.aload_n 0, 1) := by decide +kernel
theorem dX2_placeAt_49 : decode cX2_placeAt 49 = .ok (.getfield 10, 3) := by decide +kernel
theorem dX2_placeAt_52 : decode cX2_placeAt 52 = .ok (.iload 6, 2) := by decide +kernel
theorem dX2_placeAt_54 : decode cX2_placeAt 54 = .ok (.invokevirtual 52, 3) := by decide +kernel
theorem dX2_placeAt_57 : decode cX2_placeAt 57 = .ok (.iload 7, 2) := by decide +kernel
theorem dX2_placeAt_59 : decode cX2_placeAt 59 = .ok (.aload_n 1, 1) := by decide +kernel
theorem dX2_placeAt_60 : decode cX2_placeAt 60 = .ok (.iload_n 2, 1) := by decide +kernel
theorem dX2_placeAt_61 : decode cX2_placeAt 61 = .ok (.invokevirtual 55, 3) := by decide +kernel
theorem dX2_placeAt_64 : decode cX2_placeAt 64 = .ok (.ifCond .eq 11, 3) := by decide +kernel
theorem dX2_placeAt_67 : decode cX2_placeAt 67 = .ok (.iload 6, 2) := by decide +kernel
theorem dX2_placeAt_69 : decode cX2_placeAt 69 = .ok (.istore 4, 2) := by decide +kernel
theorem dX2_placeAt_71 : decode cX2_placeAt 71 = .ok (.iload 7, 2) := by decide +kernel
theorem dX2_placeAt_73 : decode cX2_placeAt 73 = .ok (.istore 5, 2) := by decide +kernel
theorem dX2_placeAt_75 : decode cX2_placeAt 75 = .ok (.iinc 6 1, 3) := by decide +kernel
theorem dX2_placeAt_78 : decode cX2_placeAt 78 = .ok (.goto (-69), 3) := by decide +kernel
theorem dX2_placeAt_81 : decode cX2_placeAt 81 = .ok (.iload 4, 2) := by decide +kernel
theorem dX2_placeAt_83 : decode cX2_placeAt 83 = .ok (.ireturn, 1) := by decide +kernel
theorem dX3_init_0 : decode cX3_init 0 = .ok (.aload_n 0, 1) := by decide +kernel
theorem dX3_init_1 : decode cX3_init 1 = .ok (.invokespecial 3, 3) := by decide +kernel
theorem dX3_init_4 : decode cX3_init 4 = .ok (.aload_n 0, 1) := by decide +kernel
theorem dX3_init_5 : decode cX3_init 5 = .ok (.bipush 20, 2) := by decide +kernel
theorem dX3_init_7 : decode cX3_init 7 = .ok (.anewarray 9, 3) := by decide +kernel
theorem dX3_init_10 : decode cX3_init 10 = .ok (.putfield 11, 3) := by decide +kernel
theorem dX3_init_13 : decode cX3_init 13 = .ok (.iconst 0, 1) := by decide +kernel
theorem dX3_init_14 : decode cX3_init 14 = .ok (.istore_n 1, 1) := by decide +kernel
theorem dX3_init_15 : decode cX3_init 15 = .ok (.iload_n 1, 1) := by decide +kernel
theorem dX3_init_16 : decode cX3_init 16 = .ok (.aload_n 0, 1) := by decide +kernel
theorem dX3_init_17 : decode cX3_init 17 = .ok (.getfield 11, 3) := by decide +kernel
theorem dX3_init_20 : decode cX3_init 20 = .ok (.arraylength, 1) := by decide +kernel
theorem dX3_init_21 : decode cX3_init 21 = .ok (.if_icmp .ge 22, 3) := by decide +kernel
theorem dX3_init_24 : decode cX3_init 24 = .ok (.aload_n 0, 1) := by decide +kernel
theorem dX3_init_25 : decode cX3_init 25 = .ok (.getfield 11, 3) := by decide +kernel
theorem dX3_init_28 : decode cX3_init 28 = .ok (.iload_n 1, 1) := by decide +kernel
theorem dX3_init_29 : decode cX3_init 29 = .ok (.new 9, 3) := by decide +kernel
theorem dX3_init_32 : decode cX3_init 32 = .ok (.dup, 1) := by decide +kernel
theorem dX3_init_33 : decode cX3_init 33 = .ok (.invokespecial 17, 3) := by decide +kernel
theorem dX3_init_36 : decode cX3_init 36 = .ok (.aastore, 1) := by decide +kernel
theorem dX3_init_37 : decode cX3_init 37 = .ok (.iinc 1 1, 3) := by decide +kernel
theorem dX3_init_40 : decode cX3_init 40 = .ok (.goto (-25), 3) := by decide +kernel
theorem dX3_init_43 : decode cX3_init 43 = .ok (.return_, 1) := by decide +kernel
theorem dX3_size_0 : decode cX3_size 0 = .ok (.aload_n 0, 1) := by decide +kernel
theorem dX3_size_1 : decode cX3_size 1 = .ok (.getfield 18, 3) := by decide +kernel
theorem dX3_size_4 : decode cX3_size 4 = .ok (.ireturn, 1) := by decide +kernel
theorem dX3_clear_0 : decode cX3_clear 0 = .ok (.aload_n 0, 1) := by decide +kernel
theorem dX3_clear_1 : decode cX3_clear 1 = .ok (.iconst 0, 1) := by decide +kernel
theorem dX3_clear_2 : decode cX3_clear 2 = .ok (.putfield 18, 3) := by decide +kernel
theorem dX3_clear_5 : decode cX3_clear 5 = .ok (.return_, 1) := by decide +kernel
theorem dX3_isFull_0 : decode cX3_isFull 0 = .ok (.aload_n 0, 1) := by decide +kernel
theorem dX3_isFull_1 : decode cX3_isFull 1 = .ok (.getfield 18, 3) := by decide +kernel
theorem dX3_isFull_4 : decode cX3_isFull 4 = .ok (.aload_n 0, 1) := by decide +kernel
theorem dX3_isFull_5 : decode cX3_isFull 5 = .ok (.getfield 11, 3) := by decide +kernel
theorem dX3_isFull_8 : decode cX3_isFull 8 = .ok (.arraylength, 1) := by decide +kernel
theorem dX3_isFull_9 : decode cX3_isFull 9 = .ok (.if_icmp .lt 7, 3) := by decide +kernel
theorem dX3_isFull_12 : decode cX3_isFull 12 = .ok (.iconst 1, 1) := by decide +kernel
theorem dX3_isFull_13 : decode cX3_isFull 13 = .ok (.goto 4, 3) := by decide +kernel
theorem dX3_isFull_16 : decode cX3_isFull 16 = .ok (.iconst 0, 1) := by decide +kernel
theorem dX3_isFull_17 : decode cX3_isFull 17 = .ok (.ireturn, 1) := by decide +kernel
theorem dX3_at_0 : decode cX3_at 0 = .ok (.iload_n 1, 1) := by decide +kernel
theorem dX3_at_1 : decode cX3_at 1 = .ok (.ifCond .lt 21, 3) := by decide +kernel
theorem dX3_at_4 : decode cX3_at 4 = .ok (.iload_n 1, 1) := by decide +kernel
theorem dX3_at_5 : decode cX3_at 5 = .ok (.aload_n 0, 1) := by decide +kernel
theorem dX3_at_6 : decode cX3_at 6 = .ok (.getfield 11, 3) := by decide +kernel
theorem dX3_at_9 : decode cX3_at 9 = .ok (.arraylength, 1) := by decide +kernel
theorem dX3_at_10 : decode cX3_at 10 = .ok (.if_icmp .ge 12, 3) := by decide +kernel
theorem dX3_at_13 : decode cX3_at 13 = .ok (.aload_n 0, 1) := by decide +kernel
theorem dX3_at_14 : decode cX3_at 14 = .ok (.getfield 11, 3) := by decide +kernel
theorem dX3_at_17 : decode cX3_at 17 = .ok (.iload_n 1, 1) := by decide +kernel
theorem dX3_at_18 : decode cX3_at 18 = .ok (.aaload, 1) := by decide +kernel
theorem dX3_at_19 : decode cX3_at 19 = .ok (.goto 4, 3) := by decide +kernel
theorem dX3_at_22 : decode cX3_at 22 = .ok (.aconst_null, 1) := by decide +kernel
theorem dX3_at_23 : decode cX3_at 23 = .ok (.areturn, 1) := by decide +kernel
theorem dX3_spare_0 : decode cX3_spare 0 = .ok (.aload_n 0, 1) := by decide +kernel
theorem dX3_spare_1 : decode cX3_spare 1 = .ok (.aload_n 0, 1) := by decide +kernel
theorem dX3_spare_2 : decode cX3_spare 2 = .ok (.getfield 18, 3) := by decide +kernel
theorem dX3_spare_5 : decode cX3_spare 5 = .ok (.invokevirtual 22, 3) := by decide +kernel
theorem dX3_spare_8 : decode cX3_spare 8 = .ok (.areturn, 1) := by decide +kernel
theorem dX3_open_0 : decode cX3_open 0 = .ok (.aload_n 0, 1) := by decide +kernel
theorem dX3_open_1 : decode cX3_open 1 = .ok (.aload_n 0, 1) := by decide +kernel
theorem dX3_open_2 : decode cX3_open 2 = .ok (.getfield 18, 3) := by decide +kernel
theorem dX3_open_5 : decode cX3_open 5 = .ok (.invokevirtual 22, 3) := by decide +kernel
theorem dX3_open_8 : decode cX3_open 8 = .ok (.astore_n 2, 1) := by decide +kernel
theorem dX3_open_9 : decode cX3_open 9 = .ok (.aload_n 2, 1) := by decide +kernel
theorem dX3_open_10 : decode cX3_open 10 = .ok (.ifnull 18, 3) := by decide +kernel
theorem dX3_open_13 : decode cX3_open 13 = .ok (.aload_n 2, 1) := by decide +kernel
theorem dX3_open_14 : decode cX3_open 14 = .ok (.iload_n 1, 1) := by decide +kernel
theorem dX3_open_15 : decode cX3_open 15 = .ok (.putfield 26, 3) := by decide +kernel
theorem dX3_open_18 : decode cX3_open 18 = .ok (.aload_n 0, 1) := by decide +kernel
theorem dX3_open_19 : decode cX3_open 19 = .ok (.dup, 1) := by decide +kernel
theorem dX3_open_20 : decode cX3_open 20 = .ok (.getfield 18, 3) := by decide +kernel
theorem dX3_open_23 : decode cX3_open 23 = .ok (.iconst 1, 1) := by decide +kernel
theorem dX3_open_24 : decode cX3_open 24 = .ok (.iadd, 1) := by decide +kernel
theorem dX3_open_25 : decode cX3_open 25 = .ok (.putfield 18, 3) := by decide +kernel
theorem dX3_open_28 : decode cX3_open 28 = .ok (.aload_n 2, 1) := by decide +kernel
theorem dX3_open_29 : decode cX3_open 29 = .ok (.areturn, 1) := by decide +kernel
theorem dX3_close_0 : decode cX3_close 0 = .ok (.aload_n 0, 1) := by decide +kernel
theorem dX3_close_1 : decode cX3_close 1 = .ok (.getfield 18, 3) := by decide +kernel
theorem dX3_close_4 : decode cX3_close 4 = .ok (.ifCond .le 13, 3) := by decide +kernel
theorem dX3_close_7 : decode cX3_close 7 = .ok (.aload_n 0, 1) := by decide +kernel
theorem dX3_close_8 : decode cX3_close 8 = .ok (.dup, 1) := by decide +kernel
theorem dX3_close_9 : decode cX3_close 9 = .ok (.getfield 18, 3) := by decide +kernel
theorem dX3_close_12 : decode cX3_close 12 = .ok (.iconst 1, 1) := by decide +kernel
theorem dX3_close_13 : decode cX3_close 13 = .ok (.isub, 1) := by decide +kernel
theorem dX3_close_14 : decode cX3_close 14 = .ok (.putfield 18, 3) := by decide +kernel
theorem dX3_close_17 : decode cX3_close 17 = .ok (.return_, 1) := by decide +kernel
theorem dX3_top_0 : decode cX3_top 0 = .ok (.aload_n 0, 1) := by decide +kernel
theorem dX3_top_1 : decode cX3_top 1 = .ok (.aload_n 0, 1) := by decide +kernel
theorem dX3_top_2 : decode cX3_top 2 = .ok (.getfield 18, 3) := by decide +kernel
theorem dX3_top_5 : decode cX3_top 5 = .ok (.iconst 1, 1) := by decide +kernel
theorem dX3_top_6 : decode cX3_top 6 = .ok (.isub, 1) := by decide +kernel
theorem dX3_top_7 : decode cX3_top 7 = .ok (.invokevirtual 22, 3) := by decide +kernel
theorem dX3_top_10 : decode cX3_top 10 = .ok (.areturn, 1) := by decide +kernel
theorem dX3_topKind_0 : decode cX3_topKind 0 = .ok (.aload_n 0, 1) := by decide +kernel
theorem dX3_topKind_1 : decode cX3_topKind 1 = .ok (.invokevirtual 29, 3) := by decide +kernel
theorem dX3_topKind_4 : decode cX3_topKind 4 = .ok (.astore_n 1, 1) := by decide +kernel
theorem dX3_topKind_5 : decode cX3_topKind 5 = .ok (.aload_n 1, 1) := by decide +kernel
theorem dX3_topKind_6 : decode cX3_topKind 6 = .ok (.ifnonnull 7, 3) := by decide +kernel
theorem dX3_topKind_9 : decode cX3_topKind 9 = .ok (.iconst 0, 1) := by decide +kernel
theorem dX3_topKind_10 : decode cX3_topKind 10 = .ok (.goto 7, 3) := by decide +kernel
theorem dX3_topKind_13 : decode cX3_topKind 13 = .ok (.aload_n 1, 1) := by decide +kernel
theorem dX3_topKind_14 : decode cX3_topKind 14 = .ok (.getfield 26, 3) := by decide +kernel
theorem dX3_topKind_17 : decode cX3_topKind 17 = .ok (.ireturn, 1) := by decide +kernel
theorem dX3_innermostLines_0 : decode cX3_innermostLines 0 = .ok (.aload_n 0, 1) := by decide +kernel
theorem dX3_innermostLines_1 : decode cX3_innermostLines 1 = .ok (.getfield 18, 3) := by decide +kernel
theorem dX3_innermostLines_4 : decode cX3_innermostLines 4 = .ok (.iconst 1, 1) := by decide +kernel
theorem dX3_innermostLines_5 : decode cX3_innermostLines 5 = .ok (.isub, 1) := by decide +kernel
theorem dX3_innermostLines_6 : decode cX3_innermostLines 6 = .ok (.istore_n 1, 1) := by decide +kernel
theorem dX3_innermostLines_7 : decode cX3_innermostLines 7 = .ok (.iload_n 1, 1) := by decide +kernel
theorem dX3_innermostLines_8 : decode cX3_innermostLines 8 = .ok (.ifCond .lt 28, 3) := by decide +kernel
theorem dX3_innermostLines_11 : decode cX3_innermostLines 11 = .ok (.aload_n 0, 1) := by decide +kernel
theorem dX3_innermostLines_12 : decode cX3_innermostLines 12 = .ok (.iload_n 1, 1) := by decide +kernel
theorem dX3_innermostLines_13 : decode cX3_innermostLines 13 = .ok (.invokevirtual 22, 3) := by decide +kernel
theorem dX3_innermostLines_16 : decode cX3_innermostLines 16 = .ok (.astore_n 2, 1) := by decide +kernel
theorem dX3_innermostLines_17 : decode cX3_innermostLines 17 = .ok (.aload_n 2, 1) := by decide +kernel
theorem dX3_innermostLines_18 : decode cX3_innermostLines 18 = .ok (.ifnull 12, 3) := by decide +kernel
theorem dX3_innermostLines_21 : decode cX3_innermostLines 21 = .ok (.aload_n 2, 1) := by decide +kernel
theorem dX3_innermostLines_22 : decode cX3_innermostLines 22 = .ok (.invokevirtual 33, 3) := by decide +kernel
theorem dX3_innermostLines_25 : decode cX3_innermostLines 25 = .ok (.ifCond .eq 5, 3) := by decide +kernel
theorem dX3_innermostLines_28 : decode cX3_innermostLines 28 = .ok (.aload_n 2, 1) := by decide +kernel
theorem dX3_innermostLines_29 : decode cX3_innermostLines 29 = .ok (.areturn, 1) := by decide +kernel
theorem dX3_innermostLines_30 : decode cX3_innermostLines 30 = .ok (.iinc 1 (-1), 3) := by decide +kernel
theorem dX3_innermostLines_33 : decode cX3_innermostLines 33 = .ok (.goto (-26), 3) := by decide +kernel
theorem dX3_innermostLines_36 : decode cX3_innermostLines 36 = .ok (.aconst_null, 1) := by decide +kernel
theorem dX3_innermostLines_37 : decode cX3_innermostLines 37 = .ok (.areturn, 1) := by decide +kernel
theorem dX3_innermostMacro_0 : decode cX3_innermostMacro 0 = .ok (.aload_n 0, 1) := by decide +kernel
theorem dX3_innermostMacro_1 : decode cX3_innermostMacro 1 = .ok (.getfield 18, 3) := by decide +kernel
theorem dX3_innermostMacro_4 : decode cX3_innermostMacro 4 = .ok (.iconst 1, 1) := by decide +kernel
theorem dX3_innermostMacro_5 : decode cX3_innermostMacro 5 = .ok (.isub, 1) := by decide +kernel
theorem dX3_innermostMacro_6 : decode cX3_innermostMacro 6 = .ok (.istore_n 1, 1) := by decide +kernel
theorem dX3_innermostMacro_7 : decode cX3_innermostMacro 7 = .ok (.iload_n 1, 1) := by decide +kernel
theorem dX3_innermostMacro_8 : decode cX3_innermostMacro 8 = .ok (.ifCond .lt 30, 3) := by decide +kernel
theorem dX3_innermostMacro_11 : decode cX3_innermostMacro 11 = .ok (.aload_n 0, 1) := by decide +kernel
theorem dX3_innermostMacro_12 : decode cX3_innermostMacro 12 = .ok (.iload_n 1, 1) := by decide +kernel
theorem dX3_innermostMacro_13 : decode cX3_innermostMacro 13 = .ok (.invokevirtual 22, 3) := by decide +kernel
theorem dX3_innermostMacro_16 : decode cX3_innermostMacro 16 = .ok (.astore_n 2, 1) := by decide +kernel
theorem dX3_innermostMacro_17 : decode cX3_innermostMacro 17 = .ok (.aload_n 2, 1) := by decide +kernel
theorem dX3_innermostMacro_18 : decode cX3_innermostMacro 18 = .ok (.ifnull 14, 3) := by decide +kernel
theorem dX3_innermostMacro_21 : decode cX3_innermostMacro 21 = .ok (.aload_n 2, 1) := by decide +kernel
theorem dX3_innermostMacro_22 : decode cX3_innermostMacro 22 = .ok (.getfield 26, 3) := by decide +kernel
theorem dX3_innermostMacro_25 : decode cX3_innermostMacro 25 = .ok (.bipush 6, 2) := by decide +kernel
theorem dX3_innermostMacro_27 : decode cX3_innermostMacro 27 = .ok (.if_icmp .ne 5, 3) := by decide +kernel
theorem dX3_innermostMacro_30 : decode cX3_innermostMacro 30 = .ok (.aload_n 2, 1) := by decide +kernel
theorem dX3_innermostMacro_31 : decode cX3_innermostMacro 31 = .ok (.areturn, 1) := by decide +kernel
theorem dX3_innermostMacro_32 : decode cX3_innermostMacro 32 = .ok (.iinc 1 (-1), 3) := by decide +kernel
theorem dX3_innermostMacro_35 : decode cX3_innermostMacro 35 = .ok (.goto (-28), 3) := by decide +kernel
theorem dX3_innermostMacro_38 : decode cX3_innermostMacro 38 = .ok (.aconst_null, 1) := by decide +kernel
theorem dX3_innermostMacro_39 : decode cX3_innermostMacro 39 = .ok (.areturn, 1) := by decide +kernel
theorem dX4_init_0 : decode cX4_init 0 = .ok (.aload_n 0, 1) := by decide +kernel
theorem dX4_init_1 : decode cX4_init 1 = .ok (.invokespecial 3, 3) := by decide +kernel
theorem dX4_init_4 : decode cX4_init 4 = .ok (.aload_n 0, 1) := by decide +kernel
theorem dX4_init_5 : decode cX4_init 5 = .ok (.new 9, 3) := by decide +kernel
theorem dX4_init_8 : decode cX4_init 8 = .ok (.dup, 1) := by decide +kernel
theorem dX4_init_9 : decode cX4_init 9 = .ok (.bipush 16, 2) := by decide +kernel
theorem dX4_init_11 : decode cX4_init 11 = .ok (.sipush 1024, 3) := by decide +kernel
theorem dX4_init_14 : decode cX4_init 14 = .ok (.invokespecial 11, 3) := by decide +kernel
theorem dX4_init_17 : decode cX4_init 17 = .ok (.putfield 14, 3) := by decide +kernel
theorem dX4_init_20 : decode cX4_init 20 = .ok (.aload_n 0, 1) := by decide +kernel
theorem dX4_init_21 : decode cX4_init 21 = .ok (.new 20, 3) := by decide +kernel
theorem dX4_init_24 : decode cX4_init 24 = .ok (.dup, 1) := by decide +kernel
theorem dX4_init_25 : decode cX4_init 25 = .ok (.invokespecial 22, 3) := by decide +kernel
theorem dX4_init_28 : decode cX4_init 28 = .ok (.putfield 23, 3) := by decide +kernel
theorem dX4_init_31 : decode cX4_init 31 = .ok (.aload_n 0, 1) := by decide +kernel
theorem dX4_init_32 : decode cX4_init 32 = .ok (.new 20, 3) := by decide +kernel
theorem dX4_init_35 : decode cX4_init 35 = .ok (.dup, 1) := by decide +kernel
theorem dX4_init_36 : decode cX4_init 36 = .ok (.invokespecial 22, 3) := by decide +kernel
theorem dX4_init_39 : decode cX4_init 39 = .ok (.putfield 27, 3) := by decide +kernel
theorem dX4_init_42 : decode cX4_init 42 = .ok (.return_, 1) := by decide +kernel
theorem dX4_hasLines_0 : decode cX4_hasLines 0 = .ok (.aload_n 0, 1) := by decide +kernel
theorem dX4_hasLines_1 : decode cX4_hasLines 1 = .ok (.getfield 30, 3) := by decide +kernel
theorem dX4_hasLines_4 : decode cX4_hasLines 4 = .ok (.iconst 4, 1) := by decide +kernel
theorem dX4_hasLines_5 : decode cX4_hasLines 5 = .ok (.if_icmp .eq 12, 3) := by decide +kernel
theorem dX4_hasLines_8 : decode cX4_hasLines 8 = .ok (.aload_n 0, 1) := by decide +kernel
theorem dX4_hasLines_9 : decode cX4_hasLines 9 = .ok (.getfield 30, 3) := by decide +kernel
theorem dX4_hasLines_12 : decode cX4_hasLines 12 = .ok (.bipush 6, 2) := by decide +kernel
theorem dX4_hasLines_14 : decode cX4_hasLines 14 = .ok (.if_icmp .ne 7, 3) := by decide +kernel
theorem dX4_hasLines_17 : decode cX4_hasLines 17 = .ok (.iconst 1, 1) := by decide +kernel
theorem dX4_hasLines_18 : decode cX4_hasLines 18 = .ok (.goto 4, 3) := by decide +kernel
theorem dX4_hasLines_21 : decode cX4_hasLines 21 = .ok (.iconst 0, 1) := by decide +kernel
theorem dX4_hasLines_22 : decode cX4_hasLines 22 = .ok (.ireturn, 1) := by decide +kernel
theorem dX4_lay_0 : decode cX4_lay 0 = .ok (.aload_n 0, 1) := by decide +kernel
theorem dX4_lay_1 : decode cX4_lay 1 = .ok (.iload_n 1, 1) := by decide +kernel
theorem dX4_lay_2 : decode cX4_lay 2 = .ok (.putfield 34, 3) := by decide +kernel
theorem dX4_lay_5 : decode cX4_lay 5 = .ok (.aload_n 0, 1) := by decide +kernel
theorem dX4_lay_6 : decode cX4_lay 6 = .ok (.iload_n 2, 1) := by decide +kernel
theorem dX4_lay_7 : decode cX4_lay 7 = .ok (.putfield 37, 3) := by decide +kernel
theorem dX4_lay_10 : decode cX4_lay 10 = .ok (.aload_n 0, 1) := by decide +kernel
theorem dX4_lay_11 : decode cX4_lay 11 = .ok (.iload_n 3, 1) := by decide +kernel
theorem dX4_lay_12 : decode cX4_lay 12 = .ok (.putfield 40, 3) := by decide +kernel
theorem dX4_lay_15 : decode cX4_lay 15 = .ok (.aload_n 0, 1) := by decide +kernel
theorem dX4_lay_16 : decode cX4_lay 16 = .ok (.iload 4, 2) := by decide +kernel
theorem dX4_lay_18 : decode cX4_lay 18 = .ok (.putfield 43, 3) := by decide +kernel
theorem dX4_lay_21 : decode cX4_lay 21 = .ok (.return_, 1) := by decide +kernel
theorem dX4_gather_0 : decode cX4_gather 0 = .ok (.aload_n 0, 1) := by decide +kernel
theorem dX4_gather_1 : decode cX4_gather 1 = .ok (.aload_n 3, 1) := by decide +kernel
theorem dX4_gather_2 : decode cX4_gather 2 = .ok (.putfield 46, 3) := by decide +kernel
theorem dX4_gather_5 : decode cX4_gather 5 = .ok (.aload_n 0, 1) := by decide +kernel
theorem dX4_gather_6 : decode cX4_gather 6 = .ok (.getfield 14, 3) := by decide +kernel
theorem dX4_gather_9 : decode cX4_gather 9 = .ok (.invokevirtual 50, 3) := by decide +kernel
theorem dX4_gather_12 : decode cX4_gather 12 = .ok (.aload_n 0, 1) := by decide +kernel
theorem dX4_gather_13 : decode cX4_gather 13 = .ok (.getfield 14, 3) := by decide +kernel
theorem dX4_gather_16 : decode cX4_gather 16 = .ok (.aload_n 1, 1) := by decide +kernel
theorem dX4_gather_17 : decode cX4_gather 17 = .ok (.iconst 0, 1) := by decide +kernel
theorem dX4_gather_18 : decode cX4_gather 18 = .ok (.aload_n 1, 1) := by decide +kernel
theorem dX4_gather_19 : decode cX4_gather 19 = .ok (.invokevirtual 53, 3) := by decide +kernel
theorem dX4_gather_22 : decode cX4_gather 22 = .ok (.invokevirtual 57, 3) := by decide +kernel
theorem dX4_gather_25 : decode cX4_gather 25 = .ok (.pop, 1) := by decide +kernel
theorem dX4_gather_26 : decode cX4_gather 26 = .ok (.aload_n 0, 1) := by decide +kernel
theorem dX4_gather_27 : decode cX4_gather 27 = .ok (.getfield 23, 3) := by decide +kernel
theorem dX4_gather_30 : decode cX4_gather 30 = .ok (.invokevirtual 61, 3) := by decide +kernel
theorem dX4_gather_33 : decode cX4_gather 33 = .ok (.aload_n 0, 1) := by decide +kernel
theorem dX4_gather_34 : decode cX4_gather 34 = .ok (.getfield 27, 3) := by decide +kernel
theorem dX4_gather_37 : decode cX4_gather 37 = .ok (.invokevirtual 61, 3) := by decide +kernel
theorem dX4_gather_40 : decode cX4_gather 40 = .ok (.aload_n 2, 1) := by decide +kernel
theorem dX4_gather_41 : decode cX4_gather 41 = .ok (.invokevirtual 62, 3) := by decide +kernel
theorem dX4_gather_44 : decode cX4_gather 44 = .ok (.istore 4, 2) := by decide +kernel
theorem dX4_gather_46 : decode cX4_gather 46 = .ok (.iload 4, 2) := by decide +kernel
theorem dX4_gather_48 : decode cX4_gather 48 = .ok (.iconst 2, 1) := by decide +kernel
theorem dX4_gather_49 : decode cX4_gather 49 = .ok (.if_icmp .ge 5, 3) := by decide +kernel
theorem dX4_gather_52 : decode cX4_gather 52 = .ok (.iconst 1, 1) := by decide +kernel
theorem dX4_gather_53 : decode cX4_gather 53 = .ok (.ireturn, 1) := by decide +kernel
theorem dX4_gather_54 : decode cX4_gather 54 = .ok (.iconst 1, 1) := by decide +kernel
theorem dX4_gather_55 : decode cX4_gather 55 = .ok (.istore 5, 2) := by decide +kernel
theorem dX4_gather_57 : decode cX4_gather 57 = .ok (.iconst 0, 1) := by decide +kernel
theorem dX4_gather_58 : decode cX4_gather 58 = .ok (.istore 6, 2) := by decide +kernel
theorem dX4_gather_60 : decode cX4_gather 60 = .ok (.iconst 1, 1) := by decide +kernel
theorem dX4_gather_61 : decode cX4_gather 61 = .ok (.istore 7, 2) := by decide +kernel
theorem dX4_gather_63 : decode cX4_gather 63 = .ok (.iload 7, 2) := by decide +kernel
theorem dX4_gather_65 : decode cX4_gather 65 = .ok (.iload 4, 2) := by decide +kernel
theorem dX4_gather_67 : decode cX4_gather 67 = .ok (.if_icmp .ge 89, 3) := by decide +kernel
theorem dX4_gather_70 : decode cX4_gather 70 = .ok (.aload_n 2, 1) := by decide +kernel
theorem dX4_gather_71 : decode cX4_gather 71 = .ok (.iload 7, 2) := by decide +kernel
theorem dX4_gather_73 : decode cX4_gather 73 = .ok (.invokevirtual 67, 3) := by decide +kernel
theorem dX4_gather_76 : decode cX4_gather 76 = .ok (.istore 8, 2) := by decide +kernel
theorem dX4_gather_78 : decode cX4_gather 78 = .ok (.iload 8, 2) := by decide +kernel
theorem dX4_gather_80 : decode cX4_gather 80 = .ok (.bipush 44, 2) := by decide +kernel
theorem dX4_gather_82 : decode cX4_gather 82 = .ok (.if_icmp .ne 26, 3) := by decide +kernel
theorem dX4_gather_85 : decode cX4_gather 85 = .ok (.iload 6, 2) := by decide +kernel
theorem dX4_gather_87 : decode cX4_gather 87 = .ok (.ifCond .ne 21, 3) := by decide +kernel
theorem dX4_gather_90 : decode cX4_gather 90 = .ok (.aload_n 0, 1) := by decide +kernel
theorem dX4_gather_91 : decode cX4_gather 91 = .ok (.aload_n 2, 1) := by decide +kernel
theorem dX4_gather_92 : decode cX4_gather 92 = .ok (.iload 5, 2) := by decide +kernel
theorem dX4_gather_94 : decode cX4_gather 94 = .ok (.iload 7, 2) := by decide +kernel
theorem dX4_gather_96 : decode cX4_gather 96 = .ok (.invokevirtual 70, 3) := by decide +kernel
theorem dX4_gather_99 : decode cX4_gather 99 = .ok (.iload 7, 2) := by decide +kernel
theorem dX4_gather_101 : decode cX4_gather 101 = .ok (.iconst 1, 1) := by decide +kernel
theorem dX4_gather_102 : decode cX4_gather 102 = .ok (.iadd, 1) := by decide +kernel
theorem dX4_gather_103 : decode cX4_gather 103 = .ok (.istore 5, 2) := by decide +kernel
theorem dX4_gather_105 : decode cX4_gather 105 = .ok (.goto 45, 3) := by decide +kernel
theorem dX4_gather_108 : decode cX4_gather 108 = .ok (.iload 8, 2) := by decide +kernel
theorem dX4_gather_110 : decode cX4_gather 110 = .ok (.bipush 40, 2) := by decide +kernel
theorem dX4_gather_112 : decode cX4_gather 112 = .ok (.if_icmp .eq 10, 3) := by decide +kernel
theorem dX4_gather_115 : decode cX4_gather 115 = .ok (.iload 8, 2) := by decide +kernel
theorem dX4_gather_117 : decode cX4_gather 117 = .ok (.bipush 91, 2) := by decide +kernel
theorem dX4_gather_119 : decode cX4_gather 119 = .ok (.if_icmp .ne 9, 3) := by decide +kernel
theorem dX4_gather_122 : decode cX4_gather 122 = .ok (.iinc 6 1, 3) := by decide +kernel
theorem dX4_gather_125 : decode cX4_gather 125 = .ok (.goto 25, 3) := by decide +kernel
theorem dX4_gather_128 : decode cX4_gather 128 = .ok (.iload 8, 2) := by decide +kernel
theorem dX4_gather_130 : decode cX4_gather 130 = .ok (.bipush 41, 2) := by decide +kernel
theorem dX4_gather_132 : decode cX4_gather 132 = .ok (.if_icmp .eq 10, 3) := by decide +kernel
theorem dX4_gather_135 : decode cX4_gather 135 = .ok (.iload 8, 2) := by decide +kernel
theorem dX4_gather_137 : decode cX4_gather 137 = .ok (.bipush 93, 2) := by decide +kernel
theorem dX4_gather_139 : decode cX4_gather 139 = .ok (.if_icmp .ne 11, 3) := by decide +kernel
theorem dX4_gather_142 : decode cX4_gather 142 = .ok (.iload 6, 2) := by decide +kernel
theorem dX4_gather_144 : decode cX4_gather 144 = .ok (.ifCond .le 6, 3) := by decide +kernel
theorem dX4_gather_147 : decode cX4_gather 147 = .ok (.iinc 6 (-1), 3) := by decide +kernel
theorem dX4_gather_150 : decode cX4_gather 150 = .ok (.iinc 7 1, 3) := by decide +kernel
theorem dX4_gather_153 : decode cX4_gather 153 = .ok (.goto (-90), 3) := by decide +kernel
theorem dX4_gather_156 : decode cX4_gather 156 = .ok (.aload_n 0, 1) := by decide +kernel
theorem dX4_gather_157 : decode cX4_gather 157 = .ok (.aload_n 2, 1) := by decide +kernel
theorem dX4_gather_158 : decode cX4_gather 158 = .ok (.iload 5, 2) := by decide +kernel
theorem dX4_gather_160 : decode cX4_gather 160 = .ok (.iload 4, 2) := by decide +kernel
theorem dX4_gather_162 : decode cX4_gather 162 = .ok (.invokevirtual 70, 3) := by decide +kernel
theorem dX4_gather_165 : decode cX4_gather 165 = .ok (.aload_n 0, 1) := by decide +kernel
theorem dX4_gather_166 : decode cX4_gather 166 = .ok (.getfield 23, 3) := by decide +kernel
theorem dX4_gather_169 : decode cX4_gather 169 = .ok (.invokevirtual 74, 3) := by decide +kernel
theorem dX4_gather_172 : decode cX4_gather 172 = .ok (.aload_n 3, 1) := by decide +kernel
theorem dX4_gather_173 : decode cX4_gather 173 = .ok (.invokevirtual 75, 3) := by decide +kernel
theorem dX4_gather_176 : decode cX4_gather 176 = .ok (.if_icmp .gt 7, 3) := by decide +kernel
theorem dX4_gather_179 : decode cX4_gather 179 = .ok (.iconst 1, 1) := by decide +kernel
theorem dX4_gather_180 : decode cX4_gather 180 = .ok (.goto 4, 3) := by decide +kernel
theorem dX4_gather_183 : decode cX4_gather 183 = .ok (.iconst 0, 1) := by decide +kernel
theorem dX4_gather_184 : decode cX4_gather 184 = .ok (.ireturn, 1) := by decide +kernel
theorem dX4_keep_0 : decode cX4_keep 0 = .ok (.iload_n 2, 1) := by decide +kernel
theorem dX4_keep_1 : decode cX4_keep 1 = .ok (.iload_n 3, 1) := by decide +kernel
theorem dX4_keep_2 : decode cX4_keep 2 = .ok (.if_icmp .ge 7, 3) := by decide +kernel
theorem dX4_keep_5 : decode cX4_keep 5 = .ok (.iconst 1, 1) := by decide +kernel
theorem dX4_keep_6 : decode cX4_keep 6 = .ok (.goto 4, 3) := by decide +kernel
theorem dX4_keep_9 : decode cX4_keep 9 = .ok (.iconst 0, 1) := by decide +kernel
theorem dX4_keep_10 : decode cX4_keep 10 = .ok (.istore 4, 2) := by decide +kernel
theorem dX4_keep_12 : decode cX4_keep 12 = .ok (.aload_n 0, 1) := by decide +kernel
theorem dX4_keep_13 : decode cX4_keep 13 = .ok (.getfield 23, 3) := by decide +kernel
theorem dX4_keep_16 : decode cX4_keep 16 = .ok (.iload 4, 2) := by decide +kernel
theorem dX4_keep_18 : decode cX4_keep 18 = .ok (.ifCond .eq 11, 3) := by decide +kernel
theorem dX4_keep_21 : decode cX4_keep 21 = .ok (.aload_n 1, 1) := by decide +kernel
theorem dX4_keep_22 : decode cX4_keep 22 = .ok (.iload_n 2, 1) := by decide +kernel
theorem dX4_keep_23 : decode cX4_keep 23 = .ok (.invokevirtual 80, 3) := by decide +kernel
theorem dX4_keep_26 : decode cX4_keep 26 = .ok (.goto 4, 3) := by decide +kernel
theorem dX4_keep_29 : decode cX4_keep 29 = .ok (.iconst 0, 1) := by decide +kernel
theorem dX4_keep_30 : decode cX4_keep 30 = .ok (.invokevirtual 83, 3) := by decide +kernel
theorem dX4_keep_33 : decode cX4_keep 33 = .ok (.aload_n 0, 1) := by decide +kernel
theorem dX4_keep_34 : decode cX4_keep 34 = .ok (.getfield 27, 3) := by decide +kernel
theorem dX4_keep_37 : decode cX4_keep 37 = .ok (.iload 4, 2) := by decide +kernel
theorem dX4_keep_39 : decode cX4_keep 39 = .ok (.ifCond .eq 13, 3) := by decide +kernel
theorem dX4_keep_42 : decode cX4_keep 42 = .ok (.aload_n 1, 1) := by decide +kernel
theorem dX4_keep_43 : decode cX4_keep 43 = .ok (.iload_n 3, 1) := by decide +kernel
theorem dX4_keep_44 : decode cX4_keep 44 = .ok (.iconst 1, 1) := by decide +kernel
theorem dX4_keep_45 : decode cX4_keep 45 = .ok (.isub, 1) := by decide +kernel
theorem dX4_keep_46 : decode cX4_keep 46 = .ok (.invokevirtual 87, 3) := by decide +kernel
theorem dX4_keep_49 : decode cX4_keep 49 = .ok (.goto 4, 3) := by decide +kernel
theorem dX4_keep_52 : decode cX4_keep 52 = .ok (.iconst 0, 1) := by decide +kernel
theorem dX4_keep_53 : decode cX4_keep 53 = .ok (.invokevirtual 83, 3) := by decide +kernel
theorem dX4_keep_56 : decode cX4_keep 56 = .ok (.return_, 1) := by decide +kernel
theorem dX4_write_0 : decode cX4_write 0 = .ok (.iload_n 2, 1) := by decide +kernel
theorem dX4_write_1 : decode cX4_write 1 = .ok (.istore 5, 2) := by decide +kernel
theorem dX4_write_3 : decode cX4_write 3 = .ok (.iload_n 2, 1) := by decide +kernel
theorem dX4_write_4 : decode cX4_write 4 = .ok (.istore 6, 2) := by decide +kernel
theorem dX4_write_6 : decode cX4_write 6 = .ok (.iload 6, 2) := by decide +kernel
theorem dX4_write_8 : decode cX4_write 8 = .ok (.iload_n 3, 1) := by decide +kernel
theorem dX4_write_9 : decode cX4_write 9 = .ok (.if_icmp .ge 41, 3) := by decide +kernel
theorem dX4_write_12 : decode cX4_write 12 = .ok (.iload 5, 2) := by decide +kernel
theorem dX4_write_14 : decode cX4_write 14 = .ok (.iload_n 3, 1) := by decide +kernel
theorem dX4_write_15 : decode cX4_write 15 = .ok (.if_icmp .ge 35, 3) := by decide +kernel
theorem dX4_write_18 : decode cX4_write 18 = .ok (.aload_n 0, 1) := by decide +kernel
theorem dX4_write_19 : decode cX4_write 19 = .ok (.aload_n 1, 1) := by decide +kernel
theorem dX4_write_20 : decode cX4_write 20 = .ok (.iload 5, 2) := by decide +kernel
theorem dX4_write_22 : decode cX4_write 22 = .ok (.iload_n 3, 1) := by decide +kernel
theorem dX4_write_23 : decode cX4_write 23 = .ok (.aload 4, 2) := by decide +kernel
theorem dX4_write_25 : decode cX4_write 25 = .ok (.invokevirtual 90, 3) := by decide +kernel
theorem dX4_write_28 : decode cX4_write 28 = .ok (.istore 7, 2) := by decide +kernel
theorem dX4_write_30 : decode cX4_write 30 = .ok (.iload 7, 2) := by decide +kernel
theorem dX4_write_32 : decode cX4_write 32 = .ok (.ifCond .ne 5, 3) := by decide +kernel
theorem dX4_write_35 : decode cX4_write 35 = .ok (.iconst 0, 1) := by decide +kernel
theorem dX4_write_36 : decode cX4_write 36 = .ok (.ireturn, 1) := by decide +kernel
theorem dX4_write_37 : decode cX4_write 37 = .ok (.iload 5, 2) := by decide +kernel
theorem dX4_write_39 : decode cX4_write 39 = .ok (.iload 7, 2) := by decide +kernel
theorem dX4_write_41 : decode cX4_write 41 = .ok (.iadd, 1) := by decide +kernel
theorem dX4_write_42 : decode cX4_write 42 = .ok (.istore 5, 2) := by decide +kernel
theorem dX4_write_44 : decode cX4_write 44 = .ok (.iinc 6 1, 3) := by decide +kernel
theorem dX4_write_47 : decode cX4_write 47 = .ok (.goto (-41), 3) := by decide +kernel
theorem dX4_write_50 : decode cX4_write 50 = .ok (.iconst 1, 1) := by decide +kernel
theorem dX4_write_51 : decode cX4_write 51 = .ok (.ireturn, 1) := by decide +kernel
theorem dX4_writeAt_0 : decode cX4_writeAt 0 = .ok (.aload_n 1, 1) := by decide +kernel
theorem dX4_writeAt_1 : decode cX4_writeAt 1 = .ok (.iload_n 2, 1) := by decide +kernel
theorem dX4_writeAt_2 : decode cX4_writeAt 2 = .ok (.invokevirtual 94, 3) := by decide +kernel
theorem dX4_writeAt_5 : decode cX4_writeAt 5 = .ok (.istore 5, 2) := by decide +kernel
theorem dX4_writeAt_7 : decode cX4_writeAt 7 = .ok (.iload 5, 2) := by decide +kernel
theorem dX4_writeAt_9 : decode cX4_writeAt 9 = .ok (.bipush 92, 2) := by decide +kernel
theorem dX4_writeAt_11 : decode cX4_writeAt 11 = .ok (.if_icmp .eq 19, 3) := by decide +kernel
theorem dX4_writeAt_14 : decode cX4_writeAt 14 = .ok (.aload 4, 2) := by decide +kernel
theorem dX4_writeAt_16 : decode cX4_writeAt 16 = .ok (.iload 5, 2) := by decide +kernel
theorem dX4_writeAt_18 : decode cX4_writeAt 18 = .ok (.invokevirtual 97, 3) := by decide +kernel
theorem dX4_writeAt_21 : decode cX4_writeAt 21 = .ok (.ifCond .eq 7, 3) := by decide +kernel
theorem dX4_writeAt_24 : decode cX4_writeAt 24 = .ok (.iconst 1, 1) := by decide +kernel
theorem dX4_writeAt_25 : decode cX4_writeAt 25 = .ok (.goto 4, 3) := by decide +kernel
theorem dX4_writeAt_28 : decode cX4_writeAt 28 = .ok (.iconst 0, 1) := by decide +kernel
theorem dX4_writeAt_29 : decode cX4_writeAt 29 = .ok (.ireturn, 1) := by decide +kernel
theorem dX4_writeAt_30 : decode cX4_writeAt 30 = .ok (.iload_n 2, 1) := by decide +kernel
theorem dX4_writeAt_31 : decode cX4_writeAt 31 = .ok (.iconst 1, 1) := by decide +kernel
theorem dX4_writeAt_32 : decode cX4_writeAt 32 = .ok (.iadd, 1) := by decide +kernel
theorem dX4_writeAt_33 : decode cX4_writeAt 33 = .ok (.iload_n 3, 1) := by decide +kernel
theorem dX4_writeAt_34 : decode cX4_writeAt 34 = .ok (.if_icmp .ge 33, 3) := by decide +kernel
theorem dX4_writeAt_37 : decode cX4_writeAt 37 = .ok (.aload_n 1, 1) := by decide +kernel
theorem dX4_writeAt_38 : decode cX4_writeAt 38 = .ok (.iload_n 2, 1) := by decide +kernel
theorem dX4_writeAt_39 : decode cX4_writeAt 39 = .ok (.iconst 1, 1) := by decide +kernel
theorem dX4_writeAt_40 : decode cX4_writeAt 40 = .ok (.iadd, 1) := by decide +kernel
theorem dX4_writeAt_41 : decode cX4_writeAt 41 = .ok (.invokevirtual 94, 3) := by decide +kernel
theorem dX4_writeAt_44 : decode cX4_writeAt 44 = .ok (.bipush 64, 2) := by decide +kernel
theorem dX4_writeAt_46 : decode cX4_writeAt 46 = .ok (.if_icmp .ne 21, 3) := by decide +kernel
theorem dX4_writeAt_49 : decode cX4_writeAt 49 = .ok (.aload 4, 2) := by decide +kernel
theorem dX4_writeAt_51 : decode cX4_writeAt 51 = .ok (.aload_n 0, 1) := by decide +kernel
theorem dX4_writeAt_52 : decode cX4_writeAt 52 = .ok (.getfield 101, 3) := by decide +kernel
theorem dX4_writeAt_55 : decode cX4_writeAt 55 = .ok (.invokevirtual 104, 3) := by decide +kernel
theorem dX4_writeAt_58 : decode cX4_writeAt 58 = .ok (.ifCond .eq 7, 3) := by decide +kernel
theorem dX4_writeAt_61 : decode cX4_writeAt 61 = .ok (.iconst 2, 1) := by decide +kernel
theorem dX4_writeAt_62 : decode cX4_writeAt 62 = .ok (.goto 4, 3) := by decide +kernel
theorem dX4_writeAt_65 : decode cX4_writeAt 65 = .ok (.iconst 0, 1) := by decide +kernel
theorem dX4_writeAt_66 : decode cX4_writeAt 66 = .ok (.ireturn, 1) := by decide +kernel
theorem dX4_writeAt_67 : decode cX4_writeAt 67 = .ok (.aload_n 0, 1) := by decide +kernel
theorem dX4_writeAt_68 : decode cX4_writeAt 68 = .ok (.getfield 46, 3) := by decide +kernel
theorem dX4_writeAt_71 : decode cX4_writeAt 71 = .ok (.ifnonnull 7, 3) := by decide +kernel
theorem dX4_writeAt_74 : decode cX4_writeAt 74 = .ok (.iconst (-1), 1) := by decide +kernel
theorem dX4_writeAt_75 : decode cX4_writeAt 75 = .ok (.goto 15, 3) := by decide +kernel
theorem dX4_writeAt_78 : decode cX4_writeAt 78 = .ok (.aload_n 0, 1) := by decide +kernel
theorem dX4_writeAt_79 : decode cX4_writeAt 79 = .ok (.getfield 46, 3) := by decide +kernel
theorem dX4_writeAt_82 : decode cX4_writeAt 82 = .ok (.aload_n 1, 1) := by decide +kernel
theorem dX4_writeAt_83 : decode cX4_writeAt 83 = .ok (.iload_n 2, 1) := by decide +kernel
theorem dX4_writeAt_84 : decode cX4_writeAt 84 = .ok (.iconst 1, 1) := by decide +kernel
theorem dX4_writeAt_85 : decode cX4_writeAt 85 = .ok (.iadd, 1) := by decide +kernel
theorem dX4_writeAt_86 : decode cX4_writeAt 86 = .ok (.iload_n 3, 1) := by decide +kernel
theorem dX4_writeAt_87 : decode cX4_writeAt 87 = .ok (.invokevirtual 107, 3) := by decide +kernel
theorem dX4_writeAt_90 : decode cX4_writeAt 90 = .ok (.istore 6, 2) := by decide +kernel
theorem dX4_writeAt_92 : decode cX4_writeAt 92 = .ok (.iload 6, 2) := by decide +kernel
theorem dX4_writeAt_94 : decode cX4_writeAt 94 = .ok (.ifCond .ge 19, 3) := by decide +kernel
theorem dX4_writeAt_97 : decode cX4_writeAt 97 = .ok (.aload 4, 2) := by decide +kernel
theorem dX4_writeAt_99 : decode cX4_writeAt 99 = .ok (.iload 5, 2) := by decide +kernel
theorem dX4_writeAt_101 : decode cX4_writeAt 101 = .ok (.invokevirtual 97, 3) := by decide +kernel
theorem dX4_writeAt_104 : decode cX4_writeAt 104 = .ok (.ifCond .eq 7, 3) := by decide +kernel
theorem dX4_writeAt_107 : decode cX4_writeAt 107 = .ok (.iconst 1, 1) := by decide +kernel
theorem dX4_writeAt_108 : decode cX4_writeAt 108 = .ok (.goto 4, 3) := by decide +kernel
theorem dX4_writeAt_111 : decode cX4_writeAt 111 = .ok (.iconst 0, 1) := by decide +kernel
theorem dX4_writeAt_112 : decode cX4_writeAt 112 = .ok (.ireturn, 1) := by decide +kernel
theorem dX4_writeAt_113 : decode cX4_writeAt 113 = .ok (.aload 4, 2) := by decide +kernel
theorem dX4_writeAt_115 : decode cX4_writeAt 115 = .ok (.aload_n 0, 1) := by decide +kernel
theorem dX4_writeAt_116 : decode cX4_writeAt 116 = .ok (.getfield 14, 3) := by decide +kernel
theorem dX4_writeAt_119 : decode cX4_writeAt 119 = .ok (.aload_n 0, 1) := by decide +kernel
theorem dX4_writeAt_120 : decode cX4_writeAt 120 = .ok (.getfield 23, 3) := by decide +kernel
theorem dX4_writeAt_123 : decode cX4_writeAt 123 = .ok (.iload 6, 2) := by decide +kernel
theorem dX4_writeAt_125 : decode cX4_writeAt 125 = .ok (.invokevirtual 111, 3) := by decide +kernel
theorem dX4_writeAt_128 : decode cX4_writeAt 128 = .ok (.aload_n 0, 1) := by decide +kernel
theorem dX4_writeAt_129 : decode cX4_writeAt 129 = .ok (.getfield 27, 3) := by decide +kernel
theorem dX4_writeAt_132 : decode cX4_writeAt 132 = .ok (.iload 6, 2) := by decide +kernel
theorem dX4_writeAt_134 : decode cX4_writeAt 134 = .ok (.invokevirtual 111, 3) := by decide +kernel
theorem dX4_writeAt_137 : decode cX4_writeAt 137 = .ok (.invokevirtual 57, 3) := by decide +kernel
theorem dX4_writeAt_140 : decode cX4_writeAt 140 = .ok (.ifCond .eq 17, 3) := by decide +kernel
theorem dX4_writeAt_143 : decode cX4_writeAt 143 = .ok (.iconst 1, 1) := by decide +kernel
theorem dX4_writeAt_144 : decode cX4_writeAt 144 = .ok (.aload_n 0, 1) := by decide +kernel
theorem dX4_writeAt_145 : decode cX4_writeAt 145 = .ok (.getfield 46, 3) := by decide +kernel
theorem dX4_writeAt_148 : decode cX4_writeAt 148 = .ok (.iload 6, 2) := by decide +kernel
theorem dX4_writeAt_150 : decode cX4_writeAt 150 = .ok (.invokevirtual 112, 3) := by decide +kernel
theorem dX4_writeAt_153 : decode cX4_writeAt 153 = .ok (.iadd, 1) := by decide +kernel
theorem dX4_writeAt_154 : decode cX4_writeAt 154 = .ok (.goto 4, 3) := by decide +kernel
theorem dX4_writeAt_157 : decode cX4_writeAt 157 = .ok (.iconst 0, 1) := by decide +kernel
theorem dX4_writeAt_158 : decode cX4_writeAt 158 = .ok (.ireturn, 1) := by decide +kernel
theorem dX5_init_0 : decode cX5_init 0 = .ok (.aload_n 0, 1) := by decide +kernel
theorem dX5_init_1 : decode cX5_init 1 = .ok (.invokespecial 3, 3) := by decide +kernel
theorem dX5_init_4 : decode cX5_init 4 = .ok (.aload_n 0, 1) := by decide +kernel
theorem dX5_init_5 : decode cX5_init 5 = .ok (.new 9, 3) := by decide +kernel
theorem dX5_init_8 : decode cX5_init 8 = .ok (.dup, 1) := by decide +kernel
theorem dX5_init_9 : decode cX5_init 9 = .ok (.invokespecial 11, 3) := by decide +kernel
theorem dX5_init_12 : decode cX5_init 12 = .ok (.putfield 12, 3) := by decide +kernel
theorem dX5_init_15 : decode cX5_init 15 = .ok (.aload_n 0, 1) := by decide +kernel
theorem dX5_init_16 : decode cX5_init 16 = .ok (.new 9, 3) := by decide +kernel
theorem dX5_init_19 : decode cX5_init 19 = .ok (.dup, 1) := by decide +kernel
theorem dX5_init_20 : decode cX5_init 20 = .ok (.invokespecial 11, 3) := by decide +kernel
theorem dX5_init_23 : decode cX5_init 23 = .ok (.putfield 18, 3) := by decide +kernel
theorem dX5_init_26 : decode cX5_init 26 = .ok (.aload_n 0, 1) := by decide +kernel
theorem dX5_init_27 : decode cX5_init 27 = .ok (.new 9, 3) := by decide +kernel
theorem dX5_init_30 : decode cX5_init 30 = .ok (.dup, 1) := by decide +kernel
theorem dX5_init_31 : decode cX5_init 31 = .ok (.invokespecial 11, 3) := by decide +kernel
theorem dX5_init_34 : decode cX5_init 34 = .ok (.putfield 21, 3) := by decide +kernel
theorem dX5_init_37 : decode cX5_init 37 = .ok (.aload_n 0, 1) := by decide +kernel
theorem dX5_init_38 : decode cX5_init 38 = .ok (.new 24, 3) := by decide +kernel
theorem dX5_init_41 : decode cX5_init 41 = .ok (.dup, 1) := by decide +kernel
theorem dX5_init_42 : decode cX5_init 42 = .ok (.sipush 256, 3) := by decide +kernel
theorem dX5_init_45 : decode cX5_init 45 = .ok (.ldc 26, 2) := by decide +kernel
theorem dX5_init_47 : decode cX5_init 47 = .ok (.invokespecial 27, 3) := by decide +kernel
theorem dX5_init_50 : decode cX5_init 50 = .ok (.putfield 30, 3) := by decide +kernel
theorem dX5_init_53 : decode cX5_init 53 = .ok (.return_, 1) := by decide +kernel
theorem dX5_exchange_0 : decode cX5_exchange 0 = .ok (.aload_n 0, 1) := by decide +kernel
theorem dX5_exchange_1 : decode cX5_exchange 1 = .ok (.getfield 30, 3) := by decide +kernel
theorem dX5_exchange_4 : decode cX5_exchange 4 = .ok (.astore_n 2, 1) := by decide +kernel
theorem dX5_exchange_5 : decode cX5_exchange 5 = .ok (.aload_n 0, 1) := by decide +kernel
theorem dX5_exchange_6 : decode cX5_exchange 6 = .ok (.aload_n 1, 1) := by decide +kernel
theorem dX5_exchange_7 : decode cX5_exchange 7 = .ok (.putfield 30, 3) := by decide +kernel
theorem dX5_exchange_10 : decode cX5_exchange 10 = .ok (.aload_n 0, 1) := by decide +kernel
theorem dX5_exchange_11 : decode cX5_exchange 11 = .ok (.getfield 12, 3) := by decide +kernel
theorem dX5_exchange_14 : decode cX5_exchange 14 = .ok (.invokevirtual 34, 3) := by decide +kernel
theorem dX5_exchange_17 : decode cX5_exchange 17 = .ok (.aload_n 0, 1) := by decide +kernel
theorem dX5_exchange_18 : decode cX5_exchange 18 = .ok (.getfield 18, 3) := by decide +kernel
theorem dX5_exchange_21 : decode cX5_exchange 21 = .ok (.invokevirtual 34, 3) := by decide +kernel
theorem dX5_exchange_24 : decode cX5_exchange 24 = .ok (.aload_n 0, 1) := by decide +kernel
theorem dX5_exchange_25 : decode cX5_exchange 25 = .ok (.getfield 21, 3) := by decide +kernel
theorem dX5_exchange_28 : decode cX5_exchange 28 = .ok (.invokevirtual 34, 3) := by decide +kernel
theorem dX5_exchange_31 : decode cX5_exchange 31 = .ok (.iconst 0, 1) := by decide +kernel
theorem dX5_exchange_32 : decode cX5_exchange 32 = .ok (.istore_n 3, 1) := by decide +kernel
theorem dX5_exchange_33 : decode cX5_exchange 33 = .ok (.iconst 0, 1) := by decide +kernel
theorem dX5_exchange_34 : decode cX5_exchange 34 = .ok (.istore 4, 2) := by decide +kernel
theorem dX5_exchange_36 : decode cX5_exchange 36 = .ok (.iload 4, 2) := by decide +kernel
theorem dX5_exchange_38 : decode cX5_exchange 38 = .ok (.aload_n 0, 1) := by decide +kernel
theorem dX5_exchange_39 : decode cX5_exchange 39 = .ok (.getfield 30, 3) := by decide +kernel
theorem dX5_exchange_42 : decode cX5_exchange 42 = .ok (.invokevirtual 37, 3) := by decide +kernel
theorem dX5_exchange_45 : decode cX5_exchange 45 = .ok (.if_icmp .ge 35, 3) := by decide +kernel
theorem dX5_exchange_48 : decode cX5_exchange 48 = .ok (.aload_n 0, 1) := by decide +kernel
theorem dX5_exchange_49 : decode cX5_exchange 49 = .ok (.getfield 30, 3) := by decide +kernel
theorem dX5_exchange_52 : decode cX5_exchange 52 = .ok (.iload 4, 2) := by decide +kernel
theorem dX5_exchange_54 : decode cX5_exchange 54 = .ok (.invokevirtual 41, 3) := by decide +kernel
theorem dX5_exchange_57 : decode cX5_exchange 57 = .ok (.bipush 10, 2) := by decide +kernel
theorem dX5_exchange_59 : decode cX5_exchange 59 = .ok (.if_icmp .ne 15, 3) := by decide +kernel
theorem dX5_exchange_62 : decode cX5_exchange 62 = .ok (.aload_n 0, 1) := by decide +kernel
theorem dX5_exchange_63 : decode cX5_exchange 63 = .ok (.iload_n 3, 1) := by decide +kernel
theorem dX5_exchange_64 : decode cX5_exchange 64 = .ok (.iload 4, 2) := by decide +kernel
theorem dX5_exchange_66 : decode cX5_exchange 66 = .ok (.invokevirtual 45, 3) := by decide +kernel
theorem dX5_exchange_69 : decode cX5_exchange 69 = .ok (.iload 4, 2) := by decide +kernel
theorem dX5_exchange_71 : decode cX5_exchange 71 = .ok (.iconst 1, 1) := by decide +kernel
theorem dX5_exchange_72 : decode cX5_exchange 72 = .ok (.iadd, 1) := by decide +kernel
theorem dX5_exchange_73 : decode cX5_exchange 73 = .ok (.istore_n 3, 1) := by decide +kernel
theorem dX5_exchange_74 : decode cX5_exchange 74 = .ok (.iinc 4 1, 3) := by decide +kernel
theorem dX5_exchange_77 : decode cX5_exchange 77 = .ok (.goto (-41), 3) := by decide +kernel
theorem dX5_exchange_80 : decode cX5_exchange 80 = .ok (.iload_n 3, 1) := by decide +kernel
theorem dX5_exchange_81 : decode cX5_exchange 81 = .ok (.aload_n 0, 1) := by decide +kernel
theorem dX5_exchange_82 : decode cX5_exchange 82 = .ok (.getfield 30, 3) := by decide +kernel
theorem dX5_exchange_85 : decode cX5_exchange 85 = .ok (.invokevirtual 37, 3) := by decide +kernel
theorem dX5_exchange_88 : decode cX5_exchange 88 = .ok (.if_icmp .ge 15, 3) := by decide +kernel
theorem dX5_exchange_91 : decode cX5_exchange 91 = .ok (.aload_n 0, 1) := by decide +kernel
theorem dX5_exchange_92 : decode cX5_exchange 92 = .ok (.iload_n 3, 1) := by decide +kernel
theorem dX5_exchange_93 : decode cX5_exchange 93 = .ok (.aload_n 0, 1) := by decide +kernel
theorem dX5_exchange_94 : decode cX5_exchange 94 = .ok (.getfield 30, 3) := by decide +kernel
theorem dX5_exchange_97 : decode cX5_exchange 97 = .ok (.invokevirtual 37, 3) := by decide +kernel
theorem dX5_exchange_100 : decode cX5_exchange 100 = .ok (.invokevirtual 45, 3) := by decide +kernel
theorem dX5_exchange_103 : decode cX5_exchange 103 = .ok (.aload_n 2, 1) := by decide +kernel
theorem dX5_exchange_104 : decode cX5_exchange 104 = .ok (.areturn, 1) := by decide +kernel
theorem dX5_addLine_0 : decode cX5_addLine 0 = .ok (.aload_n 0, 1) := by decide +kernel
theorem dX5_addLine_1 : decode cX5_addLine 1 = .ok (.getfield 12, 3) := by decide +kernel
theorem dX5_addLine_4 : decode cX5_addLine 4 = .ok (.iload_n 1, 1) := by decide +kernel
theorem dX5_addLine_5 : decode cX5_addLine 5 = .ok (.invokevirtual 48, 3) := by decide +kernel
theorem dX5_addLine_8 : decode cX5_addLine 8 = .ok (.aload_n 0, 1) := by decide +kernel
theorem dX5_addLine_9 : decode cX5_addLine 9 = .ok (.getfield 18, 3) := by decide +kernel
theorem dX5_addLine_12 : decode cX5_addLine 12 = .ok (.iload_n 2, 1) := by decide +kernel
theorem dX5_addLine_13 : decode cX5_addLine 13 = .ok (.invokevirtual 48, 3) := by decide +kernel
theorem dX5_addLine_16 : decode cX5_addLine 16 = .ok (.aload_n 0, 1) := by decide +kernel
theorem dX5_addLine_17 : decode cX5_addLine 17 = .ok (.getfield 30, 3) := by decide +kernel
theorem dX5_addLine_20 : decode cX5_addLine 20 = .ok (.iload_n 1, 1) := by decide +kernel
theorem dX5_addLine_21 : decode cX5_addLine 21 = .ok (.invokevirtual 52, 3) := by decide +kernel
theorem dX5_addLine_24 : decode cX5_addLine 24 = .ok (.istore_n 3, 1) := by decide +kernel
theorem dX5_addLine_25 : decode cX5_addLine 25 = .ok (.aload_n 0, 1) := by decide +kernel
theorem dX5_addLine_26 : decode cX5_addLine 26 = .ok (.getfield 21, 3) := by decide +kernel
theorem dX5_addLine_29 : decode cX5_addLine 29 = .ok (.aload_n 0, 1) := by decide +kernel
theorem dX5_addLine_30 : decode cX5_addLine 30 = .ok (.getfield 30, 3) := by decide +kernel
theorem dX5_addLine_33 : decode cX5_addLine 33 = .ok (.iload_n 3, 1) := by decide +kernel
theorem dX5_addLine_34 : decode cX5_addLine 34 = .ok (.aload_n 0, 1) := by decide +kernel
theorem dX5_addLine_35 : decode cX5_addLine 35 = .ok (.getfield 30, 3) := by decide +kernel
theorem dX5_addLine_38 : decode cX5_addLine 38 = .ok (.iload_n 3, 1) := by decide +kernel
theorem dX5_addLine_39 : decode cX5_addLine 39 = .ok (.invokevirtual 55, 3) := by decide +kernel
theorem dX5_addLine_42 : decode cX5_addLine 42 = .ok (.invokestatic 58, 3) := by decide +kernel
theorem dX5_addLine_45 : decode cX5_addLine 45 = .ok (.invokevirtual 48, 3) := by decide +kernel
theorem dX5_addLine_48 : decode cX5_addLine 48 = .ok (.return_, 1) := by decide +kernel
theorem dX5_bytes_0 : decode cX5_bytes 0 = .ok (.aload_n 0, 1) := by decide +kernel
theorem dX5_bytes_1 : decode cX5_bytes 1 = .ok (.getfield 30, 3) := by decide +kernel
theorem dX5_bytes_4 : decode cX5_bytes 4 = .ok (.areturn, 1) := by decide +kernel
theorem dX5_count_0 : decode cX5_count 0 = .ok (.aload_n 0, 1) := by decide +kernel
theorem dX5_count_1 : decode cX5_count 1 = .ok (.getfield 12, 3) := by decide +kernel
theorem dX5_count_4 : decode cX5_count 4 = .ok (.invokevirtual 62, 3) := by decide +kernel
theorem dX5_count_7 : decode cX5_count 7 = .ok (.ireturn, 1) := by decide +kernel
theorem dX5_start_0 : decode cX5_start 0 = .ok (.aload_n 0, 1) := by decide +kernel
theorem dX5_start_1 : decode cX5_start 1 = .ok (.getfield 12, 3) := by decide +kernel
theorem dX5_start_4 : decode cX5_start 4 = .ok (.iload_n 1, 1) := by decide +kernel
theorem dX5_start_5 : decode cX5_start 5 = .ok (.invokevirtual 63, 3) := by decide +kernel
theorem dX5_start_8 : decode cX5_start 8 = .ok (.ireturn, 1) := by decide +kernel
theorem dX5_end_0 : decode cX5_end 0 = .ok (.aload_n 0, 1) := by decide +kernel
theorem dX5_end_1 : decode cX5_end 1 = .ok (.getfield 18, 3) := by decide +kernel
theorem dX5_end_4 : decode cX5_end 4 = .ok (.iload_n 1, 1) := by decide +kernel
theorem dX5_end_5 : decode cX5_end 5 = .ok (.invokevirtual 63, 3) := by decide +kernel
theorem dX5_end_8 : decode cX5_end 8 = .ok (.ireturn, 1) := by decide +kernel
theorem dX5_word_0 : decode cX5_word 0 = .ok (.aload_n 0, 1) := by decide +kernel
theorem dX5_word_1 : decode cX5_word 1 = .ok (.getfield 21, 3) := by decide +kernel
theorem dX5_word_4 : decode cX5_word 4 = .ok (.iload_n 1, 1) := by decide +kernel
theorem dX5_word_5 : decode cX5_word 5 = .ok (.invokevirtual 63, 3) := by decide +kernel
theorem dX5_word_8 : decode cX5_word 8 = .ok (.ireturn, 1) := by decide +kernel
theorem dX5_find_0 : decode cX5_find 0 = .ok (.iload_n 3, 1) := by decide +kernel
theorem dX5_find_1 : decode cX5_find 1 = .ok (.invokestatic 64, 3) := by decide +kernel
theorem dX5_find_4 : decode cX5_find 4 = .ok (.istore 5, 2) := by decide +kernel
theorem dX5_find_6 : decode cX5_find 6 = .ok (.iload_n 3, 1) := by decide +kernel
theorem dX5_find_7 : decode cX5_find 7 = .ok (.bipush 6, 2) := by decide +kernel
theorem dX5_find_9 : decode cX5_find 9 = .ok (.if_icmp .eq 7, 3) := by decide +kernel
theorem dX5_find_12 : decode cX5_find 12 = .ok (.iconst 1, 1) := by decide +kernel
theorem dX5_find_13 : decode cX5_find 13 = .ok (.goto 4, 3) := by decide +kernel
theorem dX5_find_16 : decode cX5_find 16 = .ok (.iconst 0, 1) := by decide +kernel
theorem dX5_find_17 : decode cX5_find 17 = .ok (.istore 6, 2) := by decide +kernel
theorem dX5_find_19 : decode cX5_find 19 = .ok (.iconst 0, 1) := by decide +kernel
theorem dX5_find_20 : decode cX5_find 20 = .ok (.istore 7, 2) := by decide +kernel
theorem dX5_find_22 : decode cX5_find 22 = .ok (.iload_n 1, 1) := by decide +kernel
theorem dX5_find_23 : decode cX5_find 23 = .ok (.istore 8, 2) := by decide +kernel
