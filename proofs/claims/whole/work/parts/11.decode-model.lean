/-! decode rows of the model: written by wip/whole/emit_model.py -/
theorem d_Mo_vector_0 : decode b_Mo_vector 0 = .ok (.lload_n 0, 1) := by decide +kernel
theorem d_Mo_vector_1 : decode b_Mo_vector 1 = .ok (.bipush 40, 2) := by decide +kernel
theorem d_Mo_vector_3 : decode b_Mo_vector 3 = .ok (.lshl, 1) := by decide +kernel
theorem d_Mo_vector_4 : decode b_Mo_vector 4 = .ok (.lload_n 2, 1) := by decide +kernel
theorem d_Mo_vector_5 : decode b_Mo_vector 5 = .ok (.bipush 24, 2) := by decide +kernel
theorem d_Mo_vector_7 : decode b_Mo_vector 7 = .ok (.lshl, 1) := by decide +kernel
theorem d_Mo_vector_8 : decode b_Mo_vector 8 = .ok (.lor, 1) := by decide +kernel
theorem d_Mo_vector_9 : decode b_Mo_vector 9 = .ok (.lload 4, 2) := by decide +kernel
theorem d_Mo_vector_11 : decode b_Mo_vector 11 = .ok (.bipush 8, 2) := by decide +kernel
theorem d_Mo_vector_13 : decode b_Mo_vector 13 = .ok (.lshl, 1) := by decide +kernel
theorem d_Mo_vector_14 : decode b_Mo_vector 14 = .ok (.lor, 1) := by decide +kernel
theorem d_Mo_vector_15 : decode b_Mo_vector 15 = .ok (.lload 6, 2) := by decide +kernel
theorem d_Mo_vector_17 : decode b_Mo_vector 17 = .ok (.lor, 1) := by decide +kernel
theorem d_Mo_vector_18 : decode b_Mo_vector 18 = .ok (.lreturn, 1) := by decide +kernel
theorem d_Mo_thrown_0 : decode b_Mo_thrown 0 = .ok (.aload_n 0, 1) := by decide +kernel
theorem d_Mo_thrown_1 : decode b_Mo_thrown 1 = .ok (.getfield 108, 3) := by decide +kernel
theorem d_Mo_thrown_4 : decode b_Mo_thrown 4 = .ok (.ireturn, 1) := by decide +kernel
theorem d_Mo_deliver_0 : decode b_Mo_deliver 0 = .ok (.iload_n 1, 1) := by decide +kernel
theorem d_Mo_deliver_1 : decode b_Mo_deliver 1 = .ok (.iload_n 2, 1) := by decide +kernel
theorem d_Mo_deliver_2 : decode b_Mo_deliver 2 = .ok (.invokestatic 178, 3) := by decide +kernel
theorem d_Mo_deliver_5 : decode b_Mo_deliver 5 = .ok (.ifCond .ne 9, 3) := by decide +kernel
theorem d_Mo_deliver_8 : decode b_Mo_deliver 8 = .ok (.aload_n 0, 1) := by decide +kernel
theorem d_Mo_deliver_9 : decode b_Mo_deliver 9 = .ok (.iconst 1, 1) := by decide +kernel
theorem d_Mo_deliver_10 : decode b_Mo_deliver 10 = .ok (.invokevirtual 181, 3) := by decide +kernel
theorem d_Mo_deliver_13 : decode b_Mo_deliver 13 = .ok (.ireturn, 1) := by decide +kernel
theorem d_Mo_deliver_14 : decode b_Mo_deliver 14 = .ok (.aload_n 0, 1) := by decide +kernel
theorem d_Mo_deliver_15 : decode b_Mo_deliver 15 = .ok (.iconst 0, 1) := by decide +kernel
theorem d_Mo_deliver_16 : decode b_Mo_deliver 16 = .ok (.putfield 108, 3) := by decide +kernel
theorem d_Mo_deliver_19 : decode b_Mo_deliver 19 = .ok (.iconst 4, 1) := by decide +kernel
theorem d_Mo_deliver_20 : decode b_Mo_deliver 20 = .ok (.iload_n 1, 1) := by decide +kernel
theorem d_Mo_deliver_21 : decode b_Mo_deliver 21 = .ok (.imul, 1) := by decide +kernel
theorem d_Mo_deliver_22 : decode b_Mo_deliver 22 = .ok (.iload_n 2, 1) := by decide +kernel
theorem d_Mo_deliver_23 : decode b_Mo_deliver 23 = .ok (.iadd, 1) := by decide +kernel
theorem d_Mo_deliver_24 : decode b_Mo_deliver 24 = .ok (.istore_n 3, 1) := by decide +kernel
theorem d_Mo_deliver_25 : decode b_Mo_deliver 25 = .ok (.aload_n 0, 1) := by decide +kernel
theorem d_Mo_deliver_26 : decode b_Mo_deliver 26 = .ok (.getfield 48, 3) := by decide +kernel
theorem d_Mo_deliver_29 : decode b_Mo_deliver 29 = .ok (.iload_n 3, 1) := by decide +kernel
theorem d_Mo_deliver_30 : decode b_Mo_deliver 30 = .ok (.iaload, 1) := by decide +kernel
theorem d_Mo_deliver_31 : decode b_Mo_deliver 31 = .ok (.ifCond .ne 5, 3) := by decide +kernel
theorem d_Mo_deliver_34 : decode b_Mo_deliver 34 = .ok (.iconst 0, 1) := by decide +kernel
theorem d_Mo_deliver_35 : decode b_Mo_deliver 35 = .ok (.ireturn, 1) := by decide +kernel
theorem d_Mo_deliver_36 : decode b_Mo_deliver 36 = .ok (.aload_n 0, 1) := by decide +kernel
theorem d_Mo_deliver_37 : decode b_Mo_deliver 37 = .ok (.iload_n 3, 1) := by decide +kernel
theorem d_Mo_deliver_38 : decode b_Mo_deliver 38 = .ok (.invokevirtual 184, 3) := by decide +kernel
theorem d_Mo_deliver_41 : decode b_Mo_deliver 41 = .ok (.aload_n 0, 1) := by decide +kernel
theorem d_Mo_deliver_42 : decode b_Mo_deliver 42 = .ok (.getfield 51, 3) := by decide +kernel
theorem d_Mo_deliver_45 : decode b_Mo_deliver 45 = .ok (.sipush 240, 3) := by decide +kernel
theorem d_Mo_deliver_48 : decode b_Mo_deliver 48 = .ok (.iaload, 1) := by decide +kernel
theorem d_Mo_deliver_49 : decode b_Mo_deliver 49 = .ok (.istore 4, 2) := by decide +kernel
theorem d_Mo_deliver_51 : decode b_Mo_deliver 51 = .ok (.iload 4, 2) := by decide +kernel
theorem d_Mo_deliver_53 : decode b_Mo_deliver 53 = .ok (.iconst 1, 1) := by decide +kernel
theorem d_Mo_deliver_54 : decode b_Mo_deliver 54 = .ok (.if_icmp .ne 11, 3) := by decide +kernel
theorem d_Mo_deliver_57 : decode b_Mo_deliver 57 = .ok (.aload_n 0, 1) := by decide +kernel
theorem d_Mo_deliver_58 : decode b_Mo_deliver 58 = .ok (.iload_n 3, 1) := by decide +kernel
theorem d_Mo_deliver_59 : decode b_Mo_deliver 59 = .ok (.invokevirtual 187, 3) := by decide +kernel
theorem d_Mo_deliver_62 : decode b_Mo_deliver 62 = .ok (.goto 24, 3) := by decide +kernel
theorem d_Mo_deliver_65 : decode b_Mo_deliver 65 = .ok (.iload 4, 2) := by decide +kernel
theorem d_Mo_deliver_67 : decode b_Mo_deliver 67 = .ok (.iconst 2, 1) := by decide +kernel
theorem d_Mo_deliver_68 : decode b_Mo_deliver 68 = .ok (.if_icmp .ne 11, 3) := by decide +kernel
theorem d_Mo_deliver_71 : decode b_Mo_deliver 71 = .ok (.aload_n 0, 1) := by decide +kernel
theorem d_Mo_deliver_72 : decode b_Mo_deliver 72 = .ok (.iload_n 3, 1) := by decide +kernel
theorem d_Mo_deliver_73 : decode b_Mo_deliver 73 = .ok (.invokevirtual 190, 3) := by decide +kernel
theorem d_Mo_deliver_76 : decode b_Mo_deliver 76 = .ok (.goto 10, 3) := by decide +kernel
theorem d_Mo_deliver_79 : decode b_Mo_deliver 79 = .ok (.aload_n 0, 1) := by decide +kernel
theorem d_Mo_deliver_80 : decode b_Mo_deliver 80 = .ok (.iload_n 3, 1) := by decide +kernel
theorem d_Mo_deliver_81 : decode b_Mo_deliver 81 = .ok (.invokevirtual 193, 3) := by decide +kernel
theorem d_Mo_deliver_84 : decode b_Mo_deliver 84 = .ok (.istore 5, 2) := by decide +kernel
theorem d_Mo_deliver_86 : decode b_Mo_deliver 86 = .ok (.iload 4, 2) := by decide +kernel
theorem d_Mo_deliver_88 : decode b_Mo_deliver 88 = .ok (.ireturn, 1) := by decide +kernel
theorem d_Mo_isPort_0 : decode b_Mo_isPort 0 = .ok (.iload_n 0, 1) := by decide +kernel
theorem d_Mo_isPort_1 : decode b_Mo_isPort 1 = .ok (.invokestatic 112, 3) := by decide +kernel
theorem d_Mo_isPort_4 : decode b_Mo_isPort 4 = .ok (.ifCond .eq 16, 3) := by decide +kernel
theorem d_Mo_isPort_7 : decode b_Mo_isPort 7 = .ok (.iload_n 1, 1) := by decide +kernel
theorem d_Mo_isPort_8 : decode b_Mo_isPort 8 = .ok (.ifCond .lt 12, 3) := by decide +kernel
theorem d_Mo_isPort_11 : decode b_Mo_isPort 11 = .ok (.iload_n 1, 1) := by decide +kernel
theorem d_Mo_isPort_12 : decode b_Mo_isPort 12 = .ok (.iconst 3, 1) := by decide +kernel
theorem d_Mo_isPort_13 : decode b_Mo_isPort 13 = .ok (.if_icmp .gt 7, 3) := by decide +kernel
theorem d_Mo_isPort_16 : decode b_Mo_isPort 16 = .ok (.iconst 1, 1) := by decide +kernel
theorem d_Mo_isPort_17 : decode b_Mo_isPort 17 = .ok (.goto 4, 3) := by decide +kernel
theorem d_Mo_isPort_20 : decode b_Mo_isPort 20 = .ok (.iconst 0, 1) := by decide +kernel
theorem d_Mo_isPort_21 : decode b_Mo_isPort 21 = .ok (.ireturn, 1) := by decide +kernel
theorem d_Mo_isBridge_0 : decode b_Mo_isBridge 0 = .ok (.iload_n 0, 1) := by decide +kernel
theorem d_Mo_isBridge_1 : decode b_Mo_isBridge 1 = .ok (.ifCond .lt 12, 3) := by decide +kernel
theorem d_Mo_isBridge_4 : decode b_Mo_isBridge 4 = .ok (.iload_n 0, 1) := by decide +kernel
theorem d_Mo_isBridge_5 : decode b_Mo_isBridge 5 = .ok (.iconst 4, 1) := by decide +kernel
theorem d_Mo_isBridge_6 : decode b_Mo_isBridge 6 = .ok (.if_icmp .gt 7, 3) := by decide +kernel
theorem d_Mo_isBridge_9 : decode b_Mo_isBridge 9 = .ok (.iconst 1, 1) := by decide +kernel
theorem d_Mo_isBridge_10 : decode b_Mo_isBridge 10 = .ok (.goto 4, 3) := by decide +kernel
theorem d_Mo_isBridge_13 : decode b_Mo_isBridge 13 = .ok (.iconst 0, 1) := by decide +kernel
theorem d_Mo_isBridge_14 : decode b_Mo_isBridge 14 = .ok (.ireturn, 1) := by decide +kernel
theorem d_Mo_raise_0 : decode b_Mo_raise 0 = .ok (.aload_n 0, 1) := by decide +kernel
theorem d_Mo_raise_1 : decode b_Mo_raise 1 = .ok (.iload_n 1, 1) := by decide +kernel
theorem d_Mo_raise_2 : decode b_Mo_raise 2 = .ok (.putfield 108, 3) := by decide +kernel
theorem d_Mo_raise_5 : decode b_Mo_raise 5 = .ok (.iconst 0, 1) := by decide +kernel
theorem d_Mo_raise_6 : decode b_Mo_raise 6 = .ok (.ireturn, 1) := by decide +kernel
theorem d_Mo_shift_0 : decode b_Mo_shift 0 = .ok (.aload_n 0, 1) := by decide +kernel
theorem d_Mo_shift_1 : decode b_Mo_shift 1 = .ok (.bipush 12, 2) := by decide +kernel
theorem d_Mo_shift_3 : decode b_Mo_shift 3 = .ok (.iload_n 1, 1) := by decide +kernel
theorem d_Mo_shift_4 : decode b_Mo_shift 4 = .ok (.imul, 1) := by decide +kernel
theorem d_Mo_shift_5 : decode b_Mo_shift 5 = .ok (.sipush 240, 3) := by decide +kernel
theorem d_Mo_shift_8 : decode b_Mo_shift 8 = .ok (.invokevirtual 144, 3) := by decide +kernel
theorem d_Mo_shift_11 : decode b_Mo_shift 11 = .ok (.aload_n 0, 1) := by decide +kernel
theorem d_Mo_shift_12 : decode b_Mo_shift 12 = .ok (.getfield 48, 3) := by decide +kernel
theorem d_Mo_shift_15 : decode b_Mo_shift 15 = .ok (.iload_n 1, 1) := by decide +kernel
theorem d_Mo_shift_16 : decode b_Mo_shift 16 = .ok (.dup2, 1) := by decide +kernel
theorem d_Mo_shift_17 : decode b_Mo_shift 17 = .ok (.iaload, 1) := by decide +kernel
theorem d_Mo_shift_18 : decode b_Mo_shift 18 = .ok (.iconst 1, 1) := by decide +kernel
theorem d_Mo_shift_19 : decode b_Mo_shift 19 = .ok (.isub, 1) := by decide +kernel
theorem d_Mo_shift_20 : decode b_Mo_shift 20 = .ok (.iastore, 1) := by decide +kernel
theorem d_Mo_shift_21 : decode b_Mo_shift 21 = .ok (.iconst 0, 1) := by decide +kernel
theorem d_Mo_shift_22 : decode b_Mo_shift 22 = .ok (.istore_n 2, 1) := by decide +kernel
theorem d_Mo_shift_23 : decode b_Mo_shift 23 = .ok (.iload_n 2, 1) := by decide +kernel
theorem d_Mo_shift_24 : decode b_Mo_shift 24 = .ok (.aload_n 0, 1) := by decide +kernel
theorem d_Mo_shift_25 : decode b_Mo_shift 25 = .ok (.getfield 48, 3) := by decide +kernel
theorem d_Mo_shift_28 : decode b_Mo_shift 28 = .ok (.iload_n 1, 1) := by decide +kernel
theorem d_Mo_shift_29 : decode b_Mo_shift 29 = .ok (.iaload, 1) := by decide +kernel
theorem d_Mo_shift_30 : decode b_Mo_shift 30 = .ok (.if_icmp .ge 27, 3) := by decide +kernel
theorem d_Mo_shift_33 : decode b_Mo_shift 33 = .ok (.aload_n 0, 1) := by decide +kernel
theorem d_Mo_shift_34 : decode b_Mo_shift 34 = .ok (.bipush 12, 2) := by decide +kernel
theorem d_Mo_shift_36 : decode b_Mo_shift 36 = .ok (.iload_n 1, 1) := by decide +kernel
theorem d_Mo_shift_37 : decode b_Mo_shift 37 = .ok (.imul, 1) := by decide +kernel
theorem d_Mo_shift_38 : decode b_Mo_shift 38 = .ok (.iload_n 2, 1) := by decide +kernel
theorem d_Mo_shift_39 : decode b_Mo_shift 39 = .ok (.iadd, 1) := by decide +kernel
theorem d_Mo_shift_40 : decode b_Mo_shift 40 = .ok (.iconst 1, 1) := by decide +kernel
theorem d_Mo_shift_41 : decode b_Mo_shift 41 = .ok (.iadd, 1) := by decide +kernel
theorem d_Mo_shift_42 : decode b_Mo_shift 42 = .ok (.bipush 12, 2) := by decide +kernel
theorem d_Mo_shift_44 : decode b_Mo_shift 44 = .ok (.iload_n 1, 1) := by decide +kernel
theorem d_Mo_shift_45 : decode b_Mo_shift 45 = .ok (.imul, 1) := by decide +kernel
theorem d_Mo_shift_46 : decode b_Mo_shift 46 = .ok (.iload_n 2, 1) := by decide +kernel
theorem d_Mo_shift_47 : decode b_Mo_shift 47 = .ok (.iadd, 1) := by decide +kernel
theorem d_Mo_shift_48 : decode b_Mo_shift 48 = .ok (.invokevirtual 144, 3) := by decide +kernel
theorem d_Mo_shift_51 : decode b_Mo_shift 51 = .ok (.iinc 2 1, 3) := by decide +kernel
theorem d_Mo_shift_54 : decode b_Mo_shift 54 = .ok (.goto (-31), 3) := by decide +kernel
theorem d_Mo_shift_57 : decode b_Mo_shift 57 = .ok (.return_, 1) := by decide +kernel
theorem d_Mo_copy_0 : decode b_Mo_copy 0 = .ok (.aload_n 0, 1) := by decide +kernel
theorem d_Mo_copy_1 : decode b_Mo_copy 1 = .ok (.getfield 51, 3) := by decide +kernel
theorem d_Mo_copy_4 : decode b_Mo_copy 4 = .ok (.iload_n 2, 1) := by decide +kernel
theorem d_Mo_copy_5 : decode b_Mo_copy 5 = .ok (.aload_n 0, 1) := by decide +kernel
theorem d_Mo_copy_6 : decode b_Mo_copy 6 = .ok (.getfield 51, 3) := by decide +kernel
theorem d_Mo_copy_9 : decode b_Mo_copy 9 = .ok (.iload_n 1, 1) := by decide +kernel
theorem d_Mo_copy_10 : decode b_Mo_copy 10 = .ok (.iaload, 1) := by decide +kernel
theorem d_Mo_copy_11 : decode b_Mo_copy 11 = .ok (.iastore, 1) := by decide +kernel
theorem d_Mo_copy_12 : decode b_Mo_copy 12 = .ok (.aload_n 0, 1) := by decide +kernel
theorem d_Mo_copy_13 : decode b_Mo_copy 13 = .ok (.getfield 54, 3) := by decide +kernel
theorem d_Mo_copy_16 : decode b_Mo_copy 16 = .ok (.iload_n 2, 1) := by decide +kernel
theorem d_Mo_copy_17 : decode b_Mo_copy 17 = .ok (.aload_n 0, 1) := by decide +kernel
theorem d_Mo_copy_18 : decode b_Mo_copy 18 = .ok (.getfield 54, 3) := by decide +kernel
theorem d_Mo_copy_21 : decode b_Mo_copy 21 = .ok (.iload_n 1, 1) := by decide +kernel
theorem d_Mo_copy_22 : decode b_Mo_copy 22 = .ok (.laload, 1) := by decide +kernel
theorem d_Mo_copy_23 : decode b_Mo_copy 23 = .ok (.lastore, 1) := by decide +kernel
theorem d_Mo_copy_24 : decode b_Mo_copy 24 = .ok (.aload_n 0, 1) := by decide +kernel
theorem d_Mo_copy_25 : decode b_Mo_copy 25 = .ok (.getfield 57, 3) := by decide +kernel
theorem d_Mo_copy_28 : decode b_Mo_copy 28 = .ok (.iload_n 2, 1) := by decide +kernel
theorem d_Mo_copy_29 : decode b_Mo_copy 29 = .ok (.aload_n 0, 1) := by decide +kernel
theorem d_Mo_copy_30 : decode b_Mo_copy 30 = .ok (.getfield 57, 3) := by decide +kernel
theorem d_Mo_copy_33 : decode b_Mo_copy 33 = .ok (.iload_n 1, 1) := by decide +kernel
theorem d_Mo_copy_34 : decode b_Mo_copy 34 = .ok (.iaload, 1) := by decide +kernel
theorem d_Mo_copy_35 : decode b_Mo_copy 35 = .ok (.iastore, 1) := by decide +kernel
theorem d_Mo_copy_36 : decode b_Mo_copy 36 = .ok (.aload_n 0, 1) := by decide +kernel
theorem d_Mo_copy_37 : decode b_Mo_copy 37 = .ok (.getfield 60, 3) := by decide +kernel
theorem d_Mo_copy_40 : decode b_Mo_copy 40 = .ok (.iload_n 2, 1) := by decide +kernel
theorem d_Mo_copy_41 : decode b_Mo_copy 41 = .ok (.aload_n 0, 1) := by decide +kernel
theorem d_Mo_copy_42 : decode b_Mo_copy 42 = .ok (.getfield 60, 3) := by decide +kernel
theorem d_Mo_copy_45 : decode b_Mo_copy 45 = .ok (.iload_n 1, 1) := by decide +kernel
theorem d_Mo_copy_46 : decode b_Mo_copy 46 = .ok (.baload, 1) := by decide +kernel
theorem d_Mo_copy_47 : decode b_Mo_copy 47 = .ok (.bastore, 1) := by decide +kernel
theorem d_Mo_copy_48 : decode b_Mo_copy 48 = .ok (.aload_n 0, 1) := by decide +kernel
theorem d_Mo_copy_49 : decode b_Mo_copy 49 = .ok (.getfield 63, 3) := by decide +kernel
theorem d_Mo_copy_52 : decode b_Mo_copy 52 = .ok (.iload_n 2, 1) := by decide +kernel
theorem d_Mo_copy_53 : decode b_Mo_copy 53 = .ok (.aload_n 0, 1) := by decide +kernel
theorem d_Mo_copy_54 : decode b_Mo_copy 54 = .ok (.getfield 63, 3) := by decide +kernel
theorem d_Mo_copy_57 : decode b_Mo_copy 57 = .ok (.iload_n 1, 1) := by decide +kernel
theorem d_Mo_copy_58 : decode b_Mo_copy 58 = .ok (.iaload, 1) := by decide +kernel
theorem d_Mo_copy_59 : decode b_Mo_copy 59 = .ok (.iastore, 1) := by decide +kernel
theorem d_Mo_copy_60 : decode b_Mo_copy 60 = .ok (.aload_n 0, 1) := by decide +kernel
theorem d_Mo_copy_61 : decode b_Mo_copy 61 = .ok (.getfield 66, 3) := by decide +kernel
theorem d_Mo_copy_64 : decode b_Mo_copy 64 = .ok (.iload_n 2, 1) := by decide +kernel
theorem d_Mo_copy_65 : decode b_Mo_copy 65 = .ok (.aload_n 0, 1) := by decide +kernel
theorem d_Mo_copy_66 : decode b_Mo_copy 66 = .ok (.getfield 66, 3) := by decide +kernel
theorem d_Mo_copy_69 : decode b_Mo_copy 69 = .ok (.iload_n 1, 1) := by decide +kernel
theorem d_Mo_copy_70 : decode b_Mo_copy 70 = .ok (.iaload, 1) := by decide +kernel
theorem d_Mo_copy_71 : decode b_Mo_copy 71 = .ok (.iastore, 1) := by decide +kernel
theorem d_Mo_copy_72 : decode b_Mo_copy 72 = .ok (.aload_n 0, 1) := by decide +kernel
theorem d_Mo_copy_73 : decode b_Mo_copy 73 = .ok (.getfield 69, 3) := by decide +kernel
theorem d_Mo_copy_76 : decode b_Mo_copy 76 = .ok (.iload_n 2, 1) := by decide +kernel
theorem d_Mo_copy_77 : decode b_Mo_copy 77 = .ok (.aload_n 0, 1) := by decide +kernel
theorem d_Mo_copy_78 : decode b_Mo_copy 78 = .ok (.getfield 69, 3) := by decide +kernel
theorem d_Mo_copy_81 : decode b_Mo_copy 81 = .ok (.iload_n 1, 1) := by decide +kernel
theorem d_Mo_copy_82 : decode b_Mo_copy 82 = .ok (.iaload, 1) := by decide +kernel
theorem d_Mo_copy_83 : decode b_Mo_copy 83 = .ok (.iastore, 1) := by decide +kernel
theorem d_Mo_copy_84 : decode b_Mo_copy 84 = .ok (.aload_n 0, 1) := by decide +kernel
theorem d_Mo_copy_85 : decode b_Mo_copy 85 = .ok (.getfield 72, 3) := by decide +kernel
theorem d_Mo_copy_88 : decode b_Mo_copy 88 = .ok (.iload_n 2, 1) := by decide +kernel
theorem d_Mo_copy_89 : decode b_Mo_copy 89 = .ok (.aload_n 0, 1) := by decide +kernel
theorem d_Mo_copy_90 : decode b_Mo_copy 90 = .ok (.getfield 72, 3) := by decide +kernel
theorem d_Mo_copy_93 : decode b_Mo_copy 93 = .ok (.iload_n 1, 1) := by decide +kernel
theorem d_Mo_copy_94 : decode b_Mo_copy 94 = .ok (.iaload, 1) := by decide +kernel
theorem d_Mo_copy_95 : decode b_Mo_copy 95 = .ok (.iastore, 1) := by decide +kernel
theorem d_Mo_copy_96 : decode b_Mo_copy 96 = .ok (.return_, 1) := by decide +kernel
theorem d_Mo_toldOn_0 : decode b_Mo_toldOn 0 = .ok (.aload_n 0, 1) := by decide +kernel
theorem d_Mo_toldOn_1 : decode b_Mo_toldOn 1 = .ok (.getfield 57, 3) := by decide +kernel
theorem d_Mo_toldOn_4 : decode b_Mo_toldOn 4 = .ok (.sipush 240, 3) := by decide +kernel
theorem d_Mo_toldOn_7 : decode b_Mo_toldOn 7 = .ok (.iaload, 1) := by decide +kernel
theorem d_Mo_toldOn_8 : decode b_Mo_toldOn 8 = .ok (.bipush 6, 2) := by decide +kernel
theorem d_Mo_toldOn_10 : decode b_Mo_toldOn 10 = .ok (.if_icmp .lt 4, 3) := by decide +kernel
theorem d_Mo_toldOn_13 : decode b_Mo_toldOn 13 = .ok (.return_, 1) := by decide +kernel
theorem d_Mo_toldOn_14 : decode b_Mo_toldOn 14 = .ok (.aload_n 0, 1) := by decide +kernel
theorem d_Mo_toldOn_15 : decode b_Mo_toldOn 15 = .ok (.getfield 38, 3) := by decide +kernel
theorem d_Mo_toldOn_18 : decode b_Mo_toldOn 18 = .ok (.iload_n 1, 1) := by decide +kernel
theorem d_Mo_toldOn_19 : decode b_Mo_toldOn 19 = .ok (.aload_n 0, 1) := by decide +kernel
theorem d_Mo_toldOn_20 : decode b_Mo_toldOn 20 = .ok (.getfield 54, 3) := by decide +kernel
theorem d_Mo_toldOn_23 : decode b_Mo_toldOn 23 = .ok (.sipush 240, 3) := by decide +kernel
theorem d_Mo_toldOn_26 : decode b_Mo_toldOn 26 = .ok (.laload, 1) := by decide +kernel
theorem d_Mo_toldOn_27 : decode b_Mo_toldOn 27 = .ok (.lastore, 1) := by decide +kernel
theorem d_Mo_toldOn_28 : decode b_Mo_toldOn 28 = .ok (.aload_n 0, 1) := by decide +kernel
theorem d_Mo_toldOn_29 : decode b_Mo_toldOn 29 = .ok (.getfield 42, 3) := by decide +kernel
theorem d_Mo_toldOn_32 : decode b_Mo_toldOn 32 = .ok (.iload_n 1, 1) := by decide +kernel
theorem d_Mo_toldOn_33 : decode b_Mo_toldOn 33 = .ok (.aload_n 0, 1) := by decide +kernel
theorem d_Mo_toldOn_34 : decode b_Mo_toldOn 34 = .ok (.getfield 57, 3) := by decide +kernel
theorem d_Mo_toldOn_37 : decode b_Mo_toldOn 37 = .ok (.sipush 240, 3) := by decide +kernel
theorem d_Mo_toldOn_40 : decode b_Mo_toldOn 40 = .ok (.iaload, 1) := by decide +kernel
theorem d_Mo_toldOn_41 : decode b_Mo_toldOn 41 = .ok (.iastore, 1) := by decide +kernel
theorem d_Mo_toldOn_42 : decode b_Mo_toldOn 42 = .ok (.aload_n 0, 1) := by decide +kernel
theorem d_Mo_toldOn_43 : decode b_Mo_toldOn 43 = .ok (.getfield 45, 3) := by decide +kernel
theorem d_Mo_toldOn_46 : decode b_Mo_toldOn 46 = .ok (.iload_n 1, 1) := by decide +kernel
theorem d_Mo_toldOn_47 : decode b_Mo_toldOn 47 = .ok (.bipush 6, 2) := by decide +kernel
theorem d_Mo_toldOn_49 : decode b_Mo_toldOn 49 = .ok (.iastore, 1) := by decide +kernel
theorem d_Mo_toldOn_50 : decode b_Mo_toldOn 50 = .ok (.aload_n 0, 1) := by decide +kernel
theorem d_Mo_toldOn_51 : decode b_Mo_toldOn 51 = .ok (.iload_n 1, 1) := by decide +kernel
theorem d_Mo_toldOn_52 : decode b_Mo_toldOn 52 = .ok (.iconst 4, 1) := by decide +kernel
theorem d_Mo_toldOn_53 : decode b_Mo_toldOn 53 = .ok (.idiv, 1) := by decide +kernel
theorem d_Mo_toldOn_54 : decode b_Mo_toldOn 54 = .ok (.invokevirtual 163, 3) := by decide +kernel
theorem d_Mo_toldOn_57 : decode b_Mo_toldOn 57 = .ok (.aload_n 0, 1) := by decide +kernel
theorem d_Mo_toldOn_58 : decode b_Mo_toldOn 58 = .ok (.getfield 60, 3) := by decide +kernel
theorem d_Mo_toldOn_61 : decode b_Mo_toldOn 61 = .ok (.sipush 240, 3) := by decide +kernel
theorem d_Mo_toldOn_64 : decode b_Mo_toldOn 64 = .ok (.baload, 1) := by decide +kernel
theorem d_Mo_toldOn_65 : decode b_Mo_toldOn 65 = .ok (.ifCond .eq 28, 3) := by decide +kernel
theorem d_Mo_toldOn_68 : decode b_Mo_toldOn 68 = .ok (.aload_n 0, 1) := by decide +kernel
theorem d_Mo_toldOn_69 : decode b_Mo_toldOn 69 = .ok (.getfield 22, 3) := by decide +kernel
theorem d_Mo_toldOn_72 : decode b_Mo_toldOn 72 = .ok (.iload_n 1, 1) := by decide +kernel
theorem d_Mo_toldOn_73 : decode b_Mo_toldOn 73 = .ok (.iaload, 1) := by decide +kernel
theorem d_Mo_toldOn_74 : decode b_Mo_toldOn 74 = .ok (.iconst 1, 1) := by decide +kernel
theorem d_Mo_toldOn_75 : decode b_Mo_toldOn 75 = .ok (.if_icmp .eq 13, 3) := by decide +kernel
theorem d_Mo_toldOn_78 : decode b_Mo_toldOn 78 = .ok (.aload_n 0, 1) := by decide +kernel
theorem d_Mo_toldOn_79 : decode b_Mo_toldOn 79 = .ok (.getfield 22, 3) := by decide +kernel
theorem d_Mo_toldOn_82 : decode b_Mo_toldOn 82 = .ok (.iload_n 1, 1) := by decide +kernel
theorem d_Mo_toldOn_83 : decode b_Mo_toldOn 83 = .ok (.iaload, 1) := by decide +kernel
theorem d_Mo_toldOn_84 : decode b_Mo_toldOn 84 = .ok (.iconst 3, 1) := by decide +kernel
theorem d_Mo_toldOn_85 : decode b_Mo_toldOn 85 = .ok (.if_icmp .ne 8, 3) := by decide +kernel
theorem d_Mo_toldOn_88 : decode b_Mo_toldOn 88 = .ok (.aload_n 0, 1) := by decide +kernel
theorem d_Mo_toldOn_89 : decode b_Mo_toldOn 89 = .ok (.iload_n 1, 1) := by decide +kernel
theorem d_Mo_toldOn_90 : decode b_Mo_toldOn 90 = .ok (.invokevirtual 166, 3) := by decide +kernel
theorem d_Mo_toldOn_93 : decode b_Mo_toldOn 93 = .ok (.return_, 1) := by decide +kernel
theorem d_Mo_compute_0 : decode b_Mo_compute 0 = .ok (.aload_n 0, 1) := by decide +kernel
theorem d_Mo_compute_1 : decode b_Mo_compute 1 = .ok (.getfield 75, 3) := by decide +kernel
theorem d_Mo_compute_4 : decode b_Mo_compute 4 = .ok (.iload_n 1, 1) := by decide +kernel
theorem d_Mo_compute_5 : decode b_Mo_compute 5 = .ok (.laload, 1) := by decide +kernel
theorem d_Mo_compute_6 : decode b_Mo_compute 6 = .ok (.invokestatic 118, 3) := by decide +kernel
theorem d_Mo_compute_9 : decode b_Mo_compute 9 = .ok (.istore_n 2, 1) := by decide +kernel
theorem d_Mo_compute_10 : decode b_Mo_compute 10 = .ok (.aload_n 0, 1) := by decide +kernel
theorem d_Mo_compute_11 : decode b_Mo_compute 11 = .ok (.getfield 75, 3) := by decide +kernel
theorem d_Mo_compute_14 : decode b_Mo_compute 14 = .ok (.iload_n 1, 1) := by decide +kernel
theorem d_Mo_compute_15 : decode b_Mo_compute 15 = .ok (.laload, 1) := by decide +kernel
theorem d_Mo_compute_16 : decode b_Mo_compute 16 = .ok (.invokestatic 122, 3) := by decide +kernel
theorem d_Mo_compute_19 : decode b_Mo_compute 19 = .ok (.istore_n 3, 1) := by decide +kernel
theorem d_Mo_compute_20 : decode b_Mo_compute 20 = .ok (.aload_n 0, 1) := by decide +kernel
theorem d_Mo_compute_21 : decode b_Mo_compute 21 = .ok (.getfield 78, 3) := by decide +kernel
theorem d_Mo_compute_24 : decode b_Mo_compute 24 = .ok (.iload_n 1, 1) := by decide +kernel
theorem d_Mo_compute_25 : decode b_Mo_compute 25 = .ok (.iaload, 1) := by decide +kernel
theorem d_Mo_compute_26 : decode b_Mo_compute 26 = .ok (.istore 4, 2) := by decide +kernel
theorem d_Mo_compute_28 : decode b_Mo_compute 28 = .ok (.aload_n 0, 1) := by decide +kernel
theorem d_Mo_compute_29 : decode b_Mo_compute 29 = .ok (.iload_n 1, 1) := by decide +kernel
theorem d_Mo_compute_30 : decode b_Mo_compute 30 = .ok (.invokevirtual 151, 3) := by decide +kernel
theorem d_Mo_compute_33 : decode b_Mo_compute 33 = .ok (.aload_n 0, 1) := by decide +kernel
theorem d_Mo_compute_34 : decode b_Mo_compute 34 = .ok (.getfield 75, 3) := by decide +kernel
theorem d_Mo_compute_37 : decode b_Mo_compute 37 = .ok (.iload_n 1, 1) := by decide +kernel
theorem d_Mo_compute_38 : decode b_Mo_compute 38 = .ok (.laload, 1) := by decide +kernel
theorem d_Mo_compute_39 : decode b_Mo_compute 39 = .ok (.invokestatic 118, 3) := by decide +kernel
theorem d_Mo_compute_42 : decode b_Mo_compute 42 = .ok (.iload_n 2, 1) := by decide +kernel
theorem d_Mo_compute_43 : decode b_Mo_compute 43 = .ok (.if_icmp .ne 27, 3) := by decide +kernel
theorem d_Mo_compute_46 : decode b_Mo_compute 46 = .ok (.aload_n 0, 1) := by decide +kernel
theorem d_Mo_compute_47 : decode b_Mo_compute 47 = .ok (.getfield 75, 3) := by decide +kernel
theorem d_Mo_compute_50 : decode b_Mo_compute 50 = .ok (.iload_n 1, 1) := by decide +kernel
theorem d_Mo_compute_51 : decode b_Mo_compute 51 = .ok (.laload, 1) := by decide +kernel
theorem d_Mo_compute_52 : decode b_Mo_compute 52 = .ok (.invokestatic 122, 3) := by decide +kernel
theorem d_Mo_compute_55 : decode b_Mo_compute 55 = .ok (.iload_n 3, 1) := by decide +kernel
theorem d_Mo_compute_56 : decode b_Mo_compute 56 = .ok (.if_icmp .ne 14, 3) := by decide +kernel
theorem d_Mo_compute_59 : decode b_Mo_compute 59 = .ok (.aload_n 0, 1) := by decide +kernel
theorem d_Mo_compute_60 : decode b_Mo_compute 60 = .ok (.getfield 78, 3) := by decide +kernel
theorem d_Mo_compute_63 : decode b_Mo_compute 63 = .ok (.iload_n 1, 1) := by decide +kernel
theorem d_Mo_compute_64 : decode b_Mo_compute 64 = .ok (.iaload, 1) := by decide +kernel
theorem d_Mo_compute_65 : decode b_Mo_compute 65 = .ok (.iload 4, 2) := by decide +kernel
theorem d_Mo_compute_67 : decode b_Mo_compute 67 = .ok (.if_icmp .eq 7, 3) := by decide +kernel
theorem d_Mo_compute_70 : decode b_Mo_compute 70 = .ok (.iconst 1, 1) := by decide +kernel
theorem d_Mo_compute_71 : decode b_Mo_compute 71 = .ok (.goto 4, 3) := by decide +kernel
theorem d_Mo_compute_74 : decode b_Mo_compute 74 = .ok (.iconst 0, 1) := by decide +kernel
theorem d_Mo_compute_75 : decode b_Mo_compute 75 = .ok (.istore 5, 2) := by decide +kernel
theorem d_Mo_compute_77 : decode b_Mo_compute 77 = .ok (.iconst 4, 1) := by decide +kernel
theorem d_Mo_compute_78 : decode b_Mo_compute 78 = .ok (.iload_n 1, 1) := by decide +kernel
theorem d_Mo_compute_79 : decode b_Mo_compute 79 = .ok (.imul, 1) := by decide +kernel
theorem d_Mo_compute_80 : decode b_Mo_compute 80 = .ok (.istore 6, 2) := by decide +kernel
theorem d_Mo_compute_82 : decode b_Mo_compute 82 = .ok (.iload 6, 2) := by decide +kernel
theorem d_Mo_compute_84 : decode b_Mo_compute 84 = .ok (.iconst 4, 1) := by decide +kernel
theorem d_Mo_compute_85 : decode b_Mo_compute 85 = .ok (.iload_n 1, 1) := by decide +kernel
theorem d_Mo_compute_86 : decode b_Mo_compute 86 = .ok (.imul, 1) := by decide +kernel
theorem d_Mo_compute_87 : decode b_Mo_compute 87 = .ok (.iconst 4, 1) := by decide +kernel
theorem d_Mo_compute_88 : decode b_Mo_compute 88 = .ok (.iadd, 1) := by decide +kernel
theorem d_Mo_compute_89 : decode b_Mo_compute 89 = .ok (.if_icmp .ge 40, 3) := by decide +kernel
theorem d_Mo_compute_92 : decode b_Mo_compute 92 = .ok (.aload_n 0, 1) := by decide +kernel
theorem d_Mo_compute_93 : decode b_Mo_compute 93 = .ok (.iload 6, 2) := by decide +kernel
theorem d_Mo_compute_95 : decode b_Mo_compute 95 = .ok (.invokevirtual 154, 3) := by decide +kernel
theorem d_Mo_compute_98 : decode b_Mo_compute 98 = .ok (.istore 7, 2) := by decide +kernel
theorem d_Mo_compute_100 : decode b_Mo_compute 100 = .ok (.iload 7, 2) := by decide +kernel
theorem d_Mo_compute_102 : decode b_Mo_compute 102 = .ok (.aload_n 0, 1) := by decide +kernel
theorem d_Mo_compute_103 : decode b_Mo_compute 103 = .ok (.getfield 22, 3) := by decide +kernel
theorem d_Mo_compute_106 : decode b_Mo_compute 106 = .ok (.iload 6, 2) := by decide +kernel
theorem d_Mo_compute_108 : decode b_Mo_compute 108 = .ok (.iaload, 1) := by decide +kernel
theorem d_Mo_compute_109 : decode b_Mo_compute 109 = .ok (.if_icmp .eq 14, 3) := by decide +kernel
theorem d_Mo_compute_112 : decode b_Mo_compute 112 = .ok (.aload_n 0, 1) := by decide +kernel
theorem d_Mo_compute_113 : decode b_Mo_compute 113 = .ok (.iload 6, 2) := by decide +kernel
theorem d_Mo_compute_115 : decode b_Mo_compute 115 = .ok (.iload 7, 2) := by decide +kernel
theorem d_Mo_compute_117 : decode b_Mo_compute 117 = .ok (.invokevirtual 157, 3) := by decide +kernel
theorem d_Mo_compute_120 : decode b_Mo_compute 120 = .ok (.iconst 1, 1) := by decide +kernel
theorem d_Mo_compute_121 : decode b_Mo_compute 121 = .ok (.istore 5, 2) := by decide +kernel
theorem d_Mo_compute_123 : decode b_Mo_compute 123 = .ok (.iinc 6 1, 3) := by decide +kernel
theorem d_Mo_compute_126 : decode b_Mo_compute 126 = .ok (.goto (-44), 3) := by decide +kernel
theorem d_Mo_compute_129 : decode b_Mo_compute 129 = .ok (.iload 5, 2) := by decide +kernel
theorem d_Mo_compute_131 : decode b_Mo_compute 131 = .ok (.ifCond .eq 8, 3) := by decide +kernel
theorem d_Mo_compute_134 : decode b_Mo_compute 134 = .ok (.aload_n 0, 1) := by decide +kernel
theorem d_Mo_compute_135 : decode b_Mo_compute 135 = .ok (.iload_n 1, 1) := by decide +kernel
theorem d_Mo_compute_136 : decode b_Mo_compute 136 = .ok (.invokevirtual 160, 3) := by decide +kernel
theorem d_Mo_compute_139 : decode b_Mo_compute 139 = .ok (.return_, 1) := by decide +kernel
theorem d_Mo_rootOf_0 : decode b_Mo_rootOf 0 = .ok (.lload_n 0, 1) := by decide +kernel
theorem d_Mo_rootOf_1 : decode b_Mo_rootOf 1 = .ok (.bipush 40, 2) := by decide +kernel
theorem d_Mo_rootOf_3 : decode b_Mo_rootOf 3 = .ok (.lshr, 1) := by decide +kernel
theorem d_Mo_rootOf_4 : decode b_Mo_rootOf 4 = .ok (.l2i, 1) := by decide +kernel
theorem d_Mo_rootOf_5 : decode b_Mo_rootOf 5 = .ok (.ireturn, 1) := by decide +kernel
theorem d_Mo_costOf_0 : decode b_Mo_costOf 0 = .ok (.lload_n 0, 1) := by decide +kernel
theorem d_Mo_costOf_1 : decode b_Mo_costOf 1 = .ok (.bipush 24, 2) := by decide +kernel
theorem d_Mo_costOf_3 : decode b_Mo_costOf 3 = .ok (.lshr, 1) := by decide +kernel
theorem d_Mo_costOf_4 : decode b_Mo_costOf 4 = .ok (.l2i, 1) := by decide +kernel
theorem d_Mo_costOf_5 : decode b_Mo_costOf 5 = .ok (.ldc 116, 2) := by decide +kernel
theorem d_Mo_costOf_7 : decode b_Mo_costOf 7 = .ok (.iand, 1) := by decide +kernel
theorem d_Mo_costOf_8 : decode b_Mo_costOf 8 = .ok (.ireturn, 1) := by decide +kernel
theorem d_Mo_choose_0 : decode b_Mo_choose 0 = .ok (.aload_n 0, 1) := by decide +kernel
theorem d_Mo_choose_1 : decode b_Mo_choose 1 = .ok (.getfield 75, 3) := by decide +kernel
theorem d_Mo_choose_4 : decode b_Mo_choose 4 = .ok (.iload_n 1, 1) := by decide +kernel
theorem d_Mo_choose_5 : decode b_Mo_choose 5 = .ok (.aload_n 0, 1) := by decide +kernel
theorem d_Mo_choose_6 : decode b_Mo_choose 6 = .ok (.iload_n 1, 1) := by decide +kernel
theorem d_Mo_choose_7 : decode b_Mo_choose 7 = .ok (.invokevirtual 125, 3) := by decide +kernel
theorem d_Mo_choose_10 : decode b_Mo_choose 10 = .ok (.i2l, 1) := by decide +kernel
theorem d_Mo_choose_11 : decode b_Mo_choose 11 = .ok (.lconst 0, 1) := by decide +kernel
theorem d_Mo_choose_12 : decode b_Mo_choose 12 = .ok (.aload_n 0, 1) := by decide +kernel
theorem d_Mo_choose_13 : decode b_Mo_choose 13 = .ok (.iload_n 1, 1) := by decide +kernel
theorem d_Mo_choose_14 : decode b_Mo_choose 14 = .ok (.invokevirtual 125, 3) := by decide +kernel
theorem d_Mo_choose_17 : decode b_Mo_choose 17 = .ok (.i2l, 1) := by decide +kernel
theorem d_Mo_choose_18 : decode b_Mo_choose 18 = .ok (.lconst 0, 1) := by decide +kernel
theorem d_Mo_choose_19 : decode b_Mo_choose 19 = .ok (.invokestatic 104, 3) := by decide +kernel
theorem d_Mo_choose_22 : decode b_Mo_choose 22 = .ok (.lastore, 1) := by decide +kernel
theorem d_Mo_choose_23 : decode b_Mo_choose 23 = .ok (.aload_n 0, 1) := by decide +kernel
theorem d_Mo_choose_24 : decode b_Mo_choose 24 = .ok (.getfield 78, 3) := by decide +kernel
theorem d_Mo_choose_27 : decode b_Mo_choose 27 = .ok (.iload_n 1, 1) := by decide +kernel
theorem d_Mo_choose_28 : decode b_Mo_choose 28 = .ok (.iconst 0, 1) := by decide +kernel
theorem d_Mo_choose_29 : decode b_Mo_choose 29 = .ok (.iastore, 1) := by decide +kernel
theorem d_Mo_choose_30 : decode b_Mo_choose 30 = .ok (.aload_n 0, 1) := by decide +kernel
theorem d_Mo_choose_31 : decode b_Mo_choose 31 = .ok (.getfield 81, 3) := by decide +kernel
theorem d_Mo_choose_34 : decode b_Mo_choose 34 = .ok (.iload_n 1, 1) := by decide +kernel
theorem d_Mo_choose_35 : decode b_Mo_choose 35 = .ok (.iconst (-1), 1) := by decide +kernel
theorem d_Mo_choose_36 : decode b_Mo_choose 36 = .ok (.iastore, 1) := by decide +kernel
theorem d_Mo_choose_37 : decode b_Mo_choose 37 = .ok (.iconst 4, 1) := by decide +kernel
theorem d_Mo_choose_38 : decode b_Mo_choose 38 = .ok (.iload_n 1, 1) := by decide +kernel
theorem d_Mo_choose_39 : decode b_Mo_choose 39 = .ok (.imul, 1) := by decide +kernel
theorem d_Mo_choose_40 : decode b_Mo_choose 40 = .ok (.istore_n 2, 1) := by decide +kernel
theorem d_Mo_choose_41 : decode b_Mo_choose 41 = .ok (.iload_n 2, 1) := by decide +kernel
theorem d_Mo_choose_42 : decode b_Mo_choose 42 = .ok (.iconst 4, 1) := by decide +kernel
theorem d_Mo_choose_43 : decode b_Mo_choose 43 = .ok (.iload_n 1, 1) := by decide +kernel
theorem d_Mo_choose_44 : decode b_Mo_choose 44 = .ok (.imul, 1) := by decide +kernel
theorem d_Mo_choose_45 : decode b_Mo_choose 45 = .ok (.iconst 4, 1) := by decide +kernel
theorem d_Mo_choose_46 : decode b_Mo_choose 46 = .ok (.iadd, 1) := by decide +kernel
theorem d_Mo_choose_47 : decode b_Mo_choose 47 = .ok (.if_icmp .ge 95, 3) := by decide +kernel
theorem d_Mo_choose_50 : decode b_Mo_choose 50 = .ok (.aload_n 0, 1) := by decide +kernel
theorem d_Mo_choose_51 : decode b_Mo_choose 51 = .ok (.getfield 45, 3) := by decide +kernel
theorem d_Mo_choose_54 : decode b_Mo_choose 54 = .ok (.iload_n 2, 1) := by decide +kernel
theorem d_Mo_choose_55 : decode b_Mo_choose 55 = .ok (.iaload, 1) := by decide +kernel
theorem d_Mo_choose_56 : decode b_Mo_choose 56 = .ok (.ifCond .le 80, 3) := by decide +kernel
theorem d_Mo_choose_59 : decode b_Mo_choose 59 = .ok (.aload_n 0, 1) := by decide +kernel
theorem d_Mo_choose_60 : decode b_Mo_choose 60 = .ok (.getfield 38, 3) := by decide +kernel
theorem d_Mo_choose_63 : decode b_Mo_choose 63 = .ok (.iload_n 2, 1) := by decide +kernel
theorem d_Mo_choose_64 : decode b_Mo_choose 64 = .ok (.laload, 1) := by decide +kernel
theorem d_Mo_choose_65 : decode b_Mo_choose 65 = .ok (.invokestatic 148, 3) := by decide +kernel
theorem d_Mo_choose_68 : decode b_Mo_choose 68 = .ok (.bipush 8, 2) := by decide +kernel
theorem d_Mo_choose_70 : decode b_Mo_choose 70 = .ok (.ishr, 1) := by decide +kernel
theorem d_Mo_choose_71 : decode b_Mo_choose 71 = .ok (.aload_n 0, 1) := by decide +kernel
theorem d_Mo_choose_72 : decode b_Mo_choose 72 = .ok (.iload_n 1, 1) := by decide +kernel
theorem d_Mo_choose_73 : decode b_Mo_choose 73 = .ok (.invokevirtual 125, 3) := by decide +kernel
theorem d_Mo_choose_76 : decode b_Mo_choose 76 = .ok (.if_icmp .eq 60, 3) := by decide +kernel
theorem d_Mo_choose_79 : decode b_Mo_choose 79 = .ok (.aload_n 0, 1) := by decide +kernel
theorem d_Mo_choose_80 : decode b_Mo_choose 80 = .ok (.getfield 38, 3) := by decide +kernel
theorem d_Mo_choose_83 : decode b_Mo_choose 83 = .ok (.iload_n 2, 1) := by decide +kernel
theorem d_Mo_choose_84 : decode b_Mo_choose 84 = .ok (.laload, 1) := by decide +kernel
theorem d_Mo_choose_85 : decode b_Mo_choose 85 = .ok (.aload_n 0, 1) := by decide +kernel
theorem d_Mo_choose_86 : decode b_Mo_choose 86 = .ok (.getfield 13, 3) := by decide +kernel
theorem d_Mo_choose_89 : decode b_Mo_choose 89 = .ok (.iload_n 2, 1) := by decide +kernel
theorem d_Mo_choose_90 : decode b_Mo_choose 90 = .ok (.iaload, 1) := by decide +kernel
theorem d_Mo_choose_91 : decode b_Mo_choose 91 = .ok (.i2l, 1) := by decide +kernel
theorem d_Mo_choose_92 : decode b_Mo_choose 92 = .ok (.bipush 24, 2) := by decide +kernel
theorem d_Mo_choose_94 : decode b_Mo_choose 94 = .ok (.lshl, 1) := by decide +kernel
theorem d_Mo_choose_95 : decode b_Mo_choose 95 = .ok (.ladd, 1) := by decide +kernel
theorem d_Mo_choose_96 : decode b_Mo_choose 96 = .ok (.lstore_n 3, 1) := by decide +kernel
theorem d_Mo_choose_97 : decode b_Mo_choose 97 = .ok (.lload_n 3, 1) := by decide +kernel
theorem d_Mo_choose_98 : decode b_Mo_choose 98 = .ok (.aload_n 0, 1) := by decide +kernel
theorem d_Mo_choose_99 : decode b_Mo_choose 99 = .ok (.getfield 75, 3) := by decide +kernel
theorem d_Mo_choose_102 : decode b_Mo_choose 102 = .ok (.iload_n 1, 1) := by decide +kernel
theorem d_Mo_choose_103 : decode b_Mo_choose 103 = .ok (.laload, 1) := by decide +kernel
theorem d_Mo_choose_104 : decode b_Mo_choose 104 = .ok (.lcmp, 1) := by decide +kernel
theorem d_Mo_choose_105 : decode b_Mo_choose 105 = .ok (.ifCond .ge 31, 3) := by decide +kernel
theorem d_Mo_choose_108 : decode b_Mo_choose 108 = .ok (.aload_n 0, 1) := by decide +kernel
theorem d_Mo_choose_109 : decode b_Mo_choose 109 = .ok (.getfield 75, 3) := by decide +kernel
theorem d_Mo_choose_112 : decode b_Mo_choose 112 = .ok (.iload_n 1, 1) := by decide +kernel
theorem d_Mo_choose_113 : decode b_Mo_choose 113 = .ok (.lload_n 3, 1) := by decide +kernel
theorem d_Mo_choose_114 : decode b_Mo_choose 114 = .ok (.lastore, 1) := by decide +kernel
theorem d_Mo_choose_115 : decode b_Mo_choose 115 = .ok (.aload_n 0, 1) := by decide +kernel
theorem d_Mo_choose_116 : decode b_Mo_choose 116 = .ok (.getfield 78, 3) := by decide +kernel
theorem d_Mo_choose_119 : decode b_Mo_choose 119 = .ok (.iload_n 1, 1) := by decide +kernel
theorem d_Mo_choose_120 : decode b_Mo_choose 120 = .ok (.aload_n 0, 1) := by decide +kernel
theorem d_Mo_choose_121 : decode b_Mo_choose 121 = .ok (.getfield 42, 3) := by decide +kernel
theorem d_Mo_choose_124 : decode b_Mo_choose 124 = .ok (.iload_n 2, 1) := by decide +kernel
theorem d_Mo_choose_125 : decode b_Mo_choose 125 = .ok (.iaload, 1) := by decide +kernel
theorem d_Mo_choose_126 : decode b_Mo_choose 126 = .ok (.iconst 1, 1) := by decide +kernel
theorem d_Mo_choose_127 : decode b_Mo_choose 127 = .ok (.iadd, 1) := by decide +kernel
theorem d_Mo_choose_128 : decode b_Mo_choose 128 = .ok (.iastore, 1) := by decide +kernel
theorem d_Mo_choose_129 : decode b_Mo_choose 129 = .ok (.aload_n 0, 1) := by decide +kernel
theorem d_Mo_choose_130 : decode b_Mo_choose 130 = .ok (.getfield 81, 3) := by decide +kernel
theorem d_Mo_choose_133 : decode b_Mo_choose 133 = .ok (.iload_n 1, 1) := by decide +kernel
theorem d_Mo_choose_134 : decode b_Mo_choose 134 = .ok (.iload_n 2, 1) := by decide +kernel
theorem d_Mo_choose_135 : decode b_Mo_choose 135 = .ok (.iastore, 1) := by decide +kernel
theorem d_Mo_choose_136 : decode b_Mo_choose 136 = .ok (.iinc 2 1, 3) := by decide +kernel
theorem d_Mo_choose_139 : decode b_Mo_choose 139 = .ok (.goto (-98), 3) := by decide +kernel
theorem d_Mo_choose_142 : decode b_Mo_choose 142 = .ok (.return_, 1) := by decide +kernel
theorem d_Mo_id_0 : decode b_Mo_id 0 = .ok (.bipush 8, 2) := by decide +kernel
theorem d_Mo_id_2 : decode b_Mo_id 2 = .ok (.aload_n 0, 1) := by decide +kernel
theorem d_Mo_id_3 : decode b_Mo_id 3 = .ok (.getfield 7, 3) := by decide +kernel
theorem d_Mo_id_6 : decode b_Mo_id 6 = .ok (.iload_n 1, 1) := by decide +kernel
theorem d_Mo_id_7 : decode b_Mo_id 7 = .ok (.iaload, 1) := by decide +kernel
theorem d_Mo_id_8 : decode b_Mo_id 8 = .ok (.imul, 1) := by decide +kernel
theorem d_Mo_id_9 : decode b_Mo_id 9 = .ok (.iload_n 1, 1) := by decide +kernel
theorem d_Mo_id_10 : decode b_Mo_id 10 = .ok (.iadd, 1) := by decide +kernel
theorem d_Mo_id_11 : decode b_Mo_id 11 = .ok (.ireturn, 1) := by decide +kernel
theorem d_Mo_teller_0 : decode b_Mo_teller 0 = .ok (.lload_n 0, 1) := by decide +kernel
theorem d_Mo_teller_1 : decode b_Mo_teller 1 = .ok (.l2i, 1) := by decide +kernel
theorem d_Mo_teller_2 : decode b_Mo_teller 2 = .ok (.ldc 117, 2) := by decide +kernel
theorem d_Mo_teller_4 : decode b_Mo_teller 4 = .ok (.iand, 1) := by decide +kernel
theorem d_Mo_teller_5 : decode b_Mo_teller 5 = .ok (.ireturn, 1) := by decide +kernel
theorem d_Mo_roleOf_0 : decode b_Mo_roleOf 0 = .ok (.aload_n 0, 1) := by decide +kernel
theorem d_Mo_roleOf_1 : decode b_Mo_roleOf 1 = .ok (.getfield 19, 3) := by decide +kernel
theorem d_Mo_roleOf_4 : decode b_Mo_roleOf 4 = .ok (.iload_n 1, 1) := by decide +kernel
theorem d_Mo_roleOf_5 : decode b_Mo_roleOf 5 = .ok (.iaload, 1) := by decide +kernel
theorem d_Mo_roleOf_6 : decode b_Mo_roleOf 6 = .ok (.ifCond .ne 5, 3) := by decide +kernel
theorem d_Mo_roleOf_9 : decode b_Mo_roleOf 9 = .ok (.iconst 0, 1) := by decide +kernel
theorem d_Mo_roleOf_10 : decode b_Mo_roleOf 10 = .ok (.ireturn, 1) := by decide +kernel
theorem d_Mo_roleOf_11 : decode b_Mo_roleOf 11 = .ok (.aload_n 0, 1) := by decide +kernel
theorem d_Mo_roleOf_12 : decode b_Mo_roleOf 12 = .ok (.getfield 19, 3) := by decide +kernel
theorem d_Mo_roleOf_15 : decode b_Mo_roleOf 15 = .ok (.iload_n 1, 1) := by decide +kernel
theorem d_Mo_roleOf_16 : decode b_Mo_roleOf 16 = .ok (.iaload, 1) := by decide +kernel
theorem d_Mo_roleOf_17 : decode b_Mo_roleOf 17 = .ok (.bipush 100, 2) := by decide +kernel
theorem d_Mo_roleOf_19 : decode b_Mo_roleOf 19 = .ok (.if_icmp .lt 5, 3) := by decide +kernel
theorem d_Mo_roleOf_22 : decode b_Mo_roleOf 22 = .ok (.iconst 2, 1) := by decide +kernel
theorem d_Mo_roleOf_23 : decode b_Mo_roleOf 23 = .ok (.ireturn, 1) := by decide +kernel
theorem d_Mo_roleOf_24 : decode b_Mo_roleOf 24 = .ok (.aload_n 0, 1) := by decide +kernel
theorem d_Mo_roleOf_25 : decode b_Mo_roleOf 25 = .ok (.getfield 81, 3) := by decide +kernel
theorem d_Mo_roleOf_28 : decode b_Mo_roleOf 28 = .ok (.iload_n 1, 1) := by decide +kernel
theorem d_Mo_roleOf_29 : decode b_Mo_roleOf 29 = .ok (.iconst 4, 1) := by decide +kernel
theorem d_Mo_roleOf_30 : decode b_Mo_roleOf 30 = .ok (.idiv, 1) := by decide +kernel
theorem d_Mo_roleOf_31 : decode b_Mo_roleOf 31 = .ok (.iaload, 1) := by decide +kernel
theorem d_Mo_roleOf_32 : decode b_Mo_roleOf 32 = .ok (.iload_n 1, 1) := by decide +kernel
theorem d_Mo_roleOf_33 : decode b_Mo_roleOf 33 = .ok (.if_icmp .ne 5, 3) := by decide +kernel
theorem d_Mo_roleOf_36 : decode b_Mo_roleOf 36 = .ok (.iconst 1, 1) := by decide +kernel
theorem d_Mo_roleOf_37 : decode b_Mo_roleOf 37 = .ok (.ireturn, 1) := by decide +kernel
theorem d_Mo_roleOf_38 : decode b_Mo_roleOf 38 = .ok (.aload_n 0, 1) := by decide +kernel
theorem d_Mo_roleOf_39 : decode b_Mo_roleOf 39 = .ok (.getfield 45, 3) := by decide +kernel
theorem d_Mo_roleOf_42 : decode b_Mo_roleOf 42 = .ok (.iload_n 1, 1) := by decide +kernel
theorem d_Mo_roleOf_43 : decode b_Mo_roleOf 43 = .ok (.iaload, 1) := by decide +kernel
theorem d_Mo_roleOf_44 : decode b_Mo_roleOf 44 = .ok (.ifCond .eq 18, 3) := by decide +kernel
theorem d_Mo_roleOf_47 : decode b_Mo_roleOf 47 = .ok (.aload_n 0, 1) := by decide +kernel
theorem d_Mo_roleOf_48 : decode b_Mo_roleOf 48 = .ok (.iload_n 1, 1) := by decide +kernel
theorem d_Mo_roleOf_49 : decode b_Mo_roleOf 49 = .ok (.invokevirtual 133, 3) := by decide +kernel
theorem d_Mo_roleOf_52 : decode b_Mo_roleOf 52 = .ok (.aload_n 0, 1) := by decide +kernel
theorem d_Mo_roleOf_53 : decode b_Mo_roleOf 53 = .ok (.getfield 38, 3) := by decide +kernel
theorem d_Mo_roleOf_56 : decode b_Mo_roleOf 56 = .ok (.iload_n 1, 1) := by decide +kernel
theorem d_Mo_roleOf_57 : decode b_Mo_roleOf 57 = .ok (.laload, 1) := by decide +kernel
theorem d_Mo_roleOf_58 : decode b_Mo_roleOf 58 = .ok (.lcmp, 1) := by decide +kernel
theorem d_Mo_roleOf_59 : decode b_Mo_roleOf 59 = .ok (.ifCond .ge 7, 3) := by decide +kernel
theorem d_Mo_roleOf_62 : decode b_Mo_roleOf 62 = .ok (.iconst 2, 1) := by decide +kernel
theorem d_Mo_roleOf_63 : decode b_Mo_roleOf 63 = .ok (.goto 4, 3) := by decide +kernel
theorem d_Mo_roleOf_66 : decode b_Mo_roleOf 66 = .ok (.iconst 3, 1) := by decide +kernel
theorem d_Mo_roleOf_67 : decode b_Mo_roleOf 67 = .ok (.ireturn, 1) := by decide +kernel
theorem d_Mo_wouldTell_0 : decode b_Mo_wouldTell 0 = .ok (.iload_n 1, 1) := by decide +kernel
theorem d_Mo_wouldTell_1 : decode b_Mo_wouldTell 1 = .ok (.iconst 4, 1) := by decide +kernel
theorem d_Mo_wouldTell_2 : decode b_Mo_wouldTell 2 = .ok (.idiv, 1) := by decide +kernel
theorem d_Mo_wouldTell_3 : decode b_Mo_wouldTell 3 = .ok (.istore_n 2, 1) := by decide +kernel
theorem d_Mo_wouldTell_4 : decode b_Mo_wouldTell 4 = .ok (.aload_n 0, 1) := by decide +kernel
theorem d_Mo_wouldTell_5 : decode b_Mo_wouldTell 5 = .ok (.getfield 75, 3) := by decide +kernel
theorem d_Mo_wouldTell_8 : decode b_Mo_wouldTell 8 = .ok (.iload_n 2, 1) := by decide +kernel
theorem d_Mo_wouldTell_9 : decode b_Mo_wouldTell 9 = .ok (.laload, 1) := by decide +kernel
theorem d_Mo_wouldTell_10 : decode b_Mo_wouldTell 10 = .ok (.invokestatic 118, 3) := by decide +kernel
theorem d_Mo_wouldTell_13 : decode b_Mo_wouldTell 13 = .ok (.i2l, 1) := by decide +kernel
theorem d_Mo_wouldTell_14 : decode b_Mo_wouldTell 14 = .ok (.aload_n 0, 1) := by decide +kernel
theorem d_Mo_wouldTell_15 : decode b_Mo_wouldTell 15 = .ok (.getfield 75, 3) := by decide +kernel
theorem d_Mo_wouldTell_18 : decode b_Mo_wouldTell 18 = .ok (.iload_n 2, 1) := by decide +kernel
theorem d_Mo_wouldTell_19 : decode b_Mo_wouldTell 19 = .ok (.laload, 1) := by decide +kernel
theorem d_Mo_wouldTell_20 : decode b_Mo_wouldTell 20 = .ok (.invokestatic 122, 3) := by decide +kernel
theorem d_Mo_wouldTell_23 : decode b_Mo_wouldTell 23 = .ok (.i2l, 1) := by decide +kernel
theorem d_Mo_wouldTell_24 : decode b_Mo_wouldTell 24 = .ok (.aload_n 0, 1) := by decide +kernel
theorem d_Mo_wouldTell_25 : decode b_Mo_wouldTell 25 = .ok (.iload_n 2, 1) := by decide +kernel
theorem d_Mo_wouldTell_26 : decode b_Mo_wouldTell 26 = .ok (.invokevirtual 125, 3) := by decide +kernel
theorem d_Mo_wouldTell_29 : decode b_Mo_wouldTell 29 = .ok (.i2l, 1) := by decide +kernel
theorem d_Mo_wouldTell_30 : decode b_Mo_wouldTell 30 = .ok (.iload_n 1, 1) := by decide +kernel
theorem d_Mo_wouldTell_31 : decode b_Mo_wouldTell 31 = .ok (.iconst 4, 1) := by decide +kernel
theorem d_Mo_wouldTell_32 : decode b_Mo_wouldTell 32 = .ok (.irem, 1) := by decide +kernel
theorem d_Mo_wouldTell_33 : decode b_Mo_wouldTell 33 = .ok (.i2l, 1) := by decide +kernel
theorem d_Mo_wouldTell_34 : decode b_Mo_wouldTell 34 = .ok (.invokestatic 104, 3) := by decide +kernel
theorem d_Mo_wouldTell_37 : decode b_Mo_wouldTell 37 = .ok (.lreturn, 1) := by decide +kernel
theorem d_Mo_take_0 : decode b_Mo_take 0 = .ok (.aload_n 0, 1) := by decide +kernel
theorem d_Mo_take_1 : decode b_Mo_take 1 = .ok (.getfield 22, 3) := by decide +kernel
theorem d_Mo_take_4 : decode b_Mo_take 4 = .ok (.iload_n 1, 1) := by decide +kernel
theorem d_Mo_take_5 : decode b_Mo_take 5 = .ok (.iload_n 2, 1) := by decide +kernel
theorem d_Mo_take_6 : decode b_Mo_take 6 = .ok (.iastore, 1) := by decide +kernel
theorem d_Mo_take_7 : decode b_Mo_take 7 = .ok (.aload_n 0, 1) := by decide +kernel
theorem d_Mo_take_8 : decode b_Mo_take 8 = .ok (.getfield 32, 3) := by decide +kernel
theorem d_Mo_take_11 : decode b_Mo_take 11 = .ok (.iload_n 1, 1) := by decide +kernel
theorem d_Mo_take_12 : decode b_Mo_take 12 = .ok (.iconst 0, 1) := by decide +kernel
theorem d_Mo_take_13 : decode b_Mo_take 13 = .ok (.bastore, 1) := by decide +kernel
theorem d_Mo_take_14 : decode b_Mo_take 14 = .ok (.aload_n 0, 1) := by decide +kernel
theorem d_Mo_take_15 : decode b_Mo_take 15 = .ok (.getfield 28, 3) := by decide +kernel
theorem d_Mo_take_18 : decode b_Mo_take 18 = .ok (.iload_n 1, 1) := by decide +kernel
theorem d_Mo_take_19 : decode b_Mo_take 19 = .ok (.iload_n 2, 1) := by decide +kernel
theorem d_Mo_take_20 : decode b_Mo_take 20 = .ok (.iconst 2, 1) := by decide +kernel
theorem d_Mo_take_21 : decode b_Mo_take 21 = .ok (.if_icmp .ne 15, 3) := by decide +kernel
theorem d_Mo_take_24 : decode b_Mo_take 24 = .ok (.aload_n 0, 1) := by decide +kernel
theorem d_Mo_take_25 : decode b_Mo_take 25 = .ok (.iload_n 1, 1) := by decide +kernel
theorem d_Mo_take_26 : decode b_Mo_take 26 = .ok (.invokevirtual 137, 3) := by decide +kernel
theorem d_Mo_take_29 : decode b_Mo_take 29 = .ok (.ifCond .eq 7, 3) := by decide +kernel
theorem d_Mo_take_32 : decode b_Mo_take 32 = .ok (.iconst 1, 1) := by decide +kernel
theorem d_Mo_take_33 : decode b_Mo_take 33 = .ok (.goto 4, 3) := by decide +kernel
theorem d_Mo_take_36 : decode b_Mo_take 36 = .ok (.iconst 0, 1) := by decide +kernel
theorem d_Mo_take_37 : decode b_Mo_take 37 = .ok (.bastore, 1) := by decide +kernel
theorem d_Mo_take_38 : decode b_Mo_take 38 = .ok (.aload_n 0, 1) := by decide +kernel
theorem d_Mo_take_39 : decode b_Mo_take 39 = .ok (.getfield 35, 3) := by decide +kernel
theorem d_Mo_take_42 : decode b_Mo_take 42 = .ok (.iload_n 1, 1) := by decide +kernel
theorem d_Mo_take_43 : decode b_Mo_take 43 = .ok (.aload_n 0, 1) := by decide +kernel
theorem d_Mo_take_44 : decode b_Mo_take 44 = .ok (.getfield 28, 3) := by decide +kernel
theorem d_Mo_take_47 : decode b_Mo_take 47 = .ok (.iload_n 1, 1) := by decide +kernel
theorem d_Mo_take_48 : decode b_Mo_take 48 = .ok (.baload, 1) := by decide +kernel
theorem d_Mo_take_49 : decode b_Mo_take 49 = .ok (.ifCond .eq 7, 3) := by decide +kernel
theorem d_Mo_take_52 : decode b_Mo_take 52 = .ok (.iconst 4, 1) := by decide +kernel
theorem d_Mo_take_53 : decode b_Mo_take 53 = .ok (.goto 4, 3) := by decide +kernel
theorem d_Mo_take_56 : decode b_Mo_take 56 = .ok (.iconst 0, 1) := by decide +kernel
theorem d_Mo_take_57 : decode b_Mo_take 57 = .ok (.iastore, 1) := by decide +kernel
theorem d_Mo_take_58 : decode b_Mo_take 58 = .ok (.aload_n 0, 1) := by decide +kernel
theorem d_Mo_take_59 : decode b_Mo_take 59 = .ok (.getfield 25, 3) := by decide +kernel
theorem d_Mo_take_62 : decode b_Mo_take 62 = .ok (.iload_n 1, 1) := by decide +kernel
theorem d_Mo_take_63 : decode b_Mo_take 63 = .ok (.iload_n 2, 1) := by decide +kernel
theorem d_Mo_take_64 : decode b_Mo_take 64 = .ok (.iconst 1, 1) := by decide +kernel
theorem d_Mo_take_65 : decode b_Mo_take 65 = .ok (.if_icmp .eq 16, 3) := by decide +kernel
theorem d_Mo_take_68 : decode b_Mo_take 68 = .ok (.iload_n 2, 1) := by decide +kernel
theorem d_Mo_take_69 : decode b_Mo_take 69 = .ok (.iconst 2, 1) := by decide +kernel
theorem d_Mo_take_70 : decode b_Mo_take 70 = .ok (.if_icmp .ne 15, 3) := by decide +kernel
theorem d_Mo_take_73 : decode b_Mo_take 73 = .ok (.aload_n 0, 1) := by decide +kernel
theorem d_Mo_take_74 : decode b_Mo_take 74 = .ok (.iload_n 1, 1) := by decide +kernel
theorem d_Mo_take_75 : decode b_Mo_take 75 = .ok (.invokevirtual 137, 3) := by decide +kernel
theorem d_Mo_take_78 : decode b_Mo_take 78 = .ok (.ifCond .ne 7, 3) := by decide +kernel
theorem d_Mo_take_81 : decode b_Mo_take 81 = .ok (.iconst 2, 1) := by decide +kernel
theorem d_Mo_take_82 : decode b_Mo_take 82 = .ok (.goto 4, 3) := by decide +kernel
theorem d_Mo_take_85 : decode b_Mo_take 85 = .ok (.iconst 0, 1) := by decide +kernel
theorem d_Mo_take_86 : decode b_Mo_take 86 = .ok (.iastore, 1) := by decide +kernel
theorem d_Mo_take_87 : decode b_Mo_take 87 = .ok (.return_, 1) := by decide +kernel
theorem d_Mo_isLinked_0 : decode b_Mo_isLinked 0 = .ok (.aload_n 0, 1) := by decide +kernel
theorem d_Mo_isLinked_1 : decode b_Mo_isLinked 1 = .ok (.getfield 19, 3) := by decide +kernel
theorem d_Mo_isLinked_4 : decode b_Mo_isLinked 4 = .ok (.iload_n 1, 1) := by decide +kernel
theorem d_Mo_isLinked_5 : decode b_Mo_isLinked 5 = .ok (.iaload, 1) := by decide +kernel
theorem d_Mo_isLinked_6 : decode b_Mo_isLinked 6 = .ok (.ifCond .le 18, 3) := by decide +kernel
theorem d_Mo_isLinked_9 : decode b_Mo_isLinked 9 = .ok (.aload_n 0, 1) := by decide +kernel
theorem d_Mo_isLinked_10 : decode b_Mo_isLinked 10 = .ok (.getfield 19, 3) := by decide +kernel
theorem d_Mo_isLinked_13 : decode b_Mo_isLinked 13 = .ok (.iload_n 1, 1) := by decide +kernel
theorem d_Mo_isLinked_14 : decode b_Mo_isLinked 14 = .ok (.iaload, 1) := by decide +kernel
theorem d_Mo_isLinked_15 : decode b_Mo_isLinked 15 = .ok (.bipush 100, 2) := by decide +kernel
theorem d_Mo_isLinked_17 : decode b_Mo_isLinked 17 = .ok (.if_icmp .ge 7, 3) := by decide +kernel
theorem d_Mo_isLinked_20 : decode b_Mo_isLinked 20 = .ok (.iconst 1, 1) := by decide +kernel
theorem d_Mo_isLinked_21 : decode b_Mo_isLinked 21 = .ok (.goto 4, 3) := by decide +kernel
theorem d_Mo_isLinked_24 : decode b_Mo_isLinked 24 = .ok (.iconst 0, 1) := by decide +kernel
theorem d_Mo_isLinked_25 : decode b_Mo_isLinked 25 = .ok (.ireturn, 1) := by decide +kernel
theorem d_Mo_tellAll_0 : decode b_Mo_tellAll 0 = .ok (.iconst 4, 1) := by decide +kernel
theorem d_Mo_tellAll_1 : decode b_Mo_tellAll 1 = .ok (.iload_n 1, 1) := by decide +kernel
theorem d_Mo_tellAll_2 : decode b_Mo_tellAll 2 = .ok (.imul, 1) := by decide +kernel
theorem d_Mo_tellAll_3 : decode b_Mo_tellAll 3 = .ok (.istore_n 2, 1) := by decide +kernel
theorem d_Mo_tellAll_4 : decode b_Mo_tellAll 4 = .ok (.iload_n 2, 1) := by decide +kernel
theorem d_Mo_tellAll_5 : decode b_Mo_tellAll 5 = .ok (.iconst 4, 1) := by decide +kernel
theorem d_Mo_tellAll_6 : decode b_Mo_tellAll 6 = .ok (.iload_n 1, 1) := by decide +kernel
theorem d_Mo_tellAll_7 : decode b_Mo_tellAll 7 = .ok (.imul, 1) := by decide +kernel
theorem d_Mo_tellAll_8 : decode b_Mo_tellAll 8 = .ok (.iconst 4, 1) := by decide +kernel
theorem d_Mo_tellAll_9 : decode b_Mo_tellAll 9 = .ok (.iadd, 1) := by decide +kernel
theorem d_Mo_tellAll_10 : decode b_Mo_tellAll 10 = .ok (.if_icmp .ge 32, 3) := by decide +kernel
theorem d_Mo_tellAll_13 : decode b_Mo_tellAll 13 = .ok (.aload_n 0, 1) := by decide +kernel
theorem d_Mo_tellAll_14 : decode b_Mo_tellAll 14 = .ok (.iload_n 2, 1) := by decide +kernel
theorem d_Mo_tellAll_15 : decode b_Mo_tellAll 15 = .ok (.invokevirtual 137, 3) := by decide +kernel
theorem d_Mo_tellAll_18 : decode b_Mo_tellAll 18 = .ok (.ifCond .eq 18, 3) := by decide +kernel
theorem d_Mo_tellAll_21 : decode b_Mo_tellAll 21 = .ok (.aload_n 0, 1) := by decide +kernel
theorem d_Mo_tellAll_22 : decode b_Mo_tellAll 22 = .ok (.getfield 22, 3) := by decide +kernel
theorem d_Mo_tellAll_25 : decode b_Mo_tellAll 25 = .ok (.iload_n 2, 1) := by decide +kernel
theorem d_Mo_tellAll_26 : decode b_Mo_tellAll 26 = .ok (.iaload, 1) := by decide +kernel
theorem d_Mo_tellAll_27 : decode b_Mo_tellAll 27 = .ok (.iconst 2, 1) := by decide +kernel
theorem d_Mo_tellAll_28 : decode b_Mo_tellAll 28 = .ok (.if_icmp .ne 8, 3) := by decide +kernel
theorem d_Mo_tellAll_31 : decode b_Mo_tellAll 31 = .ok (.aload_n 0, 1) := by decide +kernel
theorem d_Mo_tellAll_32 : decode b_Mo_tellAll 32 = .ok (.iload_n 2, 1) := by decide +kernel
theorem d_Mo_tellAll_33 : decode b_Mo_tellAll 33 = .ok (.invokevirtual 140, 3) := by decide +kernel
theorem d_Mo_tellAll_36 : decode b_Mo_tellAll 36 = .ok (.iinc 2 1, 3) := by decide +kernel
theorem d_Mo_tellAll_39 : decode b_Mo_tellAll 39 = .ok (.goto (-35), 3) := by decide +kernel
theorem d_Mo_tellAll_42 : decode b_Mo_tellAll 42 = .ok (.return_, 1) := by decide +kernel
theorem d_Mo_tell_0 : decode b_Mo_tell 0 = .ok (.aload_n 0, 1) := by decide +kernel
theorem d_Mo_tell_1 : decode b_Mo_tell 1 = .ok (.iload_n 1, 1) := by decide +kernel
theorem d_Mo_tell_2 : decode b_Mo_tell 2 = .ok (.iconst 1, 1) := by decide +kernel
theorem d_Mo_tell_3 : decode b_Mo_tell 3 = .ok (.invokevirtual 129, 3) := by decide +kernel
theorem d_Mo_tell_6 : decode b_Mo_tell 6 = .ok (.istore_n 2, 1) := by decide +kernel
theorem d_Mo_tell_7 : decode b_Mo_tell 7 = .ok (.iload_n 2, 1) := by decide +kernel
theorem d_Mo_tell_8 : decode b_Mo_tell 8 = .ok (.ifCond .lt 40, 3) := by decide +kernel
theorem d_Mo_tell_11 : decode b_Mo_tell 11 = .ok (.aload_n 0, 1) := by decide +kernel
theorem d_Mo_tell_12 : decode b_Mo_tell 12 = .ok (.getfield 54, 3) := by decide +kernel
theorem d_Mo_tell_15 : decode b_Mo_tell 15 = .ok (.iload_n 2, 1) := by decide +kernel
theorem d_Mo_tell_16 : decode b_Mo_tell 16 = .ok (.aload_n 0, 1) := by decide +kernel
theorem d_Mo_tell_17 : decode b_Mo_tell 17 = .ok (.iload_n 1, 1) := by decide +kernel
theorem d_Mo_tell_18 : decode b_Mo_tell 18 = .ok (.invokevirtual 133, 3) := by decide +kernel
theorem d_Mo_tell_21 : decode b_Mo_tell 21 = .ok (.lastore, 1) := by decide +kernel
theorem d_Mo_tell_22 : decode b_Mo_tell 22 = .ok (.aload_n 0, 1) := by decide +kernel
theorem d_Mo_tell_23 : decode b_Mo_tell 23 = .ok (.getfield 57, 3) := by decide +kernel
theorem d_Mo_tell_26 : decode b_Mo_tell 26 = .ok (.iload_n 2, 1) := by decide +kernel
theorem d_Mo_tell_27 : decode b_Mo_tell 27 = .ok (.aload_n 0, 1) := by decide +kernel
theorem d_Mo_tell_28 : decode b_Mo_tell 28 = .ok (.getfield 78, 3) := by decide +kernel
theorem d_Mo_tell_31 : decode b_Mo_tell 31 = .ok (.iload_n 1, 1) := by decide +kernel
theorem d_Mo_tell_32 : decode b_Mo_tell 32 = .ok (.iconst 4, 1) := by decide +kernel
theorem d_Mo_tell_33 : decode b_Mo_tell 33 = .ok (.idiv, 1) := by decide +kernel
theorem d_Mo_tell_34 : decode b_Mo_tell 34 = .ok (.iaload, 1) := by decide +kernel
theorem d_Mo_tell_35 : decode b_Mo_tell 35 = .ok (.iastore, 1) := by decide +kernel
theorem d_Mo_tell_36 : decode b_Mo_tell 36 = .ok (.aload_n 0, 1) := by decide +kernel
theorem d_Mo_tell_37 : decode b_Mo_tell 37 = .ok (.getfield 60, 3) := by decide +kernel
theorem d_Mo_tell_40 : decode b_Mo_tell 40 = .ok (.iload_n 2, 1) := by decide +kernel
theorem d_Mo_tell_41 : decode b_Mo_tell 41 = .ok (.aload_n 0, 1) := by decide +kernel
theorem d_Mo_tell_42 : decode b_Mo_tell 42 = .ok (.getfield 28, 3) := by decide +kernel
theorem d_Mo_tell_45 : decode b_Mo_tell 45 = .ok (.iload_n 1, 1) := by decide +kernel
theorem d_Mo_tell_46 : decode b_Mo_tell 46 = .ok (.baload, 1) := by decide +kernel
theorem d_Mo_tell_47 : decode b_Mo_tell 47 = .ok (.bastore, 1) := by decide +kernel
theorem d_Mo_tell_48 : decode b_Mo_tell 48 = .ok (.return_, 1) := by decide +kernel
theorem d_Mo_post_0 : decode b_Mo_post 0 = .ok (.aload_n 0, 1) := by decide +kernel
theorem d_Mo_post_1 : decode b_Mo_post 1 = .ok (.getfield 19, 3) := by decide +kernel
theorem d_Mo_post_4 : decode b_Mo_post 4 = .ok (.iload_n 1, 1) := by decide +kernel
theorem d_Mo_post_5 : decode b_Mo_post 5 = .ok (.iaload, 1) := by decide +kernel
theorem d_Mo_post_6 : decode b_Mo_post 6 = .ok (.iconst 1, 1) := by decide +kernel
theorem d_Mo_post_7 : decode b_Mo_post 7 = .ok (.isub, 1) := by decide +kernel
theorem d_Mo_post_8 : decode b_Mo_post 8 = .ok (.istore_n 3, 1) := by decide +kernel
theorem d_Mo_post_9 : decode b_Mo_post 9 = .ok (.aload_n 0, 1) := by decide +kernel
theorem d_Mo_post_10 : decode b_Mo_post 10 = .ok (.getfield 48, 3) := by decide +kernel
theorem d_Mo_post_13 : decode b_Mo_post 13 = .ok (.iload_n 3, 1) := by decide +kernel
theorem d_Mo_post_14 : decode b_Mo_post 14 = .ok (.iaload, 1) := by decide +kernel
theorem d_Mo_post_15 : decode b_Mo_post 15 = .ok (.bipush 12, 2) := by decide +kernel
theorem d_Mo_post_17 : decode b_Mo_post 17 = .ok (.if_icmp .ne 5, 3) := by decide +kernel
theorem d_Mo_post_20 : decode b_Mo_post 20 = .ok (.iconst (-1), 1) := by decide +kernel
theorem d_Mo_post_21 : decode b_Mo_post 21 = .ok (.ireturn, 1) := by decide +kernel
theorem d_Mo_post_22 : decode b_Mo_post 22 = .ok (.bipush 12, 2) := by decide +kernel
theorem d_Mo_post_24 : decode b_Mo_post 24 = .ok (.iload_n 3, 1) := by decide +kernel
theorem d_Mo_post_25 : decode b_Mo_post 25 = .ok (.imul, 1) := by decide +kernel
theorem d_Mo_post_26 : decode b_Mo_post 26 = .ok (.aload_n 0, 1) := by decide +kernel
theorem d_Mo_post_27 : decode b_Mo_post 27 = .ok (.getfield 48, 3) := by decide +kernel
theorem d_Mo_post_30 : decode b_Mo_post 30 = .ok (.iload_n 3, 1) := by decide +kernel
theorem d_Mo_post_31 : decode b_Mo_post 31 = .ok (.iaload, 1) := by decide +kernel
theorem d_Mo_post_32 : decode b_Mo_post 32 = .ok (.iadd, 1) := by decide +kernel
theorem d_Mo_post_33 : decode b_Mo_post 33 = .ok (.istore 4, 2) := by decide +kernel
theorem d_Mo_post_35 : decode b_Mo_post 35 = .ok (.aload_n 0, 1) := by decide +kernel
theorem d_Mo_post_36 : decode b_Mo_post 36 = .ok (.getfield 51, 3) := by decide +kernel
theorem d_Mo_post_39 : decode b_Mo_post 39 = .ok (.iload 4, 2) := by decide +kernel
theorem d_Mo_post_41 : decode b_Mo_post 41 = .ok (.iload_n 2, 1) := by decide +kernel
theorem d_Mo_post_42 : decode b_Mo_post 42 = .ok (.iastore, 1) := by decide +kernel
theorem d_Mo_post_43 : decode b_Mo_post 43 = .ok (.aload_n 0, 1) := by decide +kernel
theorem d_Mo_post_44 : decode b_Mo_post 44 = .ok (.getfield 48, 3) := by decide +kernel
theorem d_Mo_post_47 : decode b_Mo_post 47 = .ok (.iload_n 3, 1) := by decide +kernel
theorem d_Mo_post_48 : decode b_Mo_post 48 = .ok (.dup2, 1) := by decide +kernel
theorem d_Mo_post_49 : decode b_Mo_post 49 = .ok (.iaload, 1) := by decide +kernel
theorem d_Mo_post_50 : decode b_Mo_post 50 = .ok (.iconst 1, 1) := by decide +kernel
theorem d_Mo_post_51 : decode b_Mo_post 51 = .ok (.iadd, 1) := by decide +kernel
theorem d_Mo_post_52 : decode b_Mo_post 52 = .ok (.iastore, 1) := by decide +kernel
theorem d_Mo_post_53 : decode b_Mo_post 53 = .ok (.iload 4, 2) := by decide +kernel
theorem d_Mo_post_55 : decode b_Mo_post 55 = .ok (.ireturn, 1) := by decide +kernel
theorem d_Mo_agree_0 : decode b_Mo_agree 0 = .ok (.iload_n 1, 1) := by decide +kernel
theorem d_Mo_agree_1 : decode b_Mo_agree 1 = .ok (.iconst 4, 1) := by decide +kernel
theorem d_Mo_agree_2 : decode b_Mo_agree 2 = .ok (.idiv, 1) := by decide +kernel
theorem d_Mo_agree_3 : decode b_Mo_agree 3 = .ok (.istore_n 2, 1) := by decide +kernel
theorem d_Mo_agree_4 : decode b_Mo_agree 4 = .ok (.iconst 4, 1) := by decide +kernel
theorem d_Mo_agree_5 : decode b_Mo_agree 5 = .ok (.iload_n 2, 1) := by decide +kernel
theorem d_Mo_agree_6 : decode b_Mo_agree 6 = .ok (.imul, 1) := by decide +kernel
theorem d_Mo_agree_7 : decode b_Mo_agree 7 = .ok (.istore_n 3, 1) := by decide +kernel
theorem d_Mo_agree_8 : decode b_Mo_agree 8 = .ok (.iload_n 3, 1) := by decide +kernel
theorem d_Mo_agree_9 : decode b_Mo_agree 9 = .ok (.iconst 4, 1) := by decide +kernel
theorem d_Mo_agree_10 : decode b_Mo_agree 10 = .ok (.iload_n 2, 1) := by decide +kernel
theorem d_Mo_agree_11 : decode b_Mo_agree 11 = .ok (.imul, 1) := by decide +kernel
theorem d_Mo_agree_12 : decode b_Mo_agree 12 = .ok (.iconst 4, 1) := by decide +kernel
theorem d_Mo_agree_13 : decode b_Mo_agree 13 = .ok (.iadd, 1) := by decide +kernel
theorem d_Mo_agree_14 : decode b_Mo_agree 14 = .ok (.if_icmp .ge 77, 3) := by decide +kernel
theorem d_Mo_agree_17 : decode b_Mo_agree 17 = .ok (.aload_n 0, 1) := by decide +kernel
theorem d_Mo_agree_18 : decode b_Mo_agree 18 = .ok (.getfield 22, 3) := by decide +kernel
theorem d_Mo_agree_21 : decode b_Mo_agree 21 = .ok (.iload_n 1, 1) := by decide +kernel
theorem d_Mo_agree_22 : decode b_Mo_agree 22 = .ok (.iaload, 1) := by decide +kernel
theorem d_Mo_agree_23 : decode b_Mo_agree 23 = .ok (.iconst 1, 1) := by decide +kernel
theorem d_Mo_agree_24 : decode b_Mo_agree 24 = .ok (.if_icmp .ne 61, 3) := by decide +kernel
theorem d_Mo_agree_27 : decode b_Mo_agree 27 = .ok (.iload_n 3, 1) := by decide +kernel
theorem d_Mo_agree_28 : decode b_Mo_agree 28 = .ok (.iload_n 1, 1) := by decide +kernel
theorem d_Mo_agree_29 : decode b_Mo_agree 29 = .ok (.if_icmp .eq 56, 3) := by decide +kernel
theorem d_Mo_agree_32 : decode b_Mo_agree 32 = .ok (.aload_n 0, 1) := by decide +kernel
theorem d_Mo_agree_33 : decode b_Mo_agree 33 = .ok (.iload_n 3, 1) := by decide +kernel
theorem d_Mo_agree_34 : decode b_Mo_agree 34 = .ok (.invokevirtual 137, 3) := by decide +kernel
theorem d_Mo_agree_37 : decode b_Mo_agree 37 = .ok (.ifCond .eq 48, 3) := by decide +kernel
theorem d_Mo_agree_40 : decode b_Mo_agree 40 = .ok (.aload_n 0, 1) := by decide +kernel
theorem d_Mo_agree_41 : decode b_Mo_agree 41 = .ok (.getfield 22, 3) := by decide +kernel
theorem d_Mo_agree_44 : decode b_Mo_agree 44 = .ok (.iload_n 3, 1) := by decide +kernel
theorem d_Mo_agree_45 : decode b_Mo_agree 45 = .ok (.iaload, 1) := by decide +kernel
theorem d_Mo_agree_46 : decode b_Mo_agree 46 = .ok (.iconst 2, 1) := by decide +kernel
theorem d_Mo_agree_47 : decode b_Mo_agree 47 = .ok (.if_icmp .ne 38, 3) := by decide +kernel
theorem d_Mo_agree_50 : decode b_Mo_agree 50 = .ok (.aload_n 0, 1) := by decide +kernel
theorem d_Mo_agree_51 : decode b_Mo_agree 51 = .ok (.getfield 32, 3) := by decide +kernel
theorem d_Mo_agree_54 : decode b_Mo_agree 54 = .ok (.iload_n 3, 1) := by decide +kernel
theorem d_Mo_agree_55 : decode b_Mo_agree 55 = .ok (.baload, 1) := by decide +kernel
theorem d_Mo_agree_56 : decode b_Mo_agree 56 = .ok (.ifCond .ne 29, 3) := by decide +kernel
theorem d_Mo_agree_59 : decode b_Mo_agree 59 = .ok (.aload_n 0, 1) := by decide +kernel
theorem d_Mo_agree_60 : decode b_Mo_agree 60 = .ok (.getfield 25, 3) := by decide +kernel
theorem d_Mo_agree_63 : decode b_Mo_agree 63 = .ok (.iload_n 3, 1) := by decide +kernel
theorem d_Mo_agree_64 : decode b_Mo_agree 64 = .ok (.iconst 0, 1) := by decide +kernel
theorem d_Mo_agree_65 : decode b_Mo_agree 65 = .ok (.iastore, 1) := by decide +kernel
theorem d_Mo_agree_66 : decode b_Mo_agree 66 = .ok (.aload_n 0, 1) := by decide +kernel
theorem d_Mo_agree_67 : decode b_Mo_agree 67 = .ok (.getfield 28, 3) := by decide +kernel
theorem d_Mo_agree_70 : decode b_Mo_agree 70 = .ok (.iload_n 3, 1) := by decide +kernel
theorem d_Mo_agree_71 : decode b_Mo_agree 71 = .ok (.iconst 1, 1) := by decide +kernel
theorem d_Mo_agree_72 : decode b_Mo_agree 72 = .ok (.bastore, 1) := by decide +kernel
theorem d_Mo_agree_73 : decode b_Mo_agree 73 = .ok (.aload_n 0, 1) := by decide +kernel
theorem d_Mo_agree_74 : decode b_Mo_agree 74 = .ok (.getfield 35, 3) := by decide +kernel
theorem d_Mo_agree_77 : decode b_Mo_agree 77 = .ok (.iload_n 3, 1) := by decide +kernel
theorem d_Mo_agree_78 : decode b_Mo_agree 78 = .ok (.iconst 4, 1) := by decide +kernel
theorem d_Mo_agree_79 : decode b_Mo_agree 79 = .ok (.iastore, 1) := by decide +kernel
theorem d_Mo_agree_80 : decode b_Mo_agree 80 = .ok (.aload_n 0, 1) := by decide +kernel
theorem d_Mo_agree_81 : decode b_Mo_agree 81 = .ok (.iload_n 3, 1) := by decide +kernel
theorem d_Mo_agree_82 : decode b_Mo_agree 82 = .ok (.invokevirtual 140, 3) := by decide +kernel
theorem d_Mo_agree_85 : decode b_Mo_agree 85 = .ok (.iinc 3 1, 3) := by decide +kernel
theorem d_Mo_agree_88 : decode b_Mo_agree 88 = .ok (.goto (-80), 3) := by decide +kernel
theorem d_Mo_agree_91 : decode b_Mo_agree 91 = .ok (.aload_n 0, 1) := by decide +kernel
theorem d_Mo_agree_92 : decode b_Mo_agree 92 = .ok (.iload_n 1, 1) := by decide +kernel
theorem d_Mo_agree_93 : decode b_Mo_agree 93 = .ok (.iconst 2, 1) := by decide +kernel
theorem d_Mo_agree_94 : decode b_Mo_agree 94 = .ok (.invokevirtual 129, 3) := by decide +kernel
theorem d_Mo_agree_97 : decode b_Mo_agree 97 = .ok (.istore_n 3, 1) := by decide +kernel
theorem d_Mo_agree_98 : decode b_Mo_agree 98 = .ok (.iload_n 3, 1) := by decide +kernel
theorem d_Mo_agree_99 : decode b_Mo_agree 99 = .ok (.ifCond .lt 19, 3) := by decide +kernel
theorem d_Mo_agree_102 : decode b_Mo_agree 102 = .ok (.aload_n 0, 1) := by decide +kernel
theorem d_Mo_agree_103 : decode b_Mo_agree 103 = .ok (.getfield 54, 3) := by decide +kernel
theorem d_Mo_agree_106 : decode b_Mo_agree 106 = .ok (.iload_n 3, 1) := by decide +kernel
theorem d_Mo_agree_107 : decode b_Mo_agree 107 = .ok (.aload_n 0, 1) := by decide +kernel
theorem d_Mo_agree_108 : decode b_Mo_agree 108 = .ok (.getfield 75, 3) := by decide +kernel
theorem d_Mo_agree_111 : decode b_Mo_agree 111 = .ok (.iload_n 2, 1) := by decide +kernel
theorem d_Mo_agree_112 : decode b_Mo_agree 112 = .ok (.laload, 1) := by decide +kernel
theorem d_Mo_agree_113 : decode b_Mo_agree 113 = .ok (.invokestatic 118, 3) := by decide +kernel
theorem d_Mo_agree_116 : decode b_Mo_agree 116 = .ok (.i2l, 1) := by decide +kernel
theorem d_Mo_agree_117 : decode b_Mo_agree 117 = .ok (.lastore, 1) := by decide +kernel
theorem d_Mo_agree_118 : decode b_Mo_agree 118 = .ok (.return_, 1) := by decide +kernel
theorem d_Mo_agreedOn_0 : decode b_Mo_agreedOn 0 = .ok (.aload_n 0, 1) := by decide +kernel
theorem d_Mo_agreedOn_1 : decode b_Mo_agreedOn 1 = .ok (.getfield 22, 3) := by decide +kernel
theorem d_Mo_agreedOn_4 : decode b_Mo_agreedOn 4 = .ok (.iload_n 1, 1) := by decide +kernel
theorem d_Mo_agreedOn_5 : decode b_Mo_agreedOn 5 = .ok (.iaload, 1) := by decide +kernel
theorem d_Mo_agreedOn_6 : decode b_Mo_agreedOn 6 = .ok (.iconst 2, 1) := by decide +kernel
theorem d_Mo_agreedOn_7 : decode b_Mo_agreedOn 7 = .ok (.if_icmp .ne 64, 3) := by decide +kernel
theorem d_Mo_agreedOn_10 : decode b_Mo_agreedOn 10 = .ok (.aload_n 0, 1) := by decide +kernel
theorem d_Mo_agreedOn_11 : decode b_Mo_agreedOn 11 = .ok (.getfield 28, 3) := by decide +kernel
theorem d_Mo_agreedOn_14 : decode b_Mo_agreedOn 14 = .ok (.iload_n 1, 1) := by decide +kernel
theorem d_Mo_agreedOn_15 : decode b_Mo_agreedOn 15 = .ok (.baload, 1) := by decide +kernel
theorem d_Mo_agreedOn_16 : decode b_Mo_agreedOn 16 = .ok (.ifCond .eq 55, 3) := by decide +kernel
theorem d_Mo_agreedOn_19 : decode b_Mo_agreedOn 19 = .ok (.aload_n 0, 1) := by decide +kernel
theorem d_Mo_agreedOn_20 : decode b_Mo_agreedOn 20 = .ok (.getfield 54, 3) := by decide +kernel
theorem d_Mo_agreedOn_23 : decode b_Mo_agreedOn 23 = .ok (.sipush 240, 3) := by decide +kernel
theorem d_Mo_agreedOn_26 : decode b_Mo_agreedOn 26 = .ok (.laload, 1) := by decide +kernel
theorem d_Mo_agreedOn_27 : decode b_Mo_agreedOn 27 = .ok (.aload_n 0, 1) := by decide +kernel
theorem d_Mo_agreedOn_28 : decode b_Mo_agreedOn 28 = .ok (.getfield 75, 3) := by decide +kernel
theorem d_Mo_agreedOn_31 : decode b_Mo_agreedOn 31 = .ok (.iload_n 1, 1) := by decide +kernel
theorem d_Mo_agreedOn_32 : decode b_Mo_agreedOn 32 = .ok (.iconst 4, 1) := by decide +kernel
theorem d_Mo_agreedOn_33 : decode b_Mo_agreedOn 33 = .ok (.idiv, 1) := by decide +kernel
theorem d_Mo_agreedOn_34 : decode b_Mo_agreedOn 34 = .ok (.laload, 1) := by decide +kernel
theorem d_Mo_agreedOn_35 : decode b_Mo_agreedOn 35 = .ok (.invokestatic 118, 3) := by decide +kernel
theorem d_Mo_agreedOn_38 : decode b_Mo_agreedOn 38 = .ok (.i2l, 1) := by decide +kernel
theorem d_Mo_agreedOn_39 : decode b_Mo_agreedOn 39 = .ok (.lcmp, 1) := by decide +kernel
theorem d_Mo_agreedOn_40 : decode b_Mo_agreedOn 40 = .ok (.ifCond .ne 31, 3) := by decide +kernel
theorem d_Mo_agreedOn_43 : decode b_Mo_agreedOn 43 = .ok (.aload_n 0, 1) := by decide +kernel
theorem d_Mo_agreedOn_44 : decode b_Mo_agreedOn 44 = .ok (.getfield 25, 3) := by decide +kernel
theorem d_Mo_agreedOn_47 : decode b_Mo_agreedOn 47 = .ok (.iload_n 1, 1) := by decide +kernel
theorem d_Mo_agreedOn_48 : decode b_Mo_agreedOn 48 = .ok (.iconst 2, 1) := by decide +kernel
theorem d_Mo_agreedOn_49 : decode b_Mo_agreedOn 49 = .ok (.iastore, 1) := by decide +kernel
theorem d_Mo_agreedOn_50 : decode b_Mo_agreedOn 50 = .ok (.aload_n 0, 1) := by decide +kernel
theorem d_Mo_agreedOn_51 : decode b_Mo_agreedOn 51 = .ok (.getfield 32, 3) := by decide +kernel
theorem d_Mo_agreedOn_54 : decode b_Mo_agreedOn 54 = .ok (.iload_n 1, 1) := by decide +kernel
theorem d_Mo_agreedOn_55 : decode b_Mo_agreedOn 55 = .ok (.iconst 1, 1) := by decide +kernel
theorem d_Mo_agreedOn_56 : decode b_Mo_agreedOn 56 = .ok (.bastore, 1) := by decide +kernel
theorem d_Mo_agreedOn_57 : decode b_Mo_agreedOn 57 = .ok (.aload_n 0, 1) := by decide +kernel
theorem d_Mo_agreedOn_58 : decode b_Mo_agreedOn 58 = .ok (.getfield 28, 3) := by decide +kernel
theorem d_Mo_agreedOn_61 : decode b_Mo_agreedOn 61 = .ok (.iload_n 1, 1) := by decide +kernel
theorem d_Mo_agreedOn_62 : decode b_Mo_agreedOn 62 = .ok (.iconst 0, 1) := by decide +kernel
theorem d_Mo_agreedOn_63 : decode b_Mo_agreedOn 63 = .ok (.bastore, 1) := by decide +kernel
theorem d_Mo_agreedOn_64 : decode b_Mo_agreedOn 64 = .ok (.aload_n 0, 1) := by decide +kernel
theorem d_Mo_agreedOn_65 : decode b_Mo_agreedOn 65 = .ok (.getfield 35, 3) := by decide +kernel
theorem d_Mo_agreedOn_68 : decode b_Mo_agreedOn 68 = .ok (.iload_n 1, 1) := by decide +kernel
theorem d_Mo_agreedOn_69 : decode b_Mo_agreedOn 69 = .ok (.iconst 0, 1) := by decide +kernel
theorem d_Mo_agreedOn_70 : decode b_Mo_agreedOn 70 = .ok (.iastore, 1) := by decide +kernel
theorem d_Mo_agreedOn_71 : decode b_Mo_agreedOn 71 = .ok (.return_, 1) := by decide +kernel
theorem d_Mo_frame_0 : decode b_Mo_frame 0 = .ok (.aload_n 0, 1) := by decide +kernel
theorem d_Mo_frame_1 : decode b_Mo_frame 1 = .ok (.getfield 69, 3) := by decide +kernel
theorem d_Mo_frame_4 : decode b_Mo_frame 4 = .ok (.sipush 240, 3) := by decide +kernel
theorem d_Mo_frame_7 : decode b_Mo_frame 7 = .ok (.iaload, 1) := by decide +kernel
theorem d_Mo_frame_8 : decode b_Mo_frame 8 = .ok (.istore_n 2, 1) := by decide +kernel
theorem d_Mo_frame_9 : decode b_Mo_frame 9 = .ok (.iload_n 1, 1) := by decide +kernel
theorem d_Mo_frame_10 : decode b_Mo_frame 10 = .ok (.iconst 4, 1) := by decide +kernel
theorem d_Mo_frame_11 : decode b_Mo_frame 11 = .ok (.idiv, 1) := by decide +kernel
theorem d_Mo_frame_12 : decode b_Mo_frame 12 = .ok (.istore_n 3, 1) := by decide +kernel
theorem d_Mo_frame_13 : decode b_Mo_frame 13 = .ok (.aload_n 0, 1) := by decide +kernel
theorem d_Mo_frame_14 : decode b_Mo_frame 14 = .ok (.getfield 25, 3) := by decide +kernel
theorem d_Mo_frame_17 : decode b_Mo_frame 17 = .ok (.iload_n 1, 1) := by decide +kernel
theorem d_Mo_frame_18 : decode b_Mo_frame 18 = .ok (.iaload, 1) := by decide +kernel
theorem d_Mo_frame_19 : decode b_Mo_frame 19 = .ok (.ifCond .eq 12, 3) := by decide +kernel
theorem d_Mo_frame_22 : decode b_Mo_frame 22 = .ok (.aload_n 0, 1) := by decide +kernel
theorem d_Mo_frame_23 : decode b_Mo_frame 23 = .ok (.iload_n 1, 1) := by decide +kernel
theorem d_Mo_frame_24 : decode b_Mo_frame 24 = .ok (.iload_n 2, 1) := by decide +kernel
theorem d_Mo_frame_25 : decode b_Mo_frame 25 = .ok (.invokevirtual 169, 3) := by decide +kernel
theorem d_Mo_frame_28 : decode b_Mo_frame 28 = .ok (.ifCond .ne 5, 3) := by decide +kernel
theorem d_Mo_frame_31 : decode b_Mo_frame 31 = .ok (.iconst 0, 1) := by decide +kernel
theorem d_Mo_frame_32 : decode b_Mo_frame 32 = .ok (.ireturn, 1) := by decide +kernel
theorem d_Mo_frame_33 : decode b_Mo_frame 33 = .ok (.bipush 16, 2) := by decide +kernel
theorem d_Mo_frame_35 : decode b_Mo_frame 35 = .ok (.iload_n 3, 1) := by decide +kernel
theorem d_Mo_frame_36 : decode b_Mo_frame 36 = .ok (.imul, 1) := by decide +kernel
theorem d_Mo_frame_37 : decode b_Mo_frame 37 = .ok (.iconst 2, 1) := by decide +kernel
theorem d_Mo_frame_38 : decode b_Mo_frame 38 = .ok (.aload_n 0, 1) := by decide +kernel
theorem d_Mo_frame_39 : decode b_Mo_frame 39 = .ok (.getfield 63, 3) := by decide +kernel
theorem d_Mo_frame_42 : decode b_Mo_frame 42 = .ok (.sipush 240, 3) := by decide +kernel
theorem d_Mo_frame_45 : decode b_Mo_frame 45 = .ok (.iaload, 1) := by decide +kernel
theorem d_Mo_frame_46 : decode b_Mo_frame 46 = .ok (.imul, 1) := by decide +kernel
theorem d_Mo_frame_47 : decode b_Mo_frame 47 = .ok (.iadd, 1) := by decide +kernel
theorem d_Mo_frame_48 : decode b_Mo_frame 48 = .ok (.iload_n 2, 1) := by decide +kernel
theorem d_Mo_frame_49 : decode b_Mo_frame 49 = .ok (.iadd, 1) := by decide +kernel
theorem d_Mo_frame_50 : decode b_Mo_frame 50 = .ok (.iconst 1, 1) := by decide +kernel
theorem d_Mo_frame_51 : decode b_Mo_frame 51 = .ok (.isub, 1) := by decide +kernel
theorem d_Mo_frame_52 : decode b_Mo_frame 52 = .ok (.istore 4, 2) := by decide +kernel
theorem d_Mo_frame_54 : decode b_Mo_frame 54 = .ok (.aload_n 0, 1) := by decide +kernel
theorem d_Mo_frame_55 : decode b_Mo_frame 55 = .ok (.getfield 84, 3) := by decide +kernel
theorem d_Mo_frame_58 : decode b_Mo_frame 58 = .ok (.iload 4, 2) := by decide +kernel
theorem d_Mo_frame_60 : decode b_Mo_frame 60 = .ok (.bipush 12, 2) := by decide +kernel
theorem d_Mo_frame_62 : decode b_Mo_frame 62 = .ok (.iastore, 1) := by decide +kernel
theorem d_Mo_frame_63 : decode b_Mo_frame 63 = .ok (.aload_n 0, 1) := by decide +kernel
theorem d_Mo_frame_64 : decode b_Mo_frame 64 = .ok (.getfield 87, 3) := by decide +kernel
theorem d_Mo_frame_67 : decode b_Mo_frame 67 = .ok (.iload 4, 2) := by decide +kernel
theorem d_Mo_frame_69 : decode b_Mo_frame 69 = .ok (.iload_n 1, 1) := by decide +kernel
theorem d_Mo_frame_70 : decode b_Mo_frame 70 = .ok (.iconst 4, 1) := by decide +kernel
theorem d_Mo_frame_71 : decode b_Mo_frame 71 = .ok (.irem, 1) := by decide +kernel
theorem d_Mo_frame_72 : decode b_Mo_frame 72 = .ok (.iastore, 1) := by decide +kernel
theorem d_Mo_frame_73 : decode b_Mo_frame 73 = .ok (.aload_n 0, 1) := by decide +kernel
theorem d_Mo_frame_74 : decode b_Mo_frame 74 = .ok (.getfield 66, 3) := by decide +kernel
theorem d_Mo_frame_77 : decode b_Mo_frame 77 = .ok (.sipush 240, 3) := by decide +kernel
theorem d_Mo_frame_80 : decode b_Mo_frame 80 = .ok (.iaload, 1) := by decide +kernel
theorem d_Mo_frame_81 : decode b_Mo_frame 81 = .ok (.istore 5, 2) := by decide +kernel
theorem d_Mo_frame_83 : decode b_Mo_frame 83 = .ok (.aload_n 0, 1) := by decide +kernel
theorem d_Mo_frame_84 : decode b_Mo_frame 84 = .ok (.getfield 25, 3) := by decide +kernel
theorem d_Mo_frame_87 : decode b_Mo_frame 87 = .ok (.iload_n 1, 1) := by decide +kernel
theorem d_Mo_frame_88 : decode b_Mo_frame 88 = .ok (.iaload, 1) := by decide +kernel
theorem d_Mo_frame_89 : decode b_Mo_frame 89 = .ok (.iconst 2, 1) := by decide +kernel
theorem d_Mo_frame_90 : decode b_Mo_frame 90 = .ok (.if_icmp .ne 10, 3) := by decide +kernel
theorem d_Mo_frame_93 : decode b_Mo_frame 93 = .ok (.iload 5, 2) := by decide +kernel
theorem d_Mo_frame_95 : decode b_Mo_frame 95 = .ok (.bipush 9, 2) := by decide +kernel
theorem d_Mo_frame_97 : decode b_Mo_frame 97 = .ok (.if_icmp .ne 5, 3) := by decide +kernel
theorem d_Mo_frame_100 : decode b_Mo_frame 100 = .ok (.iconst 0, 1) := by decide +kernel
theorem d_Mo_frame_101 : decode b_Mo_frame 101 = .ok (.ireturn, 1) := by decide +kernel
theorem d_Mo_frame_102 : decode b_Mo_frame 102 = .ok (.iload 5, 2) := by decide +kernel
theorem d_Mo_frame_104 : decode b_Mo_frame 104 = .ok (.bipush 8, 2) := by decide +kernel
theorem d_Mo_frame_106 : decode b_Mo_frame 106 = .ok (.if_icmp .ge 19, 3) := by decide +kernel
theorem d_Mo_frame_109 : decode b_Mo_frame 109 = .ok (.bipush 16, 2) := by decide +kernel
theorem d_Mo_frame_111 : decode b_Mo_frame 111 = .ok (.iload_n 3, 1) := by decide +kernel
theorem d_Mo_frame_112 : decode b_Mo_frame 112 = .ok (.imul, 1) := by decide +kernel
theorem d_Mo_frame_113 : decode b_Mo_frame 113 = .ok (.iconst 2, 1) := by decide +kernel
theorem d_Mo_frame_114 : decode b_Mo_frame 114 = .ok (.iload 5, 2) := by decide +kernel
theorem d_Mo_frame_116 : decode b_Mo_frame 116 = .ok (.imul, 1) := by decide +kernel
theorem d_Mo_frame_117 : decode b_Mo_frame 117 = .ok (.iadd, 1) := by decide +kernel
theorem d_Mo_frame_118 : decode b_Mo_frame 118 = .ok (.iload_n 2, 1) := by decide +kernel
theorem d_Mo_frame_119 : decode b_Mo_frame 119 = .ok (.iadd, 1) := by decide +kernel
theorem d_Mo_frame_120 : decode b_Mo_frame 120 = .ok (.iconst 1, 1) := by decide +kernel
theorem d_Mo_frame_121 : decode b_Mo_frame 121 = .ok (.isub, 1) := by decide +kernel
theorem d_Mo_frame_122 : decode b_Mo_frame 122 = .ok (.goto 4, 3) := by decide +kernel
theorem d_Mo_frame_125 : decode b_Mo_frame 125 = .ok (.iconst (-1), 1) := by decide +kernel
theorem d_Mo_frame_126 : decode b_Mo_frame 126 = .ok (.istore 6, 2) := by decide +kernel
theorem d_Mo_frame_128 : decode b_Mo_frame 128 = .ok (.iload 6, 2) := by decide +kernel
theorem d_Mo_frame_130 : decode b_Mo_frame 130 = .ok (.ifCond .lt 17, 3) := by decide +kernel
theorem d_Mo_frame_133 : decode b_Mo_frame 133 = .ok (.aload_n 0, 1) := by decide +kernel
theorem d_Mo_frame_134 : decode b_Mo_frame 134 = .ok (.getfield 84, 3) := by decide +kernel
theorem d_Mo_frame_137 : decode b_Mo_frame 137 = .ok (.iload 6, 2) := by decide +kernel
theorem d_Mo_frame_139 : decode b_Mo_frame 139 = .ok (.iaload, 1) := by decide +kernel
theorem d_Mo_frame_140 : decode b_Mo_frame 140 = .ok (.ifCond .le 7, 3) := by decide +kernel
theorem d_Mo_frame_143 : decode b_Mo_frame 143 = .ok (.iconst 1, 1) := by decide +kernel
theorem d_Mo_frame_144 : decode b_Mo_frame 144 = .ok (.goto 4, 3) := by decide +kernel
theorem d_Mo_frame_147 : decode b_Mo_frame 147 = .ok (.iconst 0, 1) := by decide +kernel
theorem d_Mo_frame_148 : decode b_Mo_frame 148 = .ok (.istore 7, 2) := by decide +kernel
theorem d_Mo_frame_150 : decode b_Mo_frame 150 = .ok (.iconst 0, 1) := by decide +kernel
theorem d_Mo_frame_151 : decode b_Mo_frame 151 = .ok (.istore 8, 2) := by decide +kernel
theorem d_Mo_frame_153 : decode b_Mo_frame 153 = .ok (.iconst 4, 1) := by decide +kernel
theorem d_Mo_frame_154 : decode b_Mo_frame 154 = .ok (.iload_n 3, 1) := by decide +kernel
theorem d_Mo_frame_155 : decode b_Mo_frame 155 = .ok (.imul, 1) := by decide +kernel
theorem d_Mo_frame_156 : decode b_Mo_frame 156 = .ok (.istore 9, 2) := by decide +kernel
theorem d_Mo_frame_158 : decode b_Mo_frame 158 = .ok (.iload 9, 2) := by decide +kernel
theorem d_Mo_frame_160 : decode b_Mo_frame 160 = .ok (.iconst 4, 1) := by decide +kernel
theorem d_Mo_frame_161 : decode b_Mo_frame 161 = .ok (.iload_n 3, 1) := by decide +kernel
theorem d_Mo_frame_162 : decode b_Mo_frame 162 = .ok (.imul, 1) := by decide +kernel
theorem d_Mo_frame_163 : decode b_Mo_frame 163 = .ok (.iconst 4, 1) := by decide +kernel
theorem d_Mo_frame_164 : decode b_Mo_frame 164 = .ok (.iadd, 1) := by decide +kernel
theorem d_Mo_frame_165 : decode b_Mo_frame 165 = .ok (.if_icmp .ge 61, 3) := by decide +kernel
theorem d_Mo_frame_168 : decode b_Mo_frame 168 = .ok (.iload 9, 2) := by decide +kernel
theorem d_Mo_frame_170 : decode b_Mo_frame 170 = .ok (.iload_n 1, 1) := by decide +kernel
theorem d_Mo_frame_171 : decode b_Mo_frame 171 = .ok (.if_icmp .eq 26, 3) := by decide +kernel
theorem d_Mo_frame_174 : decode b_Mo_frame 174 = .ok (.iload 7, 2) := by decide +kernel
theorem d_Mo_frame_176 : decode b_Mo_frame 176 = .ok (.ifCond .eq 17, 3) := by decide +kernel
theorem d_Mo_frame_179 : decode b_Mo_frame 179 = .ok (.aload_n 0, 1) := by decide +kernel
theorem d_Mo_frame_180 : decode b_Mo_frame 180 = .ok (.getfield 87, 3) := by decide +kernel
theorem d_Mo_frame_183 : decode b_Mo_frame 183 = .ok (.iload 6, 2) := by decide +kernel
theorem d_Mo_frame_185 : decode b_Mo_frame 185 = .ok (.iaload, 1) := by decide +kernel
theorem d_Mo_frame_186 : decode b_Mo_frame 186 = .ok (.iload 9, 2) := by decide +kernel
theorem d_Mo_frame_188 : decode b_Mo_frame 188 = .ok (.iconst 4, 1) := by decide +kernel
theorem d_Mo_frame_189 : decode b_Mo_frame 189 = .ok (.irem, 1) := by decide +kernel
theorem d_Mo_frame_190 : decode b_Mo_frame 190 = .ok (.if_icmp .ne 7, 3) := by decide +kernel
theorem d_Mo_frame_193 : decode b_Mo_frame 193 = .ok (.iconst 1, 1) := by decide +kernel
theorem d_Mo_frame_194 : decode b_Mo_frame 194 = .ok (.goto 4, 3) := by decide +kernel
theorem d_Mo_frame_197 : decode b_Mo_frame 197 = .ok (.iconst 0, 1) := by decide +kernel
theorem d_Mo_frame_198 : decode b_Mo_frame 198 = .ok (.istore 10, 2) := by decide +kernel
theorem d_Mo_frame_200 : decode b_Mo_frame 200 = .ok (.iload 8, 2) := by decide +kernel
theorem d_Mo_frame_202 : decode b_Mo_frame 202 = .ok (.iload 10, 2) := by decide +kernel
theorem d_Mo_frame_204 : decode b_Mo_frame 204 = .ok (.ifCond .eq 12, 3) := by decide +kernel
theorem d_Mo_frame_207 : decode b_Mo_frame 207 = .ok (.aload_n 0, 1) := by decide +kernel
theorem d_Mo_frame_208 : decode b_Mo_frame 208 = .ok (.iload 9, 2) := by decide +kernel
theorem d_Mo_frame_210 : decode b_Mo_frame 210 = .ok (.invokevirtual 175, 3) := by decide +kernel
theorem d_Mo_frame_213 : decode b_Mo_frame 213 = .ok (.goto 4, 3) := by decide +kernel
theorem d_Mo_frame_216 : decode b_Mo_frame 216 = .ok (.iconst 0, 1) := by decide +kernel
theorem d_Mo_frame_217 : decode b_Mo_frame 217 = .ok (.iadd, 1) := by decide +kernel
theorem d_Mo_frame_218 : decode b_Mo_frame 218 = .ok (.istore 8, 2) := by decide +kernel
theorem d_Mo_frame_220 : decode b_Mo_frame 220 = .ok (.iinc 9 1, 3) := by decide +kernel
theorem d_Mo_frame_223 : decode b_Mo_frame 223 = .ok (.goto (-65), 3) := by decide +kernel
theorem d_Mo_frame_226 : decode b_Mo_frame 226 = .ok (.iload 8, 2) := by decide +kernel
theorem d_Mo_frame_228 : decode b_Mo_frame 228 = .ok (.ireturn, 1) := by decide +kernel
theorem d_Mo_has_0 : decode b_Mo_has 0 = .ok (.aload_n 0, 1) := by decide +kernel
theorem d_Mo_has_1 : decode b_Mo_has 1 = .ok (.getfield 16, 3) := by decide +kernel
theorem d_Mo_has_4 : decode b_Mo_has 4 = .ok (.iload_n 1, 1) := by decide +kernel
theorem d_Mo_has_5 : decode b_Mo_has 5 = .ok (.iaload, 1) := by decide +kernel
theorem d_Mo_has_6 : decode b_Mo_has 6 = .ok (.iload_n 2, 1) := by decide +kernel
theorem d_Mo_has_7 : decode b_Mo_has 7 = .ok (.iand, 1) := by decide +kernel
theorem d_Mo_has_8 : decode b_Mo_has 8 = .ok (.ifCond .eq 7, 3) := by decide +kernel
theorem d_Mo_has_11 : decode b_Mo_has 11 = .ok (.iconst 1, 1) := by decide +kernel
theorem d_Mo_has_12 : decode b_Mo_has 12 = .ok (.goto 4, 3) := by decide +kernel
theorem d_Mo_has_15 : decode b_Mo_has 15 = .ok (.iconst 0, 1) := by decide +kernel
theorem d_Mo_has_16 : decode b_Mo_has 16 = .ok (.ireturn, 1) := by decide +kernel
theorem d_Mo_out_0 : decode b_Mo_out 0 = .ok (.aload_n 0, 1) := by decide +kernel
theorem d_Mo_out_1 : decode b_Mo_out 1 = .ok (.getfield 69, 3) := by decide +kernel
theorem d_Mo_out_4 : decode b_Mo_out 4 = .ok (.sipush 240, 3) := by decide +kernel
theorem d_Mo_out_7 : decode b_Mo_out 7 = .ok (.iaload, 1) := by decide +kernel
theorem d_Mo_out_8 : decode b_Mo_out 8 = .ok (.istore_n 2, 1) := by decide +kernel
theorem d_Mo_out_9 : decode b_Mo_out 9 = .ok (.aload_n 0, 1) := by decide +kernel
theorem d_Mo_out_10 : decode b_Mo_out 10 = .ok (.getfield 25, 3) := by decide +kernel
theorem d_Mo_out_13 : decode b_Mo_out 13 = .ok (.iload_n 1, 1) := by decide +kernel
theorem d_Mo_out_14 : decode b_Mo_out 14 = .ok (.iaload, 1) := by decide +kernel
theorem d_Mo_out_15 : decode b_Mo_out 15 = .ok (.iconst 2, 1) := by decide +kernel
theorem d_Mo_out_16 : decode b_Mo_out 16 = .ok (.if_icmp .ne 12, 3) := by decide +kernel
theorem d_Mo_out_19 : decode b_Mo_out 19 = .ok (.aload_n 0, 1) := by decide +kernel
theorem d_Mo_out_20 : decode b_Mo_out 20 = .ok (.iload_n 1, 1) := by decide +kernel
theorem d_Mo_out_21 : decode b_Mo_out 21 = .ok (.iload_n 2, 1) := by decide +kernel
theorem d_Mo_out_22 : decode b_Mo_out 22 = .ok (.invokevirtual 169, 3) := by decide +kernel
theorem d_Mo_out_25 : decode b_Mo_out 25 = .ok (.ifCond .ne 5, 3) := by decide +kernel
theorem d_Mo_out_28 : decode b_Mo_out 28 = .ok (.iconst 0, 1) := by decide +kernel
theorem d_Mo_out_29 : decode b_Mo_out 29 = .ok (.ireturn, 1) := by decide +kernel
theorem d_Mo_out_30 : decode b_Mo_out 30 = .ok (.aload_n 0, 1) := by decide +kernel
theorem d_Mo_out_31 : decode b_Mo_out 31 = .ok (.iload_n 1, 1) := by decide +kernel
theorem d_Mo_out_32 : decode b_Mo_out 32 = .ok (.invokevirtual 137, 3) := by decide +kernel
theorem d_Mo_out_35 : decode b_Mo_out 35 = .ok (.ifCond .eq 24, 3) := by decide +kernel
theorem d_Mo_out_38 : decode b_Mo_out 38 = .ok (.aload_n 0, 1) := by decide +kernel
theorem d_Mo_out_39 : decode b_Mo_out 39 = .ok (.iload_n 1, 1) := by decide +kernel
theorem d_Mo_out_40 : decode b_Mo_out 40 = .ok (.iconst 3, 1) := by decide +kernel
theorem d_Mo_out_41 : decode b_Mo_out 41 = .ok (.invokevirtual 129, 3) := by decide +kernel
theorem d_Mo_out_44 : decode b_Mo_out 44 = .ok (.istore_n 3, 1) := by decide +kernel
theorem d_Mo_out_45 : decode b_Mo_out 45 = .ok (.iload_n 3, 1) := by decide +kernel
theorem d_Mo_out_46 : decode b_Mo_out 46 = .ok (.ifCond .lt 11, 3) := by decide +kernel
theorem d_Mo_out_49 : decode b_Mo_out 49 = .ok (.aload_n 0, 1) := by decide +kernel
theorem d_Mo_out_50 : decode b_Mo_out 50 = .ok (.sipush 240, 3) := by decide +kernel
theorem d_Mo_out_53 : decode b_Mo_out 53 = .ok (.iload_n 3, 1) := by decide +kernel
theorem d_Mo_out_54 : decode b_Mo_out 54 = .ok (.invokevirtual 144, 3) := by decide +kernel
theorem d_Mo_out_57 : decode b_Mo_out 57 = .ok (.iconst 1, 1) := by decide +kernel
theorem d_Mo_out_58 : decode b_Mo_out 58 = .ok (.ireturn, 1) := by decide +kernel
theorem d_Mo_out_59 : decode b_Mo_out 59 = .ok (.aload_n 0, 1) := by decide +kernel
theorem d_Mo_out_60 : decode b_Mo_out 60 = .ok (.getfield 19, 3) := by decide +kernel
theorem d_Mo_out_63 : decode b_Mo_out 63 = .ok (.iload_n 1, 1) := by decide +kernel
theorem d_Mo_out_64 : decode b_Mo_out 64 = .ok (.iaload, 1) := by decide +kernel
theorem d_Mo_out_65 : decode b_Mo_out 65 = .ok (.bipush 100, 2) := by decide +kernel
theorem d_Mo_out_67 : decode b_Mo_out 67 = .ok (.isub, 1) := by decide +kernel
theorem d_Mo_out_68 : decode b_Mo_out 68 = .ok (.istore_n 3, 1) := by decide +kernel
theorem d_Mo_out_69 : decode b_Mo_out 69 = .ok (.aload_n 0, 1) := by decide +kernel
theorem d_Mo_out_70 : decode b_Mo_out 70 = .ok (.getfield 93, 3) := by decide +kernel
theorem d_Mo_out_73 : decode b_Mo_out 73 = .ok (.iload_n 3, 1) := by decide +kernel
theorem d_Mo_out_74 : decode b_Mo_out 74 = .ok (.iaload, 1) := by decide +kernel
theorem d_Mo_out_75 : decode b_Mo_out 75 = .ok (.iload_n 2, 1) := by decide +kernel
theorem d_Mo_out_76 : decode b_Mo_out 76 = .ok (.if_icmp .ne 79, 3) := by decide +kernel
theorem d_Mo_out_79 : decode b_Mo_out 79 = .ok (.aload_n 0, 1) := by decide +kernel
theorem d_Mo_out_80 : decode b_Mo_out 80 = .ok (.getfield 96, 3) := by decide +kernel
theorem d_Mo_out_83 : decode b_Mo_out 83 = .ok (.iload_n 3, 1) := by decide +kernel
theorem d_Mo_out_84 : decode b_Mo_out 84 = .ok (.iaload, 1) := by decide +kernel
theorem d_Mo_out_85 : decode b_Mo_out 85 = .ok (.bipush 40, 2) := by decide +kernel
theorem d_Mo_out_87 : decode b_Mo_out 87 = .ok (.if_icmp .ge 68, 3) := by decide +kernel
theorem d_Mo_out_90 : decode b_Mo_out 90 = .ok (.aload_n 0, 1) := by decide +kernel
theorem d_Mo_out_91 : decode b_Mo_out 91 = .ok (.getfield 99, 3) := by decide +kernel
theorem d_Mo_out_94 : decode b_Mo_out 94 = .ok (.bipush 40, 2) := by decide +kernel
theorem d_Mo_out_96 : decode b_Mo_out 96 = .ok (.iload_n 3, 1) := by decide +kernel
theorem d_Mo_out_97 : decode b_Mo_out 97 = .ok (.imul, 1) := by decide +kernel
theorem d_Mo_out_98 : decode b_Mo_out 98 = .ok (.aload_n 0, 1) := by decide +kernel
theorem d_Mo_out_99 : decode b_Mo_out 99 = .ok (.getfield 96, 3) := by decide +kernel
theorem d_Mo_out_102 : decode b_Mo_out 102 = .ok (.iload_n 3, 1) := by decide +kernel
theorem d_Mo_out_103 : decode b_Mo_out 103 = .ok (.iaload, 1) := by decide +kernel
theorem d_Mo_out_104 : decode b_Mo_out 104 = .ok (.iadd, 1) := by decide +kernel
theorem d_Mo_out_105 : decode b_Mo_out 105 = .ok (.aload_n 0, 1) := by decide +kernel
theorem d_Mo_out_106 : decode b_Mo_out 106 = .ok (.getfield 72, 3) := by decide +kernel
theorem d_Mo_out_109 : decode b_Mo_out 109 = .ok (.sipush 240, 3) := by decide +kernel
theorem d_Mo_out_112 : decode b_Mo_out 112 = .ok (.iaload, 1) := by decide +kernel
theorem d_Mo_out_113 : decode b_Mo_out 113 = .ok (.i2l, 1) := by decide +kernel
theorem d_Mo_out_114 : decode b_Mo_out 114 = .ok (.ldc2_w 173, 3) := by decide +kernel
theorem d_Mo_out_117 : decode b_Mo_out 117 = .ok (.land, 1) := by decide +kernel
theorem d_Mo_out_118 : decode b_Mo_out 118 = .ok (.aload_n 0, 1) := by decide +kernel
theorem d_Mo_out_119 : decode b_Mo_out 119 = .ok (.getfield 63, 3) := by decide +kernel
theorem d_Mo_out_122 : decode b_Mo_out 122 = .ok (.sipush 240, 3) := by decide +kernel
theorem d_Mo_out_125 : decode b_Mo_out 125 = .ok (.iaload, 1) := by decide +kernel
theorem d_Mo_out_126 : decode b_Mo_out 126 = .ok (.i2l, 1) := by decide +kernel
theorem d_Mo_out_127 : decode b_Mo_out 127 = .ok (.bipush 32, 2) := by decide +kernel
theorem d_Mo_out_129 : decode b_Mo_out 129 = .ok (.lshl, 1) := by decide +kernel
theorem d_Mo_out_130 : decode b_Mo_out 130 = .ok (.ladd, 1) := by decide +kernel
theorem d_Mo_out_131 : decode b_Mo_out 131 = .ok (.aload_n 0, 1) := by decide +kernel
theorem d_Mo_out_132 : decode b_Mo_out 132 = .ok (.getfield 66, 3) := by decide +kernel
theorem d_Mo_out_135 : decode b_Mo_out 135 = .ok (.sipush 240, 3) := by decide +kernel
theorem d_Mo_out_138 : decode b_Mo_out 138 = .ok (.iaload, 1) := by decide +kernel
theorem d_Mo_out_139 : decode b_Mo_out 139 = .ok (.i2l, 1) := by decide +kernel
theorem d_Mo_out_140 : decode b_Mo_out 140 = .ok (.bipush 36, 2) := by decide +kernel
theorem d_Mo_out_142 : decode b_Mo_out 142 = .ok (.lshl, 1) := by decide +kernel
theorem d_Mo_out_143 : decode b_Mo_out 143 = .ok (.ladd, 1) := by decide +kernel
theorem d_Mo_out_144 : decode b_Mo_out 144 = .ok (.lastore, 1) := by decide +kernel
theorem d_Mo_out_145 : decode b_Mo_out 145 = .ok (.aload_n 0, 1) := by decide +kernel
theorem d_Mo_out_146 : decode b_Mo_out 146 = .ok (.getfield 96, 3) := by decide +kernel
theorem d_Mo_out_149 : decode b_Mo_out 149 = .ok (.iload_n 3, 1) := by decide +kernel
theorem d_Mo_out_150 : decode b_Mo_out 150 = .ok (.dup2, 1) := by decide +kernel
theorem d_Mo_out_151 : decode b_Mo_out 151 = .ok (.iaload, 1) := by decide +kernel
theorem d_Mo_out_152 : decode b_Mo_out 152 = .ok (.iconst 1, 1) := by decide +kernel
theorem d_Mo_out_153 : decode b_Mo_out 153 = .ok (.iadd, 1) := by decide +kernel
theorem d_Mo_out_154 : decode b_Mo_out 154 = .ok (.iastore, 1) := by decide +kernel
theorem d_Mo_out_155 : decode b_Mo_out 155 = .ok (.iconst 1, 1) := by decide +kernel
theorem d_Mo_out_156 : decode b_Mo_out 156 = .ok (.ireturn, 1) := by decide +kernel
theorem d_Mo_lose_0 : decode b_Mo_lose 0 = .ok (.aload_n 0, 1) := by decide +kernel
theorem d_Mo_lose_1 : decode b_Mo_lose 1 = .ok (.iconst 0, 1) := by decide +kernel
theorem d_Mo_lose_2 : decode b_Mo_lose 2 = .ok (.putfield 108, 3) := by decide +kernel
theorem d_Mo_lose_5 : decode b_Mo_lose 5 = .ok (.iload_n 1, 1) := by decide +kernel
theorem d_Mo_lose_6 : decode b_Mo_lose 6 = .ok (.iload_n 2, 1) := by decide +kernel
theorem d_Mo_lose_7 : decode b_Mo_lose 7 = .ok (.invokestatic 178, 3) := by decide +kernel
theorem d_Mo_lose_10 : decode b_Mo_lose 10 = .ok (.ifCond .eq 16, 3) := by decide +kernel
theorem d_Mo_lose_13 : decode b_Mo_lose 13 = .ok (.aload_n 0, 1) := by decide +kernel
theorem d_Mo_lose_14 : decode b_Mo_lose 14 = .ok (.getfield 48, 3) := by decide +kernel
theorem d_Mo_lose_17 : decode b_Mo_lose 17 = .ok (.iconst 4, 1) := by decide +kernel
theorem d_Mo_lose_18 : decode b_Mo_lose 18 = .ok (.iload_n 1, 1) := by decide +kernel
theorem d_Mo_lose_19 : decode b_Mo_lose 19 = .ok (.imul, 1) := by decide +kernel
theorem d_Mo_lose_20 : decode b_Mo_lose 20 = .ok (.iload_n 2, 1) := by decide +kernel
theorem d_Mo_lose_21 : decode b_Mo_lose 21 = .ok (.iadd, 1) := by decide +kernel
theorem d_Mo_lose_22 : decode b_Mo_lose 22 = .ok (.iaload, 1) := by decide +kernel
theorem d_Mo_lose_23 : decode b_Mo_lose 23 = .ok (.ifCond .ne 5, 3) := by decide +kernel
theorem d_Mo_lose_26 : decode b_Mo_lose 26 = .ok (.iconst 0, 1) := by decide +kernel
theorem d_Mo_lose_27 : decode b_Mo_lose 27 = .ok (.ireturn, 1) := by decide +kernel
theorem d_Mo_lose_28 : decode b_Mo_lose 28 = .ok (.aload_n 0, 1) := by decide +kernel
theorem d_Mo_lose_29 : decode b_Mo_lose 29 = .ok (.iconst 4, 1) := by decide +kernel
theorem d_Mo_lose_30 : decode b_Mo_lose 30 = .ok (.iload_n 1, 1) := by decide +kernel
theorem d_Mo_lose_31 : decode b_Mo_lose 31 = .ok (.imul, 1) := by decide +kernel
theorem d_Mo_lose_32 : decode b_Mo_lose 32 = .ok (.iload_n 2, 1) := by decide +kernel
theorem d_Mo_lose_33 : decode b_Mo_lose 33 = .ok (.iadd, 1) := by decide +kernel
theorem d_Mo_lose_34 : decode b_Mo_lose 34 = .ok (.invokevirtual 184, 3) := by decide +kernel
theorem d_Mo_lose_37 : decode b_Mo_lose 37 = .ok (.iconst 1, 1) := by decide +kernel
theorem d_Mo_lose_38 : decode b_Mo_lose 38 = .ok (.ireturn, 1) := by decide +kernel
theorem d_Mo_tick_0 : decode b_Mo_tick 0 = .ok (.aload_n 0, 1) := by decide +kernel
theorem d_Mo_tick_1 : decode b_Mo_tick 1 = .ok (.iconst 0, 1) := by decide +kernel
theorem d_Mo_tick_2 : decode b_Mo_tick 2 = .ok (.putfield 108, 3) := by decide +kernel
theorem d_Mo_tick_5 : decode b_Mo_tick 5 = .ok (.aload_n 0, 1) := by decide +kernel
theorem d_Mo_tick_6 : decode b_Mo_tick 6 = .ok (.aload_n 0, 1) := by decide +kernel
theorem d_Mo_tick_7 : decode b_Mo_tick 7 = .ok (.getfield 196, 3) := by decide +kernel
theorem d_Mo_tick_10 : decode b_Mo_tick 10 = .ok (.iconst 1, 1) := by decide +kernel
theorem d_Mo_tick_11 : decode b_Mo_tick 11 = .ok (.iadd, 1) := by decide +kernel
theorem d_Mo_tick_12 : decode b_Mo_tick 12 = .ok (.iconst 2, 1) := by decide +kernel
theorem d_Mo_tick_13 : decode b_Mo_tick 13 = .ok (.irem, 1) := by decide +kernel
theorem d_Mo_tick_14 : decode b_Mo_tick 14 = .ok (.putfield 196, 3) := by decide +kernel
theorem d_Mo_tick_17 : decode b_Mo_tick 17 = .ok (.iconst 0, 1) := by decide +kernel
theorem d_Mo_tick_18 : decode b_Mo_tick 18 = .ok (.istore_n 1, 1) := by decide +kernel
theorem d_Mo_tick_19 : decode b_Mo_tick 19 = .ok (.iload_n 1, 1) := by decide +kernel
theorem d_Mo_tick_20 : decode b_Mo_tick 20 = .ok (.iconst 5, 1) := by decide +kernel
theorem d_Mo_tick_21 : decode b_Mo_tick 21 = .ok (.if_icmp .ge 31, 3) := by decide +kernel
theorem d_Mo_tick_24 : decode b_Mo_tick 24 = .ok (.aload_n 0, 1) := by decide +kernel
theorem d_Mo_tick_25 : decode b_Mo_tick 25 = .ok (.iload_n 1, 1) := by decide +kernel
theorem d_Mo_tick_26 : decode b_Mo_tick 26 = .ok (.invokevirtual 199, 3) := by decide +kernel
theorem d_Mo_tick_29 : decode b_Mo_tick 29 = .ok (.aload_n 0, 1) := by decide +kernel
theorem d_Mo_tick_30 : decode b_Mo_tick 30 = .ok (.iload_n 1, 1) := by decide +kernel
theorem d_Mo_tick_31 : decode b_Mo_tick 31 = .ok (.invokevirtual 163, 3) := by decide +kernel
theorem d_Mo_tick_34 : decode b_Mo_tick 34 = .ok (.aload_n 0, 1) := by decide +kernel
theorem d_Mo_tick_35 : decode b_Mo_tick 35 = .ok (.getfield 196, 3) := by decide +kernel
theorem d_Mo_tick_38 : decode b_Mo_tick 38 = .ok (.ifCond .ne 8, 3) := by decide +kernel
theorem d_Mo_tick_41 : decode b_Mo_tick 41 = .ok (.aload_n 0, 1) := by decide +kernel
theorem d_Mo_tick_42 : decode b_Mo_tick 42 = .ok (.iload_n 1, 1) := by decide +kernel
theorem d_Mo_tick_43 : decode b_Mo_tick 43 = .ok (.invokevirtual 160, 3) := by decide +kernel
theorem d_Mo_tick_46 : decode b_Mo_tick 46 = .ok (.iinc 1 1, 3) := by decide +kernel
theorem d_Mo_tick_49 : decode b_Mo_tick 49 = .ok (.goto (-30), 3) := by decide +kernel
theorem d_Mo_tick_52 : decode b_Mo_tick 52 = .ok (.return_, 1) := by decide +kernel
theorem d_Mo_ageOf_0 : decode b_Mo_ageOf 0 = .ok (.iconst 4, 1) := by decide +kernel
theorem d_Mo_ageOf_1 : decode b_Mo_ageOf 1 = .ok (.iload_n 1, 1) := by decide +kernel
theorem d_Mo_ageOf_2 : decode b_Mo_ageOf 2 = .ok (.imul, 1) := by decide +kernel
theorem d_Mo_ageOf_3 : decode b_Mo_ageOf 3 = .ok (.istore_n 2, 1) := by decide +kernel
theorem d_Mo_ageOf_4 : decode b_Mo_ageOf 4 = .ok (.iload_n 2, 1) := by decide +kernel
theorem d_Mo_ageOf_5 : decode b_Mo_ageOf 5 = .ok (.iconst 4, 1) := by decide +kernel
theorem d_Mo_ageOf_6 : decode b_Mo_ageOf 6 = .ok (.iload_n 1, 1) := by decide +kernel
theorem d_Mo_ageOf_7 : decode b_Mo_ageOf 7 = .ok (.imul, 1) := by decide +kernel
theorem d_Mo_ageOf_8 : decode b_Mo_ageOf 8 = .ok (.iconst 4, 1) := by decide +kernel
theorem d_Mo_ageOf_9 : decode b_Mo_ageOf 9 = .ok (.iadd, 1) := by decide +kernel
theorem d_Mo_ageOf_10 : decode b_Mo_ageOf 10 = .ok (.if_icmp .ge 36, 3) := by decide +kernel
theorem d_Mo_ageOf_13 : decode b_Mo_ageOf 13 = .ok (.aload_n 0, 1) := by decide +kernel
theorem d_Mo_ageOf_14 : decode b_Mo_ageOf 14 = .ok (.getfield 45, 3) := by decide +kernel
theorem d_Mo_ageOf_17 : decode b_Mo_ageOf 17 = .ok (.iload_n 2, 1) := by decide +kernel
theorem d_Mo_ageOf_18 : decode b_Mo_ageOf 18 = .ok (.aload_n 0, 1) := by decide +kernel
theorem d_Mo_ageOf_19 : decode b_Mo_ageOf 19 = .ok (.getfield 45, 3) := by decide +kernel
theorem d_Mo_ageOf_22 : decode b_Mo_ageOf 22 = .ok (.iload_n 2, 1) := by decide +kernel
theorem d_Mo_ageOf_23 : decode b_Mo_ageOf 23 = .ok (.iaload, 1) := by decide +kernel
theorem d_Mo_ageOf_24 : decode b_Mo_ageOf 24 = .ok (.ifCond .le 14, 3) := by decide +kernel
theorem d_Mo_ageOf_27 : decode b_Mo_ageOf 27 = .ok (.aload_n 0, 1) := by decide +kernel
theorem d_Mo_ageOf_28 : decode b_Mo_ageOf 28 = .ok (.getfield 45, 3) := by decide +kernel
theorem d_Mo_ageOf_31 : decode b_Mo_ageOf 31 = .ok (.iload_n 2, 1) := by decide +kernel
theorem d_Mo_ageOf_32 : decode b_Mo_ageOf 32 = .ok (.iaload, 1) := by decide +kernel
theorem d_Mo_ageOf_33 : decode b_Mo_ageOf 33 = .ok (.iconst 1, 1) := by decide +kernel
theorem d_Mo_ageOf_34 : decode b_Mo_ageOf 34 = .ok (.isub, 1) := by decide +kernel
theorem d_Mo_ageOf_35 : decode b_Mo_ageOf 35 = .ok (.goto 4, 3) := by decide +kernel
theorem d_Mo_ageOf_38 : decode b_Mo_ageOf 38 = .ok (.iconst 0, 1) := by decide +kernel
theorem d_Mo_ageOf_39 : decode b_Mo_ageOf 39 = .ok (.iastore, 1) := by decide +kernel
theorem d_Mo_ageOf_40 : decode b_Mo_ageOf 40 = .ok (.iinc 2 1, 3) := by decide +kernel
theorem d_Mo_ageOf_43 : decode b_Mo_ageOf 43 = .ok (.goto (-39), 3) := by decide +kernel
theorem d_Mo_ageOf_46 : decode b_Mo_ageOf 46 = .ok (.bipush 16, 2) := by decide +kernel
theorem d_Mo_ageOf_48 : decode b_Mo_ageOf 48 = .ok (.iload_n 1, 1) := by decide +kernel
theorem d_Mo_ageOf_49 : decode b_Mo_ageOf 49 = .ok (.imul, 1) := by decide +kernel
theorem d_Mo_ageOf_50 : decode b_Mo_ageOf 50 = .ok (.istore_n 2, 1) := by decide +kernel
theorem d_Mo_ageOf_51 : decode b_Mo_ageOf 51 = .ok (.iload_n 2, 1) := by decide +kernel
theorem d_Mo_ageOf_52 : decode b_Mo_ageOf 52 = .ok (.bipush 16, 2) := by decide +kernel
theorem d_Mo_ageOf_54 : decode b_Mo_ageOf 54 = .ok (.iload_n 1, 1) := by decide +kernel
theorem d_Mo_ageOf_55 : decode b_Mo_ageOf 55 = .ok (.imul, 1) := by decide +kernel
theorem d_Mo_ageOf_56 : decode b_Mo_ageOf 56 = .ok (.bipush 16, 2) := by decide +kernel
theorem d_Mo_ageOf_58 : decode b_Mo_ageOf 58 = .ok (.iadd, 1) := by decide +kernel
theorem d_Mo_ageOf_59 : decode b_Mo_ageOf 59 = .ok (.if_icmp .ge 36, 3) := by decide +kernel
theorem d_Mo_ageOf_62 : decode b_Mo_ageOf 62 = .ok (.aload_n 0, 1) := by decide +kernel
theorem d_Mo_ageOf_63 : decode b_Mo_ageOf 63 = .ok (.getfield 84, 3) := by decide +kernel
theorem d_Mo_ageOf_66 : decode b_Mo_ageOf 66 = .ok (.iload_n 2, 1) := by decide +kernel
theorem d_Mo_ageOf_67 : decode b_Mo_ageOf 67 = .ok (.aload_n 0, 1) := by decide +kernel
theorem d_Mo_ageOf_68 : decode b_Mo_ageOf 68 = .ok (.getfield 84, 3) := by decide +kernel
theorem d_Mo_ageOf_71 : decode b_Mo_ageOf 71 = .ok (.iload_n 2, 1) := by decide +kernel
theorem d_Mo_ageOf_72 : decode b_Mo_ageOf 72 = .ok (.iaload, 1) := by decide +kernel
theorem d_Mo_ageOf_73 : decode b_Mo_ageOf 73 = .ok (.ifCond .le 14, 3) := by decide +kernel
theorem d_Mo_ageOf_76 : decode b_Mo_ageOf 76 = .ok (.aload_n 0, 1) := by decide +kernel
theorem d_Mo_ageOf_77 : decode b_Mo_ageOf 77 = .ok (.getfield 84, 3) := by decide +kernel
theorem d_Mo_ageOf_80 : decode b_Mo_ageOf 80 = .ok (.iload_n 2, 1) := by decide +kernel
theorem d_Mo_ageOf_81 : decode b_Mo_ageOf 81 = .ok (.iaload, 1) := by decide +kernel
theorem d_Mo_ageOf_82 : decode b_Mo_ageOf 82 = .ok (.iconst 1, 1) := by decide +kernel
theorem d_Mo_ageOf_83 : decode b_Mo_ageOf 83 = .ok (.isub, 1) := by decide +kernel
theorem d_Mo_ageOf_84 : decode b_Mo_ageOf 84 = .ok (.goto 4, 3) := by decide +kernel
theorem d_Mo_ageOf_87 : decode b_Mo_ageOf 87 = .ok (.iconst 0, 1) := by decide +kernel
theorem d_Mo_ageOf_88 : decode b_Mo_ageOf 88 = .ok (.iastore, 1) := by decide +kernel
theorem d_Mo_ageOf_89 : decode b_Mo_ageOf 89 = .ok (.iinc 2 1, 3) := by decide +kernel
theorem d_Mo_ageOf_92 : decode b_Mo_ageOf 92 = .ok (.goto (-41), 3) := by decide +kernel
theorem d_Mo_ageOf_95 : decode b_Mo_ageOf 95 = .ok (.iconst 4, 1) := by decide +kernel
theorem d_Mo_ageOf_96 : decode b_Mo_ageOf 96 = .ok (.iload_n 1, 1) := by decide +kernel
theorem d_Mo_ageOf_97 : decode b_Mo_ageOf 97 = .ok (.imul, 1) := by decide +kernel
theorem d_Mo_ageOf_98 : decode b_Mo_ageOf 98 = .ok (.istore_n 2, 1) := by decide +kernel
theorem d_Mo_ageOf_99 : decode b_Mo_ageOf 99 = .ok (.iload_n 2, 1) := by decide +kernel
theorem d_Mo_ageOf_100 : decode b_Mo_ageOf 100 = .ok (.iconst 4, 1) := by decide +kernel
theorem d_Mo_ageOf_101 : decode b_Mo_ageOf 101 = .ok (.iload_n 1, 1) := by decide +kernel
theorem d_Mo_ageOf_102 : decode b_Mo_ageOf 102 = .ok (.imul, 1) := by decide +kernel
theorem d_Mo_ageOf_103 : decode b_Mo_ageOf 103 = .ok (.iconst 4, 1) := by decide +kernel
theorem d_Mo_ageOf_104 : decode b_Mo_ageOf 104 = .ok (.iadd, 1) := by decide +kernel
theorem d_Mo_ageOf_105 : decode b_Mo_ageOf 105 = .ok (.if_icmp .ge 117, 3) := by decide +kernel
theorem d_Mo_ageOf_108 : decode b_Mo_ageOf 108 = .ok (.aload_n 0, 1) := by decide +kernel
theorem d_Mo_ageOf_109 : decode b_Mo_ageOf 109 = .ok (.iload_n 2, 1) := by decide +kernel
theorem d_Mo_ageOf_110 : decode b_Mo_ageOf 110 = .ok (.invokevirtual 137, 3) := by decide +kernel
theorem d_Mo_ageOf_113 : decode b_Mo_ageOf 113 = .ok (.ifCond .eq 103, 3) := by decide +kernel
theorem d_Mo_ageOf_116 : decode b_Mo_ageOf 116 = .ok (.aload_n 0, 1) := by decide +kernel
theorem d_Mo_ageOf_117 : decode b_Mo_ageOf 117 = .ok (.getfield 22, 3) := by decide +kernel
theorem d_Mo_ageOf_120 : decode b_Mo_ageOf 120 = .ok (.iload_n 2, 1) := by decide +kernel
theorem d_Mo_ageOf_121 : decode b_Mo_ageOf 121 = .ok (.iaload, 1) := by decide +kernel
theorem d_Mo_ageOf_122 : decode b_Mo_ageOf 122 = .ok (.iconst 2, 1) := by decide +kernel
theorem d_Mo_ageOf_123 : decode b_Mo_ageOf 123 = .ok (.if_icmp .ne 93, 3) := by decide +kernel
theorem d_Mo_ageOf_126 : decode b_Mo_ageOf 126 = .ok (.aload_n 0, 1) := by decide +kernel
theorem d_Mo_ageOf_127 : decode b_Mo_ageOf 127 = .ok (.getfield 25, 3) := by decide +kernel
theorem d_Mo_ageOf_130 : decode b_Mo_ageOf 130 = .ok (.iload_n 2, 1) := by decide +kernel
theorem d_Mo_ageOf_131 : decode b_Mo_ageOf 131 = .ok (.iaload, 1) := by decide +kernel
theorem d_Mo_ageOf_132 : decode b_Mo_ageOf 132 = .ok (.iconst 2, 1) := by decide +kernel
theorem d_Mo_ageOf_133 : decode b_Mo_ageOf 133 = .ok (.if_icmp .ge 83, 3) := by decide +kernel
theorem d_Mo_ageOf_136 : decode b_Mo_ageOf 136 = .ok (.aload_n 0, 1) := by decide +kernel
theorem d_Mo_ageOf_137 : decode b_Mo_ageOf 137 = .ok (.getfield 35, 3) := by decide +kernel
theorem d_Mo_ageOf_140 : decode b_Mo_ageOf 140 = .ok (.iload_n 2, 1) := by decide +kernel
theorem d_Mo_ageOf_141 : decode b_Mo_ageOf 141 = .ok (.dup2, 1) := by decide +kernel
theorem d_Mo_ageOf_142 : decode b_Mo_ageOf 142 = .ok (.iaload, 1) := by decide +kernel
theorem d_Mo_ageOf_143 : decode b_Mo_ageOf 143 = .ok (.iconst 1, 1) := by decide +kernel
theorem d_Mo_ageOf_144 : decode b_Mo_ageOf 144 = .ok (.isub, 1) := by decide +kernel
theorem d_Mo_ageOf_145 : decode b_Mo_ageOf 145 = .ok (.iastore, 1) := by decide +kernel
theorem d_Mo_ageOf_146 : decode b_Mo_ageOf 146 = .ok (.aload_n 0, 1) := by decide +kernel
theorem d_Mo_ageOf_147 : decode b_Mo_ageOf 147 = .ok (.getfield 35, 3) := by decide +kernel
theorem d_Mo_ageOf_150 : decode b_Mo_ageOf 150 = .ok (.iload_n 2, 1) := by decide +kernel
theorem d_Mo_ageOf_151 : decode b_Mo_ageOf 151 = .ok (.iaload, 1) := by decide +kernel
theorem d_Mo_ageOf_152 : decode b_Mo_ageOf 152 = .ok (.ifCond .ne 64, 3) := by decide +kernel
theorem d_Mo_ageOf_155 : decode b_Mo_ageOf 155 = .ok (.aload_n 0, 1) := by decide +kernel
theorem d_Mo_ageOf_156 : decode b_Mo_ageOf 156 = .ok (.getfield 25, 3) := by decide +kernel
theorem d_Mo_ageOf_159 : decode b_Mo_ageOf 159 = .ok (.iload_n 2, 1) := by decide +kernel
theorem d_Mo_ageOf_160 : decode b_Mo_ageOf 160 = .ok (.dup2, 1) := by decide +kernel
theorem d_Mo_ageOf_161 : decode b_Mo_ageOf 161 = .ok (.iaload, 1) := by decide +kernel
theorem d_Mo_ageOf_162 : decode b_Mo_ageOf 162 = .ok (.iconst 1, 1) := by decide +kernel
theorem d_Mo_ageOf_163 : decode b_Mo_ageOf 163 = .ok (.iadd, 1) := by decide +kernel
theorem d_Mo_ageOf_164 : decode b_Mo_ageOf 164 = .ok (.iastore, 1) := by decide +kernel
theorem d_Mo_ageOf_165 : decode b_Mo_ageOf 165 = .ok (.aload_n 0, 1) := by decide +kernel
theorem d_Mo_ageOf_166 : decode b_Mo_ageOf 166 = .ok (.getfield 35, 3) := by decide +kernel
theorem d_Mo_ageOf_169 : decode b_Mo_ageOf 169 = .ok (.iload_n 2, 1) := by decide +kernel
theorem d_Mo_ageOf_170 : decode b_Mo_ageOf 170 = .ok (.aload_n 0, 1) := by decide +kernel
theorem d_Mo_ageOf_171 : decode b_Mo_ageOf 171 = .ok (.getfield 25, 3) := by decide +kernel
theorem d_Mo_ageOf_174 : decode b_Mo_ageOf 174 = .ok (.iload_n 2, 1) := by decide +kernel
theorem d_Mo_ageOf_175 : decode b_Mo_ageOf 175 = .ok (.iaload, 1) := by decide +kernel
theorem d_Mo_ageOf_176 : decode b_Mo_ageOf 176 = .ok (.iconst 1, 1) := by decide +kernel
theorem d_Mo_ageOf_177 : decode b_Mo_ageOf 177 = .ok (.if_icmp .ne 7, 3) := by decide +kernel
theorem d_Mo_ageOf_180 : decode b_Mo_ageOf 180 = .ok (.iconst 4, 1) := by decide +kernel
theorem d_Mo_ageOf_181 : decode b_Mo_ageOf 181 = .ok (.goto 4, 3) := by decide +kernel
theorem d_Mo_ageOf_184 : decode b_Mo_ageOf 184 = .ok (.iconst 0, 1) := by decide +kernel
theorem d_Mo_ageOf_185 : decode b_Mo_ageOf 185 = .ok (.iastore, 1) := by decide +kernel
theorem d_Mo_ageOf_186 : decode b_Mo_ageOf 186 = .ok (.aload_n 0, 1) := by decide +kernel
theorem d_Mo_ageOf_187 : decode b_Mo_ageOf 187 = .ok (.getfield 28, 3) := by decide +kernel
theorem d_Mo_ageOf_190 : decode b_Mo_ageOf 190 = .ok (.iload_n 2, 1) := by decide +kernel
theorem d_Mo_ageOf_191 : decode b_Mo_ageOf 191 = .ok (.aload_n 0, 1) := by decide +kernel
theorem d_Mo_ageOf_192 : decode b_Mo_ageOf 192 = .ok (.getfield 28, 3) := by decide +kernel
theorem d_Mo_ageOf_195 : decode b_Mo_ageOf 195 = .ok (.iload_n 2, 1) := by decide +kernel
theorem d_Mo_ageOf_196 : decode b_Mo_ageOf 196 = .ok (.baload, 1) := by decide +kernel
theorem d_Mo_ageOf_197 : decode b_Mo_ageOf 197 = .ok (.ifCond .eq 17, 3) := by decide +kernel
theorem d_Mo_ageOf_200 : decode b_Mo_ageOf 200 = .ok (.aload_n 0, 1) := by decide +kernel
theorem d_Mo_ageOf_201 : decode b_Mo_ageOf 201 = .ok (.getfield 25, 3) := by decide +kernel
theorem d_Mo_ageOf_204 : decode b_Mo_ageOf 204 = .ok (.iload_n 2, 1) := by decide +kernel
theorem d_Mo_ageOf_205 : decode b_Mo_ageOf 205 = .ok (.iaload, 1) := by decide +kernel
theorem d_Mo_ageOf_206 : decode b_Mo_ageOf 206 = .ok (.iconst 1, 1) := by decide +kernel
theorem d_Mo_ageOf_207 : decode b_Mo_ageOf 207 = .ok (.if_icmp .ne 7, 3) := by decide +kernel
theorem d_Mo_ageOf_210 : decode b_Mo_ageOf 210 = .ok (.iconst 1, 1) := by decide +kernel
theorem d_Mo_ageOf_211 : decode b_Mo_ageOf 211 = .ok (.goto 4, 3) := by decide +kernel
theorem d_Mo_ageOf_214 : decode b_Mo_ageOf 214 = .ok (.iconst 0, 1) := by decide +kernel
theorem d_Mo_ageOf_215 : decode b_Mo_ageOf 215 = .ok (.bastore, 1) := by decide +kernel
theorem d_Mo_ageOf_216 : decode b_Mo_ageOf 216 = .ok (.iinc 2 1, 3) := by decide +kernel
theorem d_Mo_ageOf_219 : decode b_Mo_ageOf 219 = .ok (.goto (-120), 3) := by decide +kernel
theorem d_Mo_ageOf_222 : decode b_Mo_ageOf 222 = .ok (.return_, 1) := by decide +kernel
theorem d_Mo_priority_0 : decode b_Mo_priority 0 = .ok (.aload_n 0, 1) := by decide +kernel
theorem d_Mo_priority_1 : decode b_Mo_priority 1 = .ok (.iconst 0, 1) := by decide +kernel
theorem d_Mo_priority_2 : decode b_Mo_priority 2 = .ok (.putfield 108, 3) := by decide +kernel
theorem d_Mo_priority_5 : decode b_Mo_priority 5 = .ok (.iload_n 1, 1) := by decide +kernel
theorem d_Mo_priority_6 : decode b_Mo_priority 6 = .ok (.invokestatic 112, 3) := by decide +kernel
theorem d_Mo_priority_9 : decode b_Mo_priority 9 = .ok (.ifCond .eq 13, 3) := by decide +kernel
theorem d_Mo_priority_12 : decode b_Mo_priority 12 = .ok (.iload_n 2, 1) := by decide +kernel
theorem d_Mo_priority_13 : decode b_Mo_priority 13 = .ok (.ifCond .lt 9, 3) := by decide +kernel
theorem d_Mo_priority_16 : decode b_Mo_priority 16 = .ok (.iload_n 2, 1) := by decide +kernel
theorem d_Mo_priority_17 : decode b_Mo_priority 17 = .ok (.bipush 15, 2) := by decide +kernel
theorem d_Mo_priority_19 : decode b_Mo_priority 19 = .ok (.if_icmp .le 5, 3) := by decide +kernel
theorem d_Mo_priority_22 : decode b_Mo_priority 22 = .ok (.iconst 0, 1) := by decide +kernel
theorem d_Mo_priority_23 : decode b_Mo_priority 23 = .ok (.ireturn, 1) := by decide +kernel
theorem d_Mo_priority_24 : decode b_Mo_priority 24 = .ok (.iconst 4, 1) := by decide +kernel
theorem d_Mo_priority_25 : decode b_Mo_priority 25 = .ok (.iload_n 1, 1) := by decide +kernel
theorem d_Mo_priority_26 : decode b_Mo_priority 26 = .ok (.imul, 1) := by decide +kernel
theorem d_Mo_priority_27 : decode b_Mo_priority 27 = .ok (.istore_n 3, 1) := by decide +kernel
theorem d_Mo_priority_28 : decode b_Mo_priority 28 = .ok (.iload_n 3, 1) := by decide +kernel
theorem d_Mo_priority_29 : decode b_Mo_priority 29 = .ok (.iconst 4, 1) := by decide +kernel
theorem d_Mo_priority_30 : decode b_Mo_priority 30 = .ok (.iload_n 1, 1) := by decide +kernel
theorem d_Mo_priority_31 : decode b_Mo_priority 31 = .ok (.imul, 1) := by decide +kernel
theorem d_Mo_priority_32 : decode b_Mo_priority 32 = .ok (.iconst 4, 1) := by decide +kernel
theorem d_Mo_priority_33 : decode b_Mo_priority 33 = .ok (.iadd, 1) := by decide +kernel
theorem d_Mo_priority_34 : decode b_Mo_priority 34 = .ok (.if_icmp .ge 20, 3) := by decide +kernel
theorem d_Mo_priority_37 : decode b_Mo_priority 37 = .ok (.aload_n 0, 1) := by decide +kernel
theorem d_Mo_priority_38 : decode b_Mo_priority 38 = .ok (.getfield 19, 3) := by decide +kernel
theorem d_Mo_priority_41 : decode b_Mo_priority 41 = .ok (.iload_n 3, 1) := by decide +kernel
theorem d_Mo_priority_42 : decode b_Mo_priority 42 = .ok (.iaload, 1) := by decide +kernel
theorem d_Mo_priority_43 : decode b_Mo_priority 43 = .ok (.ifCond .eq 5, 3) := by decide +kernel
theorem d_Mo_priority_46 : decode b_Mo_priority 46 = .ok (.iconst 0, 1) := by decide +kernel
theorem d_Mo_priority_47 : decode b_Mo_priority 47 = .ok (.ireturn, 1) := by decide +kernel
theorem d_Mo_priority_48 : decode b_Mo_priority 48 = .ok (.iinc 3 1, 3) := by decide +kernel
theorem d_Mo_priority_51 : decode b_Mo_priority 51 = .ok (.goto (-23), 3) := by decide +kernel
theorem d_Mo_priority_54 : decode b_Mo_priority 54 = .ok (.aload_n 0, 1) := by decide +kernel
theorem d_Mo_priority_55 : decode b_Mo_priority 55 = .ok (.getfield 7, 3) := by decide +kernel
theorem d_Mo_priority_58 : decode b_Mo_priority 58 = .ok (.iload_n 1, 1) := by decide +kernel
theorem d_Mo_priority_59 : decode b_Mo_priority 59 = .ok (.iload_n 2, 1) := by decide +kernel
theorem d_Mo_priority_60 : decode b_Mo_priority 60 = .ok (.iastore, 1) := by decide +kernel
theorem d_Mo_priority_61 : decode b_Mo_priority 61 = .ok (.aload_n 0, 1) := by decide +kernel
theorem d_Mo_priority_62 : decode b_Mo_priority 62 = .ok (.iload_n 1, 1) := by decide +kernel
theorem d_Mo_priority_63 : decode b_Mo_priority 63 = .ok (.invokevirtual 163, 3) := by decide +kernel
theorem d_Mo_priority_66 : decode b_Mo_priority 66 = .ok (.iconst 1, 1) := by decide +kernel
theorem d_Mo_priority_67 : decode b_Mo_priority 67 = .ok (.ireturn, 1) := by decide +kernel
theorem d_Mo_set_0 : decode b_Mo_set 0 = .ok (.aload_n 0, 1) := by decide +kernel
theorem d_Mo_set_1 : decode b_Mo_set 1 = .ok (.iconst 0, 1) := by decide +kernel
theorem d_Mo_set_2 : decode b_Mo_set 2 = .ok (.putfield 108, 3) := by decide +kernel
theorem d_Mo_set_5 : decode b_Mo_set 5 = .ok (.iload_n 1, 1) := by decide +kernel
theorem d_Mo_set_6 : decode b_Mo_set 6 = .ok (.iload_n 2, 1) := by decide +kernel
theorem d_Mo_set_7 : decode b_Mo_set 7 = .ok (.invokestatic 178, 3) := by decide +kernel
theorem d_Mo_set_10 : decode b_Mo_set 10 = .ok (.ifCond .eq 26, 3) := by decide +kernel
theorem d_Mo_set_13 : decode b_Mo_set 13 = .ok (.iload_n 3, 1) := by decide +kernel
theorem d_Mo_set_14 : decode b_Mo_set 14 = .ok (.iconst 1, 1) := by decide +kernel
theorem d_Mo_set_15 : decode b_Mo_set 15 = .ok (.if_icmp .lt 21, 3) := by decide +kernel
theorem d_Mo_set_18 : decode b_Mo_set 18 = .ok (.iload_n 3, 1) := by decide +kernel
theorem d_Mo_set_19 : decode b_Mo_set 19 = .ok (.bipush 50, 2) := by decide +kernel
theorem d_Mo_set_21 : decode b_Mo_set 21 = .ok (.if_icmp .gt 15, 3) := by decide +kernel
theorem d_Mo_set_24 : decode b_Mo_set 24 = .ok (.iload 4, 2) := by decide +kernel
theorem d_Mo_set_26 : decode b_Mo_set 26 = .ok (.iconst 1, 1) := by decide +kernel
theorem d_Mo_set_27 : decode b_Mo_set 27 = .ok (.if_icmp .lt 9, 3) := by decide +kernel
theorem d_Mo_set_30 : decode b_Mo_set 30 = .ok (.iload 4, 2) := by decide +kernel
theorem d_Mo_set_32 : decode b_Mo_set 32 = .ok (.iconst 3, 1) := by decide +kernel
theorem d_Mo_set_33 : decode b_Mo_set 33 = .ok (.if_icmp .le 5, 3) := by decide +kernel
theorem d_Mo_set_36 : decode b_Mo_set 36 = .ok (.iconst 0, 1) := by decide +kernel
theorem d_Mo_set_37 : decode b_Mo_set 37 = .ok (.ireturn, 1) := by decide +kernel
theorem d_Mo_set_38 : decode b_Mo_set 38 = .ok (.aload_n 0, 1) := by decide +kernel
theorem d_Mo_set_39 : decode b_Mo_set 39 = .ok (.getfield 13, 3) := by decide +kernel
theorem d_Mo_set_42 : decode b_Mo_set 42 = .ok (.iconst 4, 1) := by decide +kernel
theorem d_Mo_set_43 : decode b_Mo_set 43 = .ok (.iload_n 1, 1) := by decide +kernel
theorem d_Mo_set_44 : decode b_Mo_set 44 = .ok (.imul, 1) := by decide +kernel
theorem d_Mo_set_45 : decode b_Mo_set 45 = .ok (.iload_n 2, 1) := by decide +kernel
theorem d_Mo_set_46 : decode b_Mo_set 46 = .ok (.iadd, 1) := by decide +kernel
theorem d_Mo_set_47 : decode b_Mo_set 47 = .ok (.iload_n 3, 1) := by decide +kernel
theorem d_Mo_set_48 : decode b_Mo_set 48 = .ok (.iastore, 1) := by decide +kernel
theorem d_Mo_set_49 : decode b_Mo_set 49 = .ok (.aload_n 0, 1) := by decide +kernel
theorem d_Mo_set_50 : decode b_Mo_set 50 = .ok (.getfield 16, 3) := by decide +kernel
theorem d_Mo_set_53 : decode b_Mo_set 53 = .ok (.iconst 4, 1) := by decide +kernel
theorem d_Mo_set_54 : decode b_Mo_set 54 = .ok (.iload_n 1, 1) := by decide +kernel
theorem d_Mo_set_55 : decode b_Mo_set 55 = .ok (.imul, 1) := by decide +kernel
theorem d_Mo_set_56 : decode b_Mo_set 56 = .ok (.iload_n 2, 1) := by decide +kernel
theorem d_Mo_set_57 : decode b_Mo_set 57 = .ok (.iadd, 1) := by decide +kernel
theorem d_Mo_set_58 : decode b_Mo_set 58 = .ok (.iload 4, 2) := by decide +kernel
theorem d_Mo_set_60 : decode b_Mo_set 60 = .ok (.iastore, 1) := by decide +kernel
theorem d_Mo_set_61 : decode b_Mo_set 61 = .ok (.aload_n 0, 1) := by decide +kernel
theorem d_Mo_set_62 : decode b_Mo_set 62 = .ok (.iload_n 1, 1) := by decide +kernel
theorem d_Mo_set_63 : decode b_Mo_set 63 = .ok (.invokevirtual 163, 3) := by decide +kernel
theorem d_Mo_set_66 : decode b_Mo_set 66 = .ok (.iconst 1, 1) := by decide +kernel
theorem d_Mo_set_67 : decode b_Mo_set 67 = .ok (.ireturn, 1) := by decide +kernel
theorem d_Mo_link_0 : decode b_Mo_link 0 = .ok (.aload_n 0, 1) := by decide +kernel
theorem d_Mo_link_1 : decode b_Mo_link 1 = .ok (.iconst 0, 1) := by decide +kernel
theorem d_Mo_link_2 : decode b_Mo_link 2 = .ok (.putfield 108, 3) := by decide +kernel
theorem d_Mo_link_5 : decode b_Mo_link 5 = .ok (.iload_n 1, 1) := by decide +kernel
theorem d_Mo_link_6 : decode b_Mo_link 6 = .ok (.iload_n 2, 1) := by decide +kernel
theorem d_Mo_link_7 : decode b_Mo_link 7 = .ok (.invokestatic 178, 3) := by decide +kernel
theorem d_Mo_link_10 : decode b_Mo_link 10 = .ok (.ifCond .eq 44, 3) := by decide +kernel
theorem d_Mo_link_13 : decode b_Mo_link 13 = .ok (.iload_n 3, 1) := by decide +kernel
theorem d_Mo_link_14 : decode b_Mo_link 14 = .ok (.iload 4, 2) := by decide +kernel
theorem d_Mo_link_16 : decode b_Mo_link 16 = .ok (.invokestatic 178, 3) := by decide +kernel
theorem d_Mo_link_19 : decode b_Mo_link 19 = .ok (.ifCond .eq 35, 3) := by decide +kernel
theorem d_Mo_link_22 : decode b_Mo_link 22 = .ok (.iload_n 1, 1) := by decide +kernel
theorem d_Mo_link_23 : decode b_Mo_link 23 = .ok (.iload_n 3, 1) := by decide +kernel
theorem d_Mo_link_24 : decode b_Mo_link 24 = .ok (.if_icmp .eq 30, 3) := by decide +kernel
theorem d_Mo_link_27 : decode b_Mo_link 27 = .ok (.aload_n 0, 1) := by decide +kernel
theorem d_Mo_link_28 : decode b_Mo_link 28 = .ok (.getfield 19, 3) := by decide +kernel
theorem d_Mo_link_31 : decode b_Mo_link 31 = .ok (.iconst 4, 1) := by decide +kernel
theorem d_Mo_link_32 : decode b_Mo_link 32 = .ok (.iload_n 1, 1) := by decide +kernel
theorem d_Mo_link_33 : decode b_Mo_link 33 = .ok (.imul, 1) := by decide +kernel
theorem d_Mo_link_34 : decode b_Mo_link 34 = .ok (.iload_n 2, 1) := by decide +kernel
theorem d_Mo_link_35 : decode b_Mo_link 35 = .ok (.iadd, 1) := by decide +kernel
theorem d_Mo_link_36 : decode b_Mo_link 36 = .ok (.iaload, 1) := by decide +kernel
theorem d_Mo_link_37 : decode b_Mo_link 37 = .ok (.ifCond .ne 17, 3) := by decide +kernel
theorem d_Mo_link_40 : decode b_Mo_link 40 = .ok (.aload_n 0, 1) := by decide +kernel
theorem d_Mo_link_41 : decode b_Mo_link 41 = .ok (.getfield 19, 3) := by decide +kernel
theorem d_Mo_link_44 : decode b_Mo_link 44 = .ok (.iconst 4, 1) := by decide +kernel
theorem d_Mo_link_45 : decode b_Mo_link 45 = .ok (.iload_n 3, 1) := by decide +kernel
theorem d_Mo_link_46 : decode b_Mo_link 46 = .ok (.imul, 1) := by decide +kernel
theorem d_Mo_link_47 : decode b_Mo_link 47 = .ok (.iload 4, 2) := by decide +kernel
theorem d_Mo_link_49 : decode b_Mo_link 49 = .ok (.iadd, 1) := by decide +kernel
theorem d_Mo_link_50 : decode b_Mo_link 50 = .ok (.iaload, 1) := by decide +kernel
theorem d_Mo_link_51 : decode b_Mo_link 51 = .ok (.ifCond .eq 5, 3) := by decide +kernel
theorem d_Mo_link_54 : decode b_Mo_link 54 = .ok (.iconst 0, 1) := by decide +kernel
theorem d_Mo_link_55 : decode b_Mo_link 55 = .ok (.ireturn, 1) := by decide +kernel
theorem d_Mo_link_56 : decode b_Mo_link 56 = .ok (.aload_n 0, 1) := by decide +kernel
theorem d_Mo_link_57 : decode b_Mo_link 57 = .ok (.getfield 19, 3) := by decide +kernel
theorem d_Mo_link_60 : decode b_Mo_link 60 = .ok (.iconst 4, 1) := by decide +kernel
theorem d_Mo_link_61 : decode b_Mo_link 61 = .ok (.iload_n 1, 1) := by decide +kernel
theorem d_Mo_link_62 : decode b_Mo_link 62 = .ok (.imul, 1) := by decide +kernel
theorem d_Mo_link_63 : decode b_Mo_link 63 = .ok (.iload_n 2, 1) := by decide +kernel
theorem d_Mo_link_64 : decode b_Mo_link 64 = .ok (.iadd, 1) := by decide +kernel
theorem d_Mo_link_65 : decode b_Mo_link 65 = .ok (.iconst 4, 1) := by decide +kernel
theorem d_Mo_link_66 : decode b_Mo_link 66 = .ok (.iload_n 3, 1) := by decide +kernel
theorem d_Mo_link_67 : decode b_Mo_link 67 = .ok (.imul, 1) := by decide +kernel
theorem d_Mo_link_68 : decode b_Mo_link 68 = .ok (.iload 4, 2) := by decide +kernel
theorem d_Mo_link_70 : decode b_Mo_link 70 = .ok (.iadd, 1) := by decide +kernel
theorem d_Mo_link_71 : decode b_Mo_link 71 = .ok (.iconst 1, 1) := by decide +kernel
theorem d_Mo_link_72 : decode b_Mo_link 72 = .ok (.iadd, 1) := by decide +kernel
theorem d_Mo_link_73 : decode b_Mo_link 73 = .ok (.iastore, 1) := by decide +kernel
theorem d_Mo_link_74 : decode b_Mo_link 74 = .ok (.aload_n 0, 1) := by decide +kernel
theorem d_Mo_link_75 : decode b_Mo_link 75 = .ok (.getfield 19, 3) := by decide +kernel
theorem d_Mo_link_78 : decode b_Mo_link 78 = .ok (.iconst 4, 1) := by decide +kernel
theorem d_Mo_link_79 : decode b_Mo_link 79 = .ok (.iload_n 3, 1) := by decide +kernel
theorem d_Mo_link_80 : decode b_Mo_link 80 = .ok (.imul, 1) := by decide +kernel
theorem d_Mo_link_81 : decode b_Mo_link 81 = .ok (.iload 4, 2) := by decide +kernel
theorem d_Mo_link_83 : decode b_Mo_link 83 = .ok (.iadd, 1) := by decide +kernel
theorem d_Mo_link_84 : decode b_Mo_link 84 = .ok (.iconst 4, 1) := by decide +kernel
theorem d_Mo_link_85 : decode b_Mo_link 85 = .ok (.iload_n 1, 1) := by decide +kernel
theorem d_Mo_link_86 : decode b_Mo_link 86 = .ok (.imul, 1) := by decide +kernel
theorem d_Mo_link_87 : decode b_Mo_link 87 = .ok (.iload_n 2, 1) := by decide +kernel
theorem d_Mo_link_88 : decode b_Mo_link 88 = .ok (.iadd, 1) := by decide +kernel
theorem d_Mo_link_89 : decode b_Mo_link 89 = .ok (.iconst 1, 1) := by decide +kernel
theorem d_Mo_link_90 : decode b_Mo_link 90 = .ok (.iadd, 1) := by decide +kernel
theorem d_Mo_link_91 : decode b_Mo_link 91 = .ok (.iastore, 1) := by decide +kernel
theorem d_Mo_link_92 : decode b_Mo_link 92 = .ok (.aload_n 0, 1) := by decide +kernel
theorem d_Mo_link_93 : decode b_Mo_link 93 = .ok (.iconst 4, 1) := by decide +kernel
theorem d_Mo_link_94 : decode b_Mo_link 94 = .ok (.iload_n 1, 1) := by decide +kernel
theorem d_Mo_link_95 : decode b_Mo_link 95 = .ok (.imul, 1) := by decide +kernel
theorem d_Mo_link_96 : decode b_Mo_link 96 = .ok (.iload_n 2, 1) := by decide +kernel
theorem d_Mo_link_97 : decode b_Mo_link 97 = .ok (.iadd, 1) := by decide +kernel
theorem d_Mo_link_98 : decode b_Mo_link 98 = .ok (.invokevirtual 202, 3) := by decide +kernel
theorem d_Mo_link_101 : decode b_Mo_link 101 = .ok (.aload_n 0, 1) := by decide +kernel
theorem d_Mo_link_102 : decode b_Mo_link 102 = .ok (.iconst 4, 1) := by decide +kernel
theorem d_Mo_link_103 : decode b_Mo_link 103 = .ok (.iload_n 3, 1) := by decide +kernel
theorem d_Mo_link_104 : decode b_Mo_link 104 = .ok (.imul, 1) := by decide +kernel
theorem d_Mo_link_105 : decode b_Mo_link 105 = .ok (.iload 4, 2) := by decide +kernel
theorem d_Mo_link_107 : decode b_Mo_link 107 = .ok (.iadd, 1) := by decide +kernel
theorem d_Mo_link_108 : decode b_Mo_link 108 = .ok (.invokevirtual 202, 3) := by decide +kernel
theorem d_Mo_link_111 : decode b_Mo_link 111 = .ok (.aload_n 0, 1) := by decide +kernel
theorem d_Mo_link_112 : decode b_Mo_link 112 = .ok (.iload_n 1, 1) := by decide +kernel
theorem d_Mo_link_113 : decode b_Mo_link 113 = .ok (.invokevirtual 163, 3) := by decide +kernel
theorem d_Mo_link_116 : decode b_Mo_link 116 = .ok (.aload_n 0, 1) := by decide +kernel
theorem d_Mo_link_117 : decode b_Mo_link 117 = .ok (.iload_n 3, 1) := by decide +kernel
theorem d_Mo_link_118 : decode b_Mo_link 118 = .ok (.invokevirtual 163, 3) := by decide +kernel
theorem d_Mo_link_121 : decode b_Mo_link 121 = .ok (.iconst 1, 1) := by decide +kernel
theorem d_Mo_link_122 : decode b_Mo_link 122 = .ok (.ireturn, 1) := by decide +kernel
theorem d_Mo_clear_0 : decode b_Mo_clear 0 = .ok (.aload_n 0, 1) := by decide +kernel
theorem d_Mo_clear_1 : decode b_Mo_clear 1 = .ok (.getfield 45, 3) := by decide +kernel
theorem d_Mo_clear_4 : decode b_Mo_clear 4 = .ok (.iload_n 1, 1) := by decide +kernel
theorem d_Mo_clear_5 : decode b_Mo_clear 5 = .ok (.iconst 0, 1) := by decide +kernel
theorem d_Mo_clear_6 : decode b_Mo_clear 6 = .ok (.iastore, 1) := by decide +kernel
theorem d_Mo_clear_7 : decode b_Mo_clear 7 = .ok (.aload_n 0, 1) := by decide +kernel
theorem d_Mo_clear_8 : decode b_Mo_clear 8 = .ok (.getfield 48, 3) := by decide +kernel
theorem d_Mo_clear_11 : decode b_Mo_clear 11 = .ok (.iload_n 1, 1) := by decide +kernel
theorem d_Mo_clear_12 : decode b_Mo_clear 12 = .ok (.iconst 0, 1) := by decide +kernel
theorem d_Mo_clear_13 : decode b_Mo_clear 13 = .ok (.iastore, 1) := by decide +kernel
theorem d_Mo_clear_14 : decode b_Mo_clear 14 = .ok (.aload_n 0, 1) := by decide +kernel
theorem d_Mo_clear_15 : decode b_Mo_clear 15 = .ok (.iload_n 1, 1) := by decide +kernel
theorem d_Mo_clear_16 : decode b_Mo_clear 16 = .ok (.iconst 0, 1) := by decide +kernel
theorem d_Mo_clear_17 : decode b_Mo_clear 17 = .ok (.invokevirtual 157, 3) := by decide +kernel
theorem d_Mo_clear_20 : decode b_Mo_clear 20 = .ok (.bipush 16, 2) := by decide +kernel
theorem d_Mo_clear_22 : decode b_Mo_clear 22 = .ok (.iload_n 1, 1) := by decide +kernel
theorem d_Mo_clear_23 : decode b_Mo_clear 23 = .ok (.iconst 4, 1) := by decide +kernel
theorem d_Mo_clear_24 : decode b_Mo_clear 24 = .ok (.idiv, 1) := by decide +kernel
theorem d_Mo_clear_25 : decode b_Mo_clear 25 = .ok (.imul, 1) := by decide +kernel
theorem d_Mo_clear_26 : decode b_Mo_clear 26 = .ok (.istore_n 2, 1) := by decide +kernel
theorem d_Mo_clear_27 : decode b_Mo_clear 27 = .ok (.iload_n 2, 1) := by decide +kernel
theorem d_Mo_clear_28 : decode b_Mo_clear 28 = .ok (.bipush 16, 2) := by decide +kernel
theorem d_Mo_clear_30 : decode b_Mo_clear 30 = .ok (.iload_n 1, 1) := by decide +kernel
theorem d_Mo_clear_31 : decode b_Mo_clear 31 = .ok (.iconst 4, 1) := by decide +kernel
theorem d_Mo_clear_32 : decode b_Mo_clear 32 = .ok (.idiv, 1) := by decide +kernel
theorem d_Mo_clear_33 : decode b_Mo_clear 33 = .ok (.imul, 1) := by decide +kernel
theorem d_Mo_clear_34 : decode b_Mo_clear 34 = .ok (.bipush 16, 2) := by decide +kernel
theorem d_Mo_clear_36 : decode b_Mo_clear 36 = .ok (.iadd, 1) := by decide +kernel
theorem d_Mo_clear_37 : decode b_Mo_clear 37 = .ok (.if_icmp .ge 37, 3) := by decide +kernel
theorem d_Mo_clear_40 : decode b_Mo_clear 40 = .ok (.aload_n 0, 1) := by decide +kernel
theorem d_Mo_clear_41 : decode b_Mo_clear 41 = .ok (.getfield 84, 3) := by decide +kernel
theorem d_Mo_clear_44 : decode b_Mo_clear 44 = .ok (.iload_n 2, 1) := by decide +kernel
theorem d_Mo_clear_45 : decode b_Mo_clear 45 = .ok (.aload_n 0, 1) := by decide +kernel
theorem d_Mo_clear_46 : decode b_Mo_clear 46 = .ok (.getfield 87, 3) := by decide +kernel
theorem d_Mo_clear_49 : decode b_Mo_clear 49 = .ok (.iload_n 2, 1) := by decide +kernel
theorem d_Mo_clear_50 : decode b_Mo_clear 50 = .ok (.iaload, 1) := by decide +kernel
theorem d_Mo_clear_51 : decode b_Mo_clear 51 = .ok (.iload_n 1, 1) := by decide +kernel
theorem d_Mo_clear_52 : decode b_Mo_clear 52 = .ok (.iconst 4, 1) := by decide +kernel
theorem d_Mo_clear_53 : decode b_Mo_clear 53 = .ok (.irem, 1) := by decide +kernel
theorem d_Mo_clear_54 : decode b_Mo_clear 54 = .ok (.if_icmp .ne 7, 3) := by decide +kernel
theorem d_Mo_clear_57 : decode b_Mo_clear 57 = .ok (.iconst 0, 1) := by decide +kernel
theorem d_Mo_clear_58 : decode b_Mo_clear 58 = .ok (.goto 9, 3) := by decide +kernel
theorem d_Mo_clear_61 : decode b_Mo_clear 61 = .ok (.aload_n 0, 1) := by decide +kernel
theorem d_Mo_clear_62 : decode b_Mo_clear 62 = .ok (.getfield 84, 3) := by decide +kernel
theorem d_Mo_clear_65 : decode b_Mo_clear 65 = .ok (.iload_n 2, 1) := by decide +kernel
theorem d_Mo_clear_66 : decode b_Mo_clear 66 = .ok (.iaload, 1) := by decide +kernel
theorem d_Mo_clear_67 : decode b_Mo_clear 67 = .ok (.iastore, 1) := by decide +kernel
theorem d_Mo_clear_68 : decode b_Mo_clear 68 = .ok (.iinc 2 1, 3) := by decide +kernel
theorem d_Mo_clear_71 : decode b_Mo_clear 71 = .ok (.goto (-44), 3) := by decide +kernel
theorem d_Mo_clear_74 : decode b_Mo_clear 74 = .ok (.return_, 1) := by decide +kernel
theorem d_Mo_cut_0 : decode b_Mo_cut 0 = .ok (.aload_n 0, 1) := by decide +kernel
theorem d_Mo_cut_1 : decode b_Mo_cut 1 = .ok (.iconst 0, 1) := by decide +kernel
theorem d_Mo_cut_2 : decode b_Mo_cut 2 = .ok (.putfield 108, 3) := by decide +kernel
theorem d_Mo_cut_5 : decode b_Mo_cut 5 = .ok (.iload_n 1, 1) := by decide +kernel
theorem d_Mo_cut_6 : decode b_Mo_cut 6 = .ok (.iload_n 2, 1) := by decide +kernel
theorem d_Mo_cut_7 : decode b_Mo_cut 7 = .ok (.invokestatic 178, 3) := by decide +kernel
theorem d_Mo_cut_10 : decode b_Mo_cut 10 = .ok (.ifCond .eq 15, 3) := by decide +kernel
theorem d_Mo_cut_13 : decode b_Mo_cut 13 = .ok (.aload_n 0, 1) := by decide +kernel
theorem d_Mo_cut_14 : decode b_Mo_cut 14 = .ok (.iconst 4, 1) := by decide +kernel
theorem d_Mo_cut_15 : decode b_Mo_cut 15 = .ok (.iload_n 1, 1) := by decide +kernel
theorem d_Mo_cut_16 : decode b_Mo_cut 16 = .ok (.imul, 1) := by decide +kernel
theorem d_Mo_cut_17 : decode b_Mo_cut 17 = .ok (.iload_n 2, 1) := by decide +kernel
theorem d_Mo_cut_18 : decode b_Mo_cut 18 = .ok (.iadd, 1) := by decide +kernel
theorem d_Mo_cut_19 : decode b_Mo_cut 19 = .ok (.invokevirtual 137, 3) := by decide +kernel
theorem d_Mo_cut_22 : decode b_Mo_cut 22 = .ok (.ifCond .ne 5, 3) := by decide +kernel
theorem d_Mo_cut_25 : decode b_Mo_cut 25 = .ok (.iconst 0, 1) := by decide +kernel
theorem d_Mo_cut_26 : decode b_Mo_cut 26 = .ok (.ireturn, 1) := by decide +kernel
theorem d_Mo_cut_27 : decode b_Mo_cut 27 = .ok (.iconst 4, 1) := by decide +kernel
theorem d_Mo_cut_28 : decode b_Mo_cut 28 = .ok (.iload_n 1, 1) := by decide +kernel
theorem d_Mo_cut_29 : decode b_Mo_cut 29 = .ok (.imul, 1) := by decide +kernel
theorem d_Mo_cut_30 : decode b_Mo_cut 30 = .ok (.iload_n 2, 1) := by decide +kernel
theorem d_Mo_cut_31 : decode b_Mo_cut 31 = .ok (.iadd, 1) := by decide +kernel
theorem d_Mo_cut_32 : decode b_Mo_cut 32 = .ok (.istore_n 3, 1) := by decide +kernel
theorem d_Mo_cut_33 : decode b_Mo_cut 33 = .ok (.aload_n 0, 1) := by decide +kernel
theorem d_Mo_cut_34 : decode b_Mo_cut 34 = .ok (.getfield 19, 3) := by decide +kernel
theorem d_Mo_cut_37 : decode b_Mo_cut 37 = .ok (.iload_n 3, 1) := by decide +kernel
theorem d_Mo_cut_38 : decode b_Mo_cut 38 = .ok (.iaload, 1) := by decide +kernel
theorem d_Mo_cut_39 : decode b_Mo_cut 39 = .ok (.iconst 1, 1) := by decide +kernel
theorem d_Mo_cut_40 : decode b_Mo_cut 40 = .ok (.isub, 1) := by decide +kernel
theorem d_Mo_cut_41 : decode b_Mo_cut 41 = .ok (.istore 4, 2) := by decide +kernel
theorem d_Mo_cut_43 : decode b_Mo_cut 43 = .ok (.aload_n 0, 1) := by decide +kernel
theorem d_Mo_cut_44 : decode b_Mo_cut 44 = .ok (.getfield 19, 3) := by decide +kernel
theorem d_Mo_cut_47 : decode b_Mo_cut 47 = .ok (.iload_n 3, 1) := by decide +kernel
theorem d_Mo_cut_48 : decode b_Mo_cut 48 = .ok (.iconst 0, 1) := by decide +kernel
theorem d_Mo_cut_49 : decode b_Mo_cut 49 = .ok (.iastore, 1) := by decide +kernel
theorem d_Mo_cut_50 : decode b_Mo_cut 50 = .ok (.aload_n 0, 1) := by decide +kernel
theorem d_Mo_cut_51 : decode b_Mo_cut 51 = .ok (.getfield 19, 3) := by decide +kernel
theorem d_Mo_cut_54 : decode b_Mo_cut 54 = .ok (.iload 4, 2) := by decide +kernel
theorem d_Mo_cut_56 : decode b_Mo_cut 56 = .ok (.iconst 0, 1) := by decide +kernel
theorem d_Mo_cut_57 : decode b_Mo_cut 57 = .ok (.iastore, 1) := by decide +kernel
theorem d_Mo_cut_58 : decode b_Mo_cut 58 = .ok (.aload_n 0, 1) := by decide +kernel
theorem d_Mo_cut_59 : decode b_Mo_cut 59 = .ok (.iload_n 3, 1) := by decide +kernel
theorem d_Mo_cut_60 : decode b_Mo_cut 60 = .ok (.invokevirtual 202, 3) := by decide +kernel
theorem d_Mo_cut_63 : decode b_Mo_cut 63 = .ok (.aload_n 0, 1) := by decide +kernel
theorem d_Mo_cut_64 : decode b_Mo_cut 64 = .ok (.iload 4, 2) := by decide +kernel
theorem d_Mo_cut_66 : decode b_Mo_cut 66 = .ok (.invokevirtual 202, 3) := by decide +kernel
theorem d_Mo_cut_69 : decode b_Mo_cut 69 = .ok (.aload_n 0, 1) := by decide +kernel
theorem d_Mo_cut_70 : decode b_Mo_cut 70 = .ok (.iload_n 1, 1) := by decide +kernel
theorem d_Mo_cut_71 : decode b_Mo_cut 71 = .ok (.invokevirtual 163, 3) := by decide +kernel
theorem d_Mo_cut_74 : decode b_Mo_cut 74 = .ok (.aload_n 0, 1) := by decide +kernel
theorem d_Mo_cut_75 : decode b_Mo_cut 75 = .ok (.iload 4, 2) := by decide +kernel
theorem d_Mo_cut_77 : decode b_Mo_cut 77 = .ok (.iconst 4, 1) := by decide +kernel
theorem d_Mo_cut_78 : decode b_Mo_cut 78 = .ok (.idiv, 1) := by decide +kernel
theorem d_Mo_cut_79 : decode b_Mo_cut 79 = .ok (.invokevirtual 163, 3) := by decide +kernel
theorem d_Mo_cut_82 : decode b_Mo_cut 82 = .ok (.iconst 1, 1) := by decide +kernel
theorem d_Mo_cut_83 : decode b_Mo_cut 83 = .ok (.ireturn, 1) := by decide +kernel
theorem d_Mo_attach_0 : decode b_Mo_attach 0 = .ok (.iconst 4, 1) := by decide +kernel
theorem d_Mo_attach_1 : decode b_Mo_attach 1 = .ok (.iload_n 2, 1) := by decide +kernel
theorem d_Mo_attach_2 : decode b_Mo_attach 2 = .ok (.imul, 1) := by decide +kernel
theorem d_Mo_attach_3 : decode b_Mo_attach 3 = .ok (.iload_n 3, 1) := by decide +kernel
theorem d_Mo_attach_4 : decode b_Mo_attach 4 = .ok (.iadd, 1) := by decide +kernel
theorem d_Mo_attach_5 : decode b_Mo_attach 5 = .ok (.istore 5, 2) := by decide +kernel
theorem d_Mo_attach_7 : decode b_Mo_attach 7 = .ok (.aload_n 0, 1) := by decide +kernel
theorem d_Mo_attach_8 : decode b_Mo_attach 8 = .ok (.iload_n 1, 1) := by decide +kernel
theorem d_Mo_attach_9 : decode b_Mo_attach 9 = .ok (.ifCond .lt 17, 3) := by decide +kernel
theorem d_Mo_attach_12 : decode b_Mo_attach 12 = .ok (.iload_n 1, 1) := by decide +kernel
theorem d_Mo_attach_13 : decode b_Mo_attach 13 = .ok (.bipush 7, 2) := by decide +kernel
theorem d_Mo_attach_15 : decode b_Mo_attach 15 = .ok (.if_icmp .gt 11, 3) := by decide +kernel
theorem d_Mo_attach_18 : decode b_Mo_attach 18 = .ok (.iload_n 2, 1) := by decide +kernel
theorem d_Mo_attach_19 : decode b_Mo_attach 19 = .ok (.iload_n 3, 1) := by decide +kernel
theorem d_Mo_attach_20 : decode b_Mo_attach 20 = .ok (.invokestatic 178, 3) := by decide +kernel
theorem d_Mo_attach_23 : decode b_Mo_attach 23 = .ok (.ifCond .ne 7, 3) := by decide +kernel
theorem d_Mo_attach_26 : decode b_Mo_attach 26 = .ok (.iconst 1, 1) := by decide +kernel
theorem d_Mo_attach_27 : decode b_Mo_attach 27 = .ok (.goto 34, 3) := by decide +kernel
theorem d_Mo_attach_30 : decode b_Mo_attach 30 = .ok (.iload 4, 2) := by decide +kernel
theorem d_Mo_attach_32 : decode b_Mo_attach 32 = .ok (.iconst 1, 1) := by decide +kernel
theorem d_Mo_attach_33 : decode b_Mo_attach 33 = .ok (.if_icmp .lt 9, 3) := by decide +kernel
theorem d_Mo_attach_36 : decode b_Mo_attach 36 = .ok (.iload 4, 2) := by decide +kernel
theorem d_Mo_attach_38 : decode b_Mo_attach 38 = .ok (.iconst 2, 1) := by decide +kernel
theorem d_Mo_attach_39 : decode b_Mo_attach 39 = .ok (.if_icmp .le 7, 3) := by decide +kernel
theorem d_Mo_attach_42 : decode b_Mo_attach 42 = .ok (.iconst 2, 1) := by decide +kernel
theorem d_Mo_attach_43 : decode b_Mo_attach 43 = .ok (.goto 18, 3) := by decide +kernel
theorem d_Mo_attach_46 : decode b_Mo_attach 46 = .ok (.aload_n 0, 1) := by decide +kernel
theorem d_Mo_attach_47 : decode b_Mo_attach 47 = .ok (.getfield 19, 3) := by decide +kernel
theorem d_Mo_attach_50 : decode b_Mo_attach 50 = .ok (.iload 5, 2) := by decide +kernel
theorem d_Mo_attach_52 : decode b_Mo_attach 52 = .ok (.iaload, 1) := by decide +kernel
theorem d_Mo_attach_53 : decode b_Mo_attach 53 = .ok (.ifCond .eq 7, 3) := by decide +kernel
theorem d_Mo_attach_56 : decode b_Mo_attach 56 = .ok (.iconst 3, 1) := by decide +kernel
theorem d_Mo_attach_57 : decode b_Mo_attach 57 = .ok (.goto 4, 3) := by decide +kernel
theorem d_Mo_attach_60 : decode b_Mo_attach 60 = .ok (.iconst 0, 1) := by decide +kernel
theorem d_Mo_attach_61 : decode b_Mo_attach 61 = .ok (.putfield 108, 3) := by decide +kernel
theorem d_Mo_attach_64 : decode b_Mo_attach 64 = .ok (.aload_n 0, 1) := by decide +kernel
theorem d_Mo_attach_65 : decode b_Mo_attach 65 = .ok (.getfield 108, 3) := by decide +kernel
theorem d_Mo_attach_68 : decode b_Mo_attach 68 = .ok (.ifCond .eq 4, 3) := by decide +kernel
theorem d_Mo_attach_71 : decode b_Mo_attach 71 = .ok (.return_, 1) := by decide +kernel
theorem d_Mo_attach_72 : decode b_Mo_attach 72 = .ok (.aload_n 0, 1) := by decide +kernel
theorem d_Mo_attach_73 : decode b_Mo_attach 73 = .ok (.getfield 90, 3) := by decide +kernel
theorem d_Mo_attach_76 : decode b_Mo_attach 76 = .ok (.iload_n 1, 1) := by decide +kernel
theorem d_Mo_attach_77 : decode b_Mo_attach 77 = .ok (.iaload, 1) := by decide +kernel
theorem d_Mo_attach_78 : decode b_Mo_attach 78 = .ok (.ifCond .lt 33, 3) := by decide +kernel
theorem d_Mo_attach_81 : decode b_Mo_attach 81 = .ok (.aload_n 0, 1) := by decide +kernel
theorem d_Mo_attach_82 : decode b_Mo_attach 82 = .ok (.getfield 90, 3) := by decide +kernel
theorem d_Mo_attach_85 : decode b_Mo_attach 85 = .ok (.iload_n 1, 1) := by decide +kernel
theorem d_Mo_attach_86 : decode b_Mo_attach 86 = .ok (.iaload, 1) := by decide +kernel
theorem d_Mo_attach_87 : decode b_Mo_attach 87 = .ok (.istore 6, 2) := by decide +kernel
theorem d_Mo_attach_89 : decode b_Mo_attach 89 = .ok (.aload_n 0, 1) := by decide +kernel
theorem d_Mo_attach_90 : decode b_Mo_attach 90 = .ok (.getfield 19, 3) := by decide +kernel
theorem d_Mo_attach_93 : decode b_Mo_attach 93 = .ok (.iload 6, 2) := by decide +kernel
theorem d_Mo_attach_95 : decode b_Mo_attach 95 = .ok (.iconst 0, 1) := by decide +kernel
theorem d_Mo_attach_96 : decode b_Mo_attach 96 = .ok (.iastore, 1) := by decide +kernel
theorem d_Mo_attach_97 : decode b_Mo_attach 97 = .ok (.aload_n 0, 1) := by decide +kernel
theorem d_Mo_attach_98 : decode b_Mo_attach 98 = .ok (.iload 6, 2) := by decide +kernel
theorem d_Mo_attach_100 : decode b_Mo_attach 100 = .ok (.invokevirtual 202, 3) := by decide +kernel
theorem d_Mo_attach_103 : decode b_Mo_attach 103 = .ok (.aload_n 0, 1) := by decide +kernel
theorem d_Mo_attach_104 : decode b_Mo_attach 104 = .ok (.iload 6, 2) := by decide +kernel
theorem d_Mo_attach_106 : decode b_Mo_attach 106 = .ok (.iconst 4, 1) := by decide +kernel
theorem d_Mo_attach_107 : decode b_Mo_attach 107 = .ok (.idiv, 1) := by decide +kernel
theorem d_Mo_attach_108 : decode b_Mo_attach 108 = .ok (.invokevirtual 163, 3) := by decide +kernel
theorem d_Mo_attach_111 : decode b_Mo_attach 111 = .ok (.aload_n 0, 1) := by decide +kernel
theorem d_Mo_attach_112 : decode b_Mo_attach 112 = .ok (.getfield 90, 3) := by decide +kernel
theorem d_Mo_attach_115 : decode b_Mo_attach 115 = .ok (.iload_n 1, 1) := by decide +kernel
theorem d_Mo_attach_116 : decode b_Mo_attach 116 = .ok (.iload 5, 2) := by decide +kernel
theorem d_Mo_attach_118 : decode b_Mo_attach 118 = .ok (.iastore, 1) := by decide +kernel
theorem d_Mo_attach_119 : decode b_Mo_attach 119 = .ok (.aload_n 0, 1) := by decide +kernel
theorem d_Mo_attach_120 : decode b_Mo_attach 120 = .ok (.getfield 93, 3) := by decide +kernel
theorem d_Mo_attach_123 : decode b_Mo_attach 123 = .ok (.iload_n 1, 1) := by decide +kernel
theorem d_Mo_attach_124 : decode b_Mo_attach 124 = .ok (.iload 4, 2) := by decide +kernel
theorem d_Mo_attach_126 : decode b_Mo_attach 126 = .ok (.iastore, 1) := by decide +kernel
theorem d_Mo_attach_127 : decode b_Mo_attach 127 = .ok (.aload_n 0, 1) := by decide +kernel
theorem d_Mo_attach_128 : decode b_Mo_attach 128 = .ok (.getfield 19, 3) := by decide +kernel
theorem d_Mo_attach_131 : decode b_Mo_attach 131 = .ok (.iload 5, 2) := by decide +kernel
theorem d_Mo_attach_133 : decode b_Mo_attach 133 = .ok (.bipush 100, 2) := by decide +kernel
theorem d_Mo_attach_135 : decode b_Mo_attach 135 = .ok (.iload_n 1, 1) := by decide +kernel
theorem d_Mo_attach_136 : decode b_Mo_attach 136 = .ok (.iadd, 1) := by decide +kernel
theorem d_Mo_attach_137 : decode b_Mo_attach 137 = .ok (.iastore, 1) := by decide +kernel
theorem d_Mo_attach_138 : decode b_Mo_attach 138 = .ok (.aload_n 0, 1) := by decide +kernel
theorem d_Mo_attach_139 : decode b_Mo_attach 139 = .ok (.iload 5, 2) := by decide +kernel
theorem d_Mo_attach_141 : decode b_Mo_attach 141 = .ok (.invokevirtual 202, 3) := by decide +kernel
theorem d_Mo_attach_144 : decode b_Mo_attach 144 = .ok (.aload_n 0, 1) := by decide +kernel
theorem d_Mo_attach_145 : decode b_Mo_attach 145 = .ok (.iload_n 2, 1) := by decide +kernel
theorem d_Mo_attach_146 : decode b_Mo_attach 146 = .ok (.invokevirtual 163, 3) := by decide +kernel
theorem d_Mo_attach_149 : decode b_Mo_attach 149 = .ok (.return_, 1) := by decide +kernel
theorem d_Mo_send_0 : decode b_Mo_send 0 = .ok (.iload_n 1, 1) := by decide +kernel
theorem d_Mo_send_1 : decode b_Mo_send 1 = .ok (.ifCond .lt 9, 3) := by decide +kernel
theorem d_Mo_send_4 : decode b_Mo_send 4 = .ok (.iload_n 1, 1) := by decide +kernel
theorem d_Mo_send_5 : decode b_Mo_send 5 = .ok (.bipush 7, 2) := by decide +kernel
theorem d_Mo_send_7 : decode b_Mo_send 7 = .ok (.if_icmp .le 9, 3) := by decide +kernel
theorem d_Mo_send_10 : decode b_Mo_send 10 = .ok (.aload_n 0, 1) := by decide +kernel
theorem d_Mo_send_11 : decode b_Mo_send 11 = .ok (.iconst 1, 1) := by decide +kernel
theorem d_Mo_send_12 : decode b_Mo_send 12 = .ok (.invokevirtual 181, 3) := by decide +kernel
theorem d_Mo_send_15 : decode b_Mo_send 15 = .ok (.ireturn, 1) := by decide +kernel
theorem d_Mo_send_16 : decode b_Mo_send 16 = .ok (.aload_n 0, 1) := by decide +kernel
theorem d_Mo_send_17 : decode b_Mo_send 17 = .ok (.getfield 90, 3) := by decide +kernel
theorem d_Mo_send_20 : decode b_Mo_send 20 = .ok (.iload_n 1, 1) := by decide +kernel
theorem d_Mo_send_21 : decode b_Mo_send 21 = .ok (.iaload, 1) := by decide +kernel
theorem d_Mo_send_22 : decode b_Mo_send 22 = .ok (.ifCond .ge 9, 3) := by decide +kernel
theorem d_Mo_send_25 : decode b_Mo_send 25 = .ok (.aload_n 0, 1) := by decide +kernel
theorem d_Mo_send_26 : decode b_Mo_send 26 = .ok (.iconst 2, 1) := by decide +kernel
theorem d_Mo_send_27 : decode b_Mo_send 27 = .ok (.invokevirtual 181, 3) := by decide +kernel
theorem d_Mo_send_30 : decode b_Mo_send 30 = .ok (.ireturn, 1) := by decide +kernel
theorem d_Mo_send_31 : decode b_Mo_send 31 = .ok (.iload_n 2, 1) := by decide +kernel
theorem d_Mo_send_32 : decode b_Mo_send 32 = .ok (.ifCond .lt 9, 3) := by decide +kernel
theorem d_Mo_send_35 : decode b_Mo_send 35 = .ok (.iload_n 2, 1) := by decide +kernel
theorem d_Mo_send_36 : decode b_Mo_send 36 = .ok (.bipush 9, 2) := by decide +kernel
theorem d_Mo_send_38 : decode b_Mo_send 38 = .ok (.if_icmp .le 9, 3) := by decide +kernel
theorem d_Mo_send_41 : decode b_Mo_send 41 = .ok (.aload_n 0, 1) := by decide +kernel
theorem d_Mo_send_42 : decode b_Mo_send 42 = .ok (.iconst 3, 1) := by decide +kernel
theorem d_Mo_send_43 : decode b_Mo_send 43 = .ok (.invokevirtual 181, 3) := by decide +kernel
theorem d_Mo_send_46 : decode b_Mo_send 46 = .ok (.ireturn, 1) := by decide +kernel
theorem d_Mo_send_47 : decode b_Mo_send 47 = .ok (.aload_n 0, 1) := by decide +kernel
theorem d_Mo_send_48 : decode b_Mo_send 48 = .ok (.iconst 0, 1) := by decide +kernel
theorem d_Mo_send_49 : decode b_Mo_send 49 = .ok (.putfield 108, 3) := by decide +kernel
theorem d_Mo_send_52 : decode b_Mo_send 52 = .ok (.aload_n 0, 1) := by decide +kernel
theorem d_Mo_send_53 : decode b_Mo_send 53 = .ok (.getfield 51, 3) := by decide +kernel
theorem d_Mo_send_56 : decode b_Mo_send 56 = .ok (.sipush 240, 3) := by decide +kernel
theorem d_Mo_send_59 : decode b_Mo_send 59 = .ok (.iconst 3, 1) := by decide +kernel
theorem d_Mo_send_60 : decode b_Mo_send 60 = .ok (.iastore, 1) := by decide +kernel
theorem d_Mo_send_61 : decode b_Mo_send 61 = .ok (.aload_n 0, 1) := by decide +kernel
theorem d_Mo_send_62 : decode b_Mo_send 62 = .ok (.getfield 63, 3) := by decide +kernel
theorem d_Mo_send_65 : decode b_Mo_send 65 = .ok (.sipush 240, 3) := by decide +kernel
theorem d_Mo_send_68 : decode b_Mo_send 68 = .ok (.iload_n 1, 1) := by decide +kernel
theorem d_Mo_send_69 : decode b_Mo_send 69 = .ok (.iastore, 1) := by decide +kernel
theorem d_Mo_send_70 : decode b_Mo_send 70 = .ok (.aload_n 0, 1) := by decide +kernel
theorem d_Mo_send_71 : decode b_Mo_send 71 = .ok (.getfield 66, 3) := by decide +kernel
theorem d_Mo_send_74 : decode b_Mo_send 74 = .ok (.sipush 240, 3) := by decide +kernel
theorem d_Mo_send_77 : decode b_Mo_send 77 = .ok (.iload_n 2, 1) := by decide +kernel
theorem d_Mo_send_78 : decode b_Mo_send 78 = .ok (.iastore, 1) := by decide +kernel
theorem d_Mo_send_79 : decode b_Mo_send 79 = .ok (.aload_n 0, 1) := by decide +kernel
theorem d_Mo_send_80 : decode b_Mo_send 80 = .ok (.getfield 69, 3) := by decide +kernel
theorem d_Mo_send_83 : decode b_Mo_send 83 = .ok (.sipush 240, 3) := by decide +kernel
theorem d_Mo_send_86 : decode b_Mo_send 86 = .ok (.aload_n 0, 1) := by decide +kernel
theorem d_Mo_send_87 : decode b_Mo_send 87 = .ok (.getfield 93, 3) := by decide +kernel
theorem d_Mo_send_90 : decode b_Mo_send 90 = .ok (.iload_n 1, 1) := by decide +kernel
theorem d_Mo_send_91 : decode b_Mo_send 91 = .ok (.iaload, 1) := by decide +kernel
theorem d_Mo_send_92 : decode b_Mo_send 92 = .ok (.iastore, 1) := by decide +kernel
theorem d_Mo_send_93 : decode b_Mo_send 93 = .ok (.aload_n 0, 1) := by decide +kernel
theorem d_Mo_send_94 : decode b_Mo_send 94 = .ok (.getfield 72, 3) := by decide +kernel
theorem d_Mo_send_97 : decode b_Mo_send 97 = .ok (.sipush 240, 3) := by decide +kernel
theorem d_Mo_send_100 : decode b_Mo_send 100 = .ok (.iload_n 3, 1) := by decide +kernel
theorem d_Mo_send_101 : decode b_Mo_send 101 = .ok (.iastore, 1) := by decide +kernel
theorem d_Mo_send_102 : decode b_Mo_send 102 = .ok (.aload_n 0, 1) := by decide +kernel
theorem d_Mo_send_103 : decode b_Mo_send 103 = .ok (.aload_n 0, 1) := by decide +kernel
theorem d_Mo_send_104 : decode b_Mo_send 104 = .ok (.getfield 90, 3) := by decide +kernel
theorem d_Mo_send_107 : decode b_Mo_send 107 = .ok (.iload_n 1, 1) := by decide +kernel
theorem d_Mo_send_108 : decode b_Mo_send 108 = .ok (.iaload, 1) := by decide +kernel
theorem d_Mo_send_109 : decode b_Mo_send 109 = .ok (.invokevirtual 193, 3) := by decide +kernel
theorem d_Mo_send_112 : decode b_Mo_send 112 = .ok (.ireturn, 1) := by decide +kernel
theorem d_Mo_port_0 : decode b_Mo_port 0 = .ok (.aload_n 0, 1) := by decide +kernel
theorem d_Mo_port_1 : decode b_Mo_port 1 = .ok (.iconst 0, 1) := by decide +kernel
theorem d_Mo_port_2 : decode b_Mo_port 2 = .ok (.putfield 108, 3) := by decide +kernel
theorem d_Mo_port_5 : decode b_Mo_port 5 = .ok (.iload_n 1, 1) := by decide +kernel
theorem d_Mo_port_6 : decode b_Mo_port 6 = .ok (.iload_n 2, 1) := by decide +kernel
theorem d_Mo_port_7 : decode b_Mo_port 7 = .ok (.invokestatic 178, 3) := by decide +kernel
theorem d_Mo_port_10 : decode b_Mo_port 10 = .ok (.ifCond .ne 5, 3) := by decide +kernel
theorem d_Mo_port_13 : decode b_Mo_port 13 = .ok (.iconst (-1), 1) := by decide +kernel
theorem d_Mo_port_14 : decode b_Mo_port 14 = .ok (.ireturn, 1) := by decide +kernel
theorem d_Mo_port_15 : decode b_Mo_port 15 = .ok (.iconst 4, 1) := by decide +kernel
theorem d_Mo_port_16 : decode b_Mo_port 16 = .ok (.iload_n 1, 1) := by decide +kernel
theorem d_Mo_port_17 : decode b_Mo_port 17 = .ok (.imul, 1) := by decide +kernel
theorem d_Mo_port_18 : decode b_Mo_port 18 = .ok (.iload_n 2, 1) := by decide +kernel
theorem d_Mo_port_19 : decode b_Mo_port 19 = .ok (.iadd, 1) := by decide +kernel
theorem d_Mo_port_20 : decode b_Mo_port 20 = .ok (.istore_n 3, 1) := by decide +kernel
theorem d_Mo_port_21 : decode b_Mo_port 21 = .ok (.aload_n 0, 1) := by decide +kernel
theorem d_Mo_port_22 : decode b_Mo_port 22 = .ok (.getfield 22, 3) := by decide +kernel
theorem d_Mo_port_25 : decode b_Mo_port 25 = .ok (.iload_n 3, 1) := by decide +kernel
theorem d_Mo_port_26 : decode b_Mo_port 26 = .ok (.iaload, 1) := by decide +kernel
theorem d_Mo_port_27 : decode b_Mo_port 27 = .ok (.iconst 4, 1) := by decide +kernel
theorem d_Mo_port_28 : decode b_Mo_port 28 = .ok (.aload_n 0, 1) := by decide +kernel
theorem d_Mo_port_29 : decode b_Mo_port 29 = .ok (.getfield 25, 3) := by decide +kernel
theorem d_Mo_port_32 : decode b_Mo_port 32 = .ok (.iload_n 3, 1) := by decide +kernel
theorem d_Mo_port_33 : decode b_Mo_port 33 = .ok (.iaload, 1) := by decide +kernel
theorem d_Mo_port_34 : decode b_Mo_port 34 = .ok (.imul, 1) := by decide +kernel
theorem d_Mo_port_35 : decode b_Mo_port 35 = .ok (.iadd, 1) := by decide +kernel
theorem d_Mo_port_36 : decode b_Mo_port 36 = .ok (.aload_n 0, 1) := by decide +kernel
theorem d_Mo_port_37 : decode b_Mo_port 37 = .ok (.getfield 28, 3) := by decide +kernel
theorem d_Mo_port_40 : decode b_Mo_port 40 = .ok (.iload_n 3, 1) := by decide +kernel
theorem d_Mo_port_41 : decode b_Mo_port 41 = .ok (.baload, 1) := by decide +kernel
theorem d_Mo_port_42 : decode b_Mo_port 42 = .ok (.ifCond .eq 8, 3) := by decide +kernel
theorem d_Mo_port_45 : decode b_Mo_port 45 = .ok (.bipush 16, 2) := by decide +kernel
theorem d_Mo_port_47 : decode b_Mo_port 47 = .ok (.goto 4, 3) := by decide +kernel
theorem d_Mo_port_50 : decode b_Mo_port 50 = .ok (.iconst 0, 1) := by decide +kernel
theorem d_Mo_port_51 : decode b_Mo_port 51 = .ok (.iadd, 1) := by decide +kernel
theorem d_Mo_port_52 : decode b_Mo_port 52 = .ok (.aload_n 0, 1) := by decide +kernel
theorem d_Mo_port_53 : decode b_Mo_port 53 = .ok (.getfield 32, 3) := by decide +kernel
theorem d_Mo_port_56 : decode b_Mo_port 56 = .ok (.iload_n 3, 1) := by decide +kernel
theorem d_Mo_port_57 : decode b_Mo_port 57 = .ok (.baload, 1) := by decide +kernel
theorem d_Mo_port_58 : decode b_Mo_port 58 = .ok (.ifCond .eq 8, 3) := by decide +kernel
theorem d_Mo_port_61 : decode b_Mo_port 61 = .ok (.bipush 32, 2) := by decide +kernel
theorem d_Mo_port_63 : decode b_Mo_port 63 = .ok (.goto 4, 3) := by decide +kernel
theorem d_Mo_port_66 : decode b_Mo_port 66 = .ok (.iconst 0, 1) := by decide +kernel
theorem d_Mo_port_67 : decode b_Mo_port 67 = .ok (.iadd, 1) := by decide +kernel
theorem d_Mo_port_68 : decode b_Mo_port 68 = .ok (.bipush 64, 2) := by decide +kernel
theorem d_Mo_port_70 : decode b_Mo_port 70 = .ok (.aload_n 0, 1) := by decide +kernel
theorem d_Mo_port_71 : decode b_Mo_port 71 = .ok (.getfield 35, 3) := by decide +kernel
theorem d_Mo_port_74 : decode b_Mo_port 74 = .ok (.iload_n 3, 1) := by decide +kernel
theorem d_Mo_port_75 : decode b_Mo_port 75 = .ok (.iaload, 1) := by decide +kernel
theorem d_Mo_port_76 : decode b_Mo_port 76 = .ok (.imul, 1) := by decide +kernel
theorem d_Mo_port_77 : decode b_Mo_port 77 = .ok (.iadd, 1) := by decide +kernel
theorem d_Mo_port_78 : decode b_Mo_port 78 = .ok (.ireturn, 1) := by decide +kernel
theorem d_Mo_root_0 : decode b_Mo_root 0 = .ok (.aload_n 0, 1) := by decide +kernel
theorem d_Mo_root_1 : decode b_Mo_root 1 = .ok (.iconst 0, 1) := by decide +kernel
theorem d_Mo_root_2 : decode b_Mo_root 2 = .ok (.putfield 108, 3) := by decide +kernel
theorem d_Mo_root_5 : decode b_Mo_root 5 = .ok (.iload_n 1, 1) := by decide +kernel
theorem d_Mo_root_6 : decode b_Mo_root 6 = .ok (.invokestatic 112, 3) := by decide +kernel
theorem d_Mo_root_9 : decode b_Mo_root 9 = .ok (.ifCond .eq 43, 3) := by decide +kernel
theorem d_Mo_root_12 : decode b_Mo_root 12 = .ok (.aload_n 0, 1) := by decide +kernel
theorem d_Mo_root_13 : decode b_Mo_root 13 = .ok (.getfield 75, 3) := by decide +kernel
theorem d_Mo_root_16 : decode b_Mo_root 16 = .ok (.iload_n 1, 1) := by decide +kernel
theorem d_Mo_root_17 : decode b_Mo_root 17 = .ok (.laload, 1) := by decide +kernel
theorem d_Mo_root_18 : decode b_Mo_root 18 = .ok (.invokestatic 118, 3) := by decide +kernel
theorem d_Mo_root_21 : decode b_Mo_root 21 = .ok (.i2l, 1) := by decide +kernel
theorem d_Mo_root_22 : decode b_Mo_root 22 = .ok (.ldc2_w 205, 3) := by decide +kernel
theorem d_Mo_root_25 : decode b_Mo_root 25 = .ok (.aload_n 0, 1) := by decide +kernel
theorem d_Mo_root_26 : decode b_Mo_root 26 = .ok (.getfield 75, 3) := by decide +kernel
theorem d_Mo_root_29 : decode b_Mo_root 29 = .ok (.iload_n 1, 1) := by decide +kernel
theorem d_Mo_root_30 : decode b_Mo_root 30 = .ok (.laload, 1) := by decide +kernel
theorem d_Mo_root_31 : decode b_Mo_root 31 = .ok (.invokestatic 122, 3) := by decide +kernel
theorem d_Mo_root_34 : decode b_Mo_root 34 = .ok (.i2l, 1) := by decide +kernel
theorem d_Mo_root_35 : decode b_Mo_root 35 = .ok (.lmul, 1) := by decide +kernel
theorem d_Mo_root_36 : decode b_Mo_root 36 = .ok (.ladd, 1) := by decide +kernel
theorem d_Mo_root_37 : decode b_Mo_root 37 = .ok (.ldc2_w 207, 3) := by decide +kernel
theorem d_Mo_root_40 : decode b_Mo_root 40 = .ok (.aload_n 0, 1) := by decide +kernel
theorem d_Mo_root_41 : decode b_Mo_root 41 = .ok (.getfield 78, 3) := by decide +kernel
theorem d_Mo_root_44 : decode b_Mo_root 44 = .ok (.iload_n 1, 1) := by decide +kernel
theorem d_Mo_root_45 : decode b_Mo_root 45 = .ok (.iaload, 1) := by decide +kernel
theorem d_Mo_root_46 : decode b_Mo_root 46 = .ok (.i2l, 1) := by decide +kernel
theorem d_Mo_root_47 : decode b_Mo_root 47 = .ok (.lmul, 1) := by decide +kernel
theorem d_Mo_root_48 : decode b_Mo_root 48 = .ok (.ladd, 1) := by decide +kernel
theorem d_Mo_root_49 : decode b_Mo_root 49 = .ok (.goto 6, 3) := by decide +kernel
theorem d_Mo_root_52 : decode b_Mo_root 52 = .ok (.ldc2_w 209, 3) := by decide +kernel
theorem d_Mo_root_55 : decode b_Mo_root 55 = .ok (.lreturn, 1) := by decide +kernel
theorem d_Mo_info_0 : decode b_Mo_info 0 = .ok (.aload_n 0, 1) := by decide +kernel
theorem d_Mo_info_1 : decode b_Mo_info 1 = .ok (.iconst 0, 1) := by decide +kernel
theorem d_Mo_info_2 : decode b_Mo_info 2 = .ok (.putfield 108, 3) := by decide +kernel
theorem d_Mo_info_5 : decode b_Mo_info 5 = .ok (.iload_n 1, 1) := by decide +kernel
theorem d_Mo_info_6 : decode b_Mo_info 6 = .ok (.iload_n 2, 1) := by decide +kernel
theorem d_Mo_info_7 : decode b_Mo_info 7 = .ok (.invokestatic 178, 3) := by decide +kernel
theorem d_Mo_info_10 : decode b_Mo_info 10 = .ok (.ifCond .eq 16, 3) := by decide +kernel
theorem d_Mo_info_13 : decode b_Mo_info 13 = .ok (.aload_n 0, 1) := by decide +kernel
theorem d_Mo_info_14 : decode b_Mo_info 14 = .ok (.getfield 45, 3) := by decide +kernel
theorem d_Mo_info_17 : decode b_Mo_info 17 = .ok (.iconst 4, 1) := by decide +kernel
theorem d_Mo_info_18 : decode b_Mo_info 18 = .ok (.iload_n 1, 1) := by decide +kernel
theorem d_Mo_info_19 : decode b_Mo_info 19 = .ok (.imul, 1) := by decide +kernel
theorem d_Mo_info_20 : decode b_Mo_info 20 = .ok (.iload_n 2, 1) := by decide +kernel
theorem d_Mo_info_21 : decode b_Mo_info 21 = .ok (.iadd, 1) := by decide +kernel
theorem d_Mo_info_22 : decode b_Mo_info 22 = .ok (.iaload, 1) := by decide +kernel
theorem d_Mo_info_23 : decode b_Mo_info 23 = .ok (.ifCond .ne 7, 3) := by decide +kernel
theorem d_Mo_info_26 : decode b_Mo_info 26 = .ok (.ldc2_w 209, 3) := by decide +kernel
theorem d_Mo_info_29 : decode b_Mo_info 29 = .ok (.lreturn, 1) := by decide +kernel
theorem d_Mo_info_30 : decode b_Mo_info 30 = .ok (.iconst 4, 1) := by decide +kernel
theorem d_Mo_info_31 : decode b_Mo_info 31 = .ok (.iload_n 1, 1) := by decide +kernel
theorem d_Mo_info_32 : decode b_Mo_info 32 = .ok (.imul, 1) := by decide +kernel
theorem d_Mo_info_33 : decode b_Mo_info 33 = .ok (.iload_n 2, 1) := by decide +kernel
theorem d_Mo_info_34 : decode b_Mo_info 34 = .ok (.iadd, 1) := by decide +kernel
theorem d_Mo_info_35 : decode b_Mo_info 35 = .ok (.istore_n 3, 1) := by decide +kernel
theorem d_Mo_info_36 : decode b_Mo_info 36 = .ok (.aload_n 0, 1) := by decide +kernel
theorem d_Mo_info_37 : decode b_Mo_info 37 = .ok (.getfield 38, 3) := by decide +kernel
theorem d_Mo_info_40 : decode b_Mo_info 40 = .ok (.iload_n 3, 1) := by decide +kernel
theorem d_Mo_info_41 : decode b_Mo_info 41 = .ok (.laload, 1) := by decide +kernel
theorem d_Mo_info_42 : decode b_Mo_info 42 = .ok (.lstore 4, 2) := by decide +kernel
theorem d_Mo_info_44 : decode b_Mo_info 44 = .ok (.lload 4, 2) := by decide +kernel
theorem d_Mo_info_46 : decode b_Mo_info 46 = .ok (.invokestatic 148, 3) := by decide +kernel
theorem d_Mo_info_49 : decode b_Mo_info 49 = .ok (.bipush 8, 2) := by decide +kernel
theorem d_Mo_info_51 : decode b_Mo_info 51 = .ok (.ishr, 1) := by decide +kernel
theorem d_Mo_info_52 : decode b_Mo_info 52 = .ok (.i2l, 1) := by decide +kernel
theorem d_Mo_info_53 : decode b_Mo_info 53 = .ok (.lstore 6, 2) := by decide +kernel
theorem d_Mo_info_55 : decode b_Mo_info 55 = .ok (.lload 4, 2) := by decide +kernel
theorem d_Mo_info_57 : decode b_Mo_info 57 = .ok (.invokestatic 118, 3) := by decide +kernel
theorem d_Mo_info_60 : decode b_Mo_info 60 = .ok (.i2l, 1) := by decide +kernel
theorem d_Mo_info_61 : decode b_Mo_info 61 = .ok (.ldc2_w 205, 3) := by decide +kernel
theorem d_Mo_info_64 : decode b_Mo_info 64 = .ok (.lload 4, 2) := by decide +kernel
theorem d_Mo_info_66 : decode b_Mo_info 66 = .ok (.invokestatic 122, 3) := by decide +kernel
theorem d_Mo_info_69 : decode b_Mo_info 69 = .ok (.i2l, 1) := by decide +kernel
theorem d_Mo_info_70 : decode b_Mo_info 70 = .ok (.lmul, 1) := by decide +kernel
theorem d_Mo_info_71 : decode b_Mo_info 71 = .ok (.ladd, 1) := by decide +kernel
theorem d_Mo_info_72 : decode b_Mo_info 72 = .ok (.lload 6, 2) := by decide +kernel
theorem d_Mo_info_74 : decode b_Mo_info 74 = .ok (.bipush 24, 2) := by decide +kernel
theorem d_Mo_info_76 : decode b_Mo_info 76 = .ok (.lshl, 1) := by decide +kernel
theorem d_Mo_info_77 : decode b_Mo_info 77 = .ok (.ladd, 1) := by decide +kernel
theorem d_Mo_info_78 : decode b_Mo_info 78 = .ok (.lload 4, 2) := by decide +kernel
theorem d_Mo_info_80 : decode b_Mo_info 80 = .ok (.ldc2_w 211, 3) := by decide +kernel
theorem d_Mo_info_83 : decode b_Mo_info 83 = .ok (.land, 1) := by decide +kernel
theorem d_Mo_info_84 : decode b_Mo_info 84 = .ok (.bipush 32, 2) := by decide +kernel
theorem d_Mo_info_86 : decode b_Mo_info 86 = .ok (.lshl, 1) := by decide +kernel
theorem d_Mo_info_87 : decode b_Mo_info 87 = .ok (.ladd, 1) := by decide +kernel
theorem d_Mo_info_88 : decode b_Mo_info 88 = .ok (.aload_n 0, 1) := by decide +kernel
theorem d_Mo_info_89 : decode b_Mo_info 89 = .ok (.getfield 42, 3) := by decide +kernel
theorem d_Mo_info_92 : decode b_Mo_info 92 = .ok (.iload_n 3, 1) := by decide +kernel
theorem d_Mo_info_93 : decode b_Mo_info 93 = .ok (.iaload, 1) := by decide +kernel
theorem d_Mo_info_94 : decode b_Mo_info 94 = .ok (.i2l, 1) := by decide +kernel
theorem d_Mo_info_95 : decode b_Mo_info 95 = .ok (.bipush 40, 2) := by decide +kernel
theorem d_Mo_info_97 : decode b_Mo_info 97 = .ok (.lshl, 1) := by decide +kernel
theorem d_Mo_info_98 : decode b_Mo_info 98 = .ok (.ladd, 1) := by decide +kernel
theorem d_Mo_info_99 : decode b_Mo_info 99 = .ok (.aload_n 0, 1) := by decide +kernel
theorem d_Mo_info_100 : decode b_Mo_info 100 = .ok (.getfield 45, 3) := by decide +kernel
theorem d_Mo_info_103 : decode b_Mo_info 103 = .ok (.iload_n 3, 1) := by decide +kernel
theorem d_Mo_info_104 : decode b_Mo_info 104 = .ok (.iaload, 1) := by decide +kernel
theorem d_Mo_info_105 : decode b_Mo_info 105 = .ok (.i2l, 1) := by decide +kernel
theorem d_Mo_info_106 : decode b_Mo_info 106 = .ok (.bipush 48, 2) := by decide +kernel
theorem d_Mo_info_108 : decode b_Mo_info 108 = .ok (.lshl, 1) := by decide +kernel
theorem d_Mo_info_109 : decode b_Mo_info 109 = .ok (.ladd, 1) := by decide +kernel
theorem d_Mo_info_110 : decode b_Mo_info 110 = .ok (.lreturn, 1) := by decide +kernel
theorem d_Mo_learned_0 : decode b_Mo_learned 0 = .ok (.aload_n 0, 1) := by decide +kernel
theorem d_Mo_learned_1 : decode b_Mo_learned 1 = .ok (.iconst 0, 1) := by decide +kernel
theorem d_Mo_learned_2 : decode b_Mo_learned 2 = .ok (.putfield 108, 3) := by decide +kernel
theorem d_Mo_learned_5 : decode b_Mo_learned 5 = .ok (.iload_n 1, 1) := by decide +kernel
theorem d_Mo_learned_6 : decode b_Mo_learned 6 = .ok (.invokestatic 112, 3) := by decide +kernel
theorem d_Mo_learned_9 : decode b_Mo_learned 9 = .ok (.ifCond .eq 23, 3) := by decide +kernel
theorem d_Mo_learned_12 : decode b_Mo_learned 12 = .ok (.iload_n 2, 1) := by decide +kernel
theorem d_Mo_learned_13 : decode b_Mo_learned 13 = .ok (.ifCond .lt 19, 3) := by decide +kernel
theorem d_Mo_learned_16 : decode b_Mo_learned 16 = .ok (.iload_n 2, 1) := by decide +kernel
theorem d_Mo_learned_17 : decode b_Mo_learned 17 = .ok (.bipush 7, 2) := by decide +kernel
theorem d_Mo_learned_19 : decode b_Mo_learned 19 = .ok (.if_icmp .gt 13, 3) := by decide +kernel
theorem d_Mo_learned_22 : decode b_Mo_learned 22 = .ok (.iload_n 3, 1) := by decide +kernel
theorem d_Mo_learned_23 : decode b_Mo_learned 23 = .ok (.iconst 1, 1) := by decide +kernel
theorem d_Mo_learned_24 : decode b_Mo_learned 24 = .ok (.if_icmp .lt 8, 3) := by decide +kernel
theorem d_Mo_learned_27 : decode b_Mo_learned 27 = .ok (.iload_n 3, 1) := by decide +kernel
theorem d_Mo_learned_28 : decode b_Mo_learned 28 = .ok (.iconst 2, 1) := by decide +kernel
theorem d_Mo_learned_29 : decode b_Mo_learned 29 = .ok (.if_icmp .le 5, 3) := by decide +kernel
theorem d_Mo_learned_32 : decode b_Mo_learned 32 = .ok (.iconst (-1), 1) := by decide +kernel
theorem d_Mo_learned_33 : decode b_Mo_learned 33 = .ok (.ireturn, 1) := by decide +kernel
theorem d_Mo_learned_34 : decode b_Mo_learned 34 = .ok (.bipush 16, 2) := by decide +kernel
theorem d_Mo_learned_36 : decode b_Mo_learned 36 = .ok (.iload_n 1, 1) := by decide +kernel
theorem d_Mo_learned_37 : decode b_Mo_learned 37 = .ok (.imul, 1) := by decide +kernel
theorem d_Mo_learned_38 : decode b_Mo_learned 38 = .ok (.iconst 2, 1) := by decide +kernel
theorem d_Mo_learned_39 : decode b_Mo_learned 39 = .ok (.iload_n 2, 1) := by decide +kernel
theorem d_Mo_learned_40 : decode b_Mo_learned 40 = .ok (.imul, 1) := by decide +kernel
theorem d_Mo_learned_41 : decode b_Mo_learned 41 = .ok (.iadd, 1) := by decide +kernel
theorem d_Mo_learned_42 : decode b_Mo_learned 42 = .ok (.iload_n 3, 1) := by decide +kernel
theorem d_Mo_learned_43 : decode b_Mo_learned 43 = .ok (.iadd, 1) := by decide +kernel
theorem d_Mo_learned_44 : decode b_Mo_learned 44 = .ok (.iconst 1, 1) := by decide +kernel
theorem d_Mo_learned_45 : decode b_Mo_learned 45 = .ok (.isub, 1) := by decide +kernel
theorem d_Mo_learned_46 : decode b_Mo_learned 46 = .ok (.istore 4, 2) := by decide +kernel
theorem d_Mo_learned_48 : decode b_Mo_learned 48 = .ok (.aload_n 0, 1) := by decide +kernel
theorem d_Mo_learned_49 : decode b_Mo_learned 49 = .ok (.getfield 84, 3) := by decide +kernel
theorem d_Mo_learned_52 : decode b_Mo_learned 52 = .ok (.iload 4, 2) := by decide +kernel
theorem d_Mo_learned_54 : decode b_Mo_learned 54 = .ok (.iaload, 1) := by decide +kernel
theorem d_Mo_learned_55 : decode b_Mo_learned 55 = .ok (.ifCond .le 13, 3) := by decide +kernel
theorem d_Mo_learned_58 : decode b_Mo_learned 58 = .ok (.aload_n 0, 1) := by decide +kernel
theorem d_Mo_learned_59 : decode b_Mo_learned 59 = .ok (.getfield 87, 3) := by decide +kernel
theorem d_Mo_learned_62 : decode b_Mo_learned 62 = .ok (.iload 4, 2) := by decide +kernel
theorem d_Mo_learned_64 : decode b_Mo_learned 64 = .ok (.iaload, 1) := by decide +kernel
theorem d_Mo_learned_65 : decode b_Mo_learned 65 = .ok (.goto 4, 3) := by decide +kernel
theorem d_Mo_learned_68 : decode b_Mo_learned 68 = .ok (.iconst (-1), 1) := by decide +kernel
theorem d_Mo_learned_69 : decode b_Mo_learned 69 = .ok (.ireturn, 1) := by decide +kernel
theorem d_Mo_inbox_0 : decode b_Mo_inbox 0 = .ok (.aload_n 0, 1) := by decide +kernel
theorem d_Mo_inbox_1 : decode b_Mo_inbox 1 = .ok (.iconst 0, 1) := by decide +kernel
theorem d_Mo_inbox_2 : decode b_Mo_inbox 2 = .ok (.putfield 108, 3) := by decide +kernel
theorem d_Mo_inbox_5 : decode b_Mo_inbox 5 = .ok (.iload_n 1, 1) := by decide +kernel
theorem d_Mo_inbox_6 : decode b_Mo_inbox 6 = .ok (.ifCond .lt 24, 3) := by decide +kernel
theorem d_Mo_inbox_9 : decode b_Mo_inbox 9 = .ok (.iload_n 1, 1) := by decide +kernel
theorem d_Mo_inbox_10 : decode b_Mo_inbox 10 = .ok (.bipush 7, 2) := by decide +kernel
theorem d_Mo_inbox_12 : decode b_Mo_inbox 12 = .ok (.if_icmp .gt 18, 3) := by decide +kernel
theorem d_Mo_inbox_15 : decode b_Mo_inbox 15 = .ok (.iload_n 2, 1) := by decide +kernel
theorem d_Mo_inbox_16 : decode b_Mo_inbox 16 = .ok (.iconst (-1), 1) := by decide +kernel
theorem d_Mo_inbox_17 : decode b_Mo_inbox 17 = .ok (.if_icmp .lt 13, 3) := by decide +kernel
theorem d_Mo_inbox_20 : decode b_Mo_inbox 20 = .ok (.iload_n 2, 1) := by decide +kernel
theorem d_Mo_inbox_21 : decode b_Mo_inbox 21 = .ok (.aload_n 0, 1) := by decide +kernel
theorem d_Mo_inbox_22 : decode b_Mo_inbox 22 = .ok (.getfield 96, 3) := by decide +kernel
theorem d_Mo_inbox_25 : decode b_Mo_inbox 25 = .ok (.iload_n 1, 1) := by decide +kernel
theorem d_Mo_inbox_26 : decode b_Mo_inbox 26 = .ok (.iaload, 1) := by decide +kernel
theorem d_Mo_inbox_27 : decode b_Mo_inbox 27 = .ok (.if_icmp .lt 7, 3) := by decide +kernel
theorem d_Mo_inbox_30 : decode b_Mo_inbox 30 = .ok (.ldc2_w 209, 3) := by decide +kernel
theorem d_Mo_inbox_33 : decode b_Mo_inbox 33 = .ok (.lreturn, 1) := by decide +kernel
theorem d_Mo_inbox_34 : decode b_Mo_inbox 34 = .ok (.iload_n 2, 1) := by decide +kernel
theorem d_Mo_inbox_35 : decode b_Mo_inbox 35 = .ok (.iconst (-1), 1) := by decide +kernel
theorem d_Mo_inbox_36 : decode b_Mo_inbox 36 = .ok (.if_icmp .ne 13, 3) := by decide +kernel
theorem d_Mo_inbox_39 : decode b_Mo_inbox 39 = .ok (.aload_n 0, 1) := by decide +kernel
theorem d_Mo_inbox_40 : decode b_Mo_inbox 40 = .ok (.getfield 96, 3) := by decide +kernel
theorem d_Mo_inbox_43 : decode b_Mo_inbox 43 = .ok (.iload_n 1, 1) := by decide +kernel
theorem d_Mo_inbox_44 : decode b_Mo_inbox 44 = .ok (.iaload, 1) := by decide +kernel
theorem d_Mo_inbox_45 : decode b_Mo_inbox 45 = .ok (.i2l, 1) := by decide +kernel
theorem d_Mo_inbox_46 : decode b_Mo_inbox 46 = .ok (.goto 14, 3) := by decide +kernel
theorem d_Mo_inbox_49 : decode b_Mo_inbox 49 = .ok (.aload_n 0, 1) := by decide +kernel
theorem d_Mo_inbox_50 : decode b_Mo_inbox 50 = .ok (.getfield 99, 3) := by decide +kernel
theorem d_Mo_inbox_53 : decode b_Mo_inbox 53 = .ok (.bipush 40, 2) := by decide +kernel
theorem d_Mo_inbox_55 : decode b_Mo_inbox 55 = .ok (.iload_n 1, 1) := by decide +kernel
theorem d_Mo_inbox_56 : decode b_Mo_inbox 56 = .ok (.imul, 1) := by decide +kernel
theorem d_Mo_inbox_57 : decode b_Mo_inbox 57 = .ok (.iload_n 2, 1) := by decide +kernel
theorem d_Mo_inbox_58 : decode b_Mo_inbox 58 = .ok (.iadd, 1) := by decide +kernel
theorem d_Mo_inbox_59 : decode b_Mo_inbox 59 = .ok (.laload, 1) := by decide +kernel
theorem d_Mo_inbox_60 : decode b_Mo_inbox 60 = .ok (.lreturn, 1) := by decide +kernel
theorem d_Mo_line_0 : decode b_Mo_line 0 = .ok (.aload_n 0, 1) := by decide +kernel
theorem d_Mo_line_1 : decode b_Mo_line 1 = .ok (.iconst 0, 1) := by decide +kernel
theorem d_Mo_line_2 : decode b_Mo_line 2 = .ok (.putfield 108, 3) := by decide +kernel
theorem d_Mo_line_5 : decode b_Mo_line 5 = .ok (.iload_n 1, 1) := by decide +kernel
theorem d_Mo_line_6 : decode b_Mo_line 6 = .ok (.iload_n 2, 1) := by decide +kernel
theorem d_Mo_line_7 : decode b_Mo_line 7 = .ok (.invokestatic 178, 3) := by decide +kernel
theorem d_Mo_line_10 : decode b_Mo_line 10 = .ok (.ifCond .eq 16, 3) := by decide +kernel
theorem d_Mo_line_13 : decode b_Mo_line 13 = .ok (.aload_n 0, 1) := by decide +kernel
theorem d_Mo_line_14 : decode b_Mo_line 14 = .ok (.getfield 48, 3) := by decide +kernel
theorem d_Mo_line_17 : decode b_Mo_line 17 = .ok (.iconst 4, 1) := by decide +kernel
theorem d_Mo_line_18 : decode b_Mo_line 18 = .ok (.iload_n 1, 1) := by decide +kernel
theorem d_Mo_line_19 : decode b_Mo_line 19 = .ok (.imul, 1) := by decide +kernel
theorem d_Mo_line_20 : decode b_Mo_line 20 = .ok (.iload_n 2, 1) := by decide +kernel
theorem d_Mo_line_21 : decode b_Mo_line 21 = .ok (.iadd, 1) := by decide +kernel
theorem d_Mo_line_22 : decode b_Mo_line 22 = .ok (.iaload, 1) := by decide +kernel
theorem d_Mo_line_23 : decode b_Mo_line 23 = .ok (.goto 4, 3) := by decide +kernel
theorem d_Mo_line_26 : decode b_Mo_line 26 = .ok (.iconst (-1), 1) := by decide +kernel
theorem d_Mo_line_27 : decode b_Mo_line 27 = .ok (.ireturn, 1) := by decide +kernel
theorem d_Mo_message_0 : decode b_Mo_message 0 = .ok (.aload_n 0, 1) := by decide +kernel
theorem d_Mo_message_1 : decode b_Mo_message 1 = .ok (.iconst 0, 1) := by decide +kernel
theorem d_Mo_message_2 : decode b_Mo_message 2 = .ok (.putfield 108, 3) := by decide +kernel
theorem d_Mo_message_5 : decode b_Mo_message 5 = .ok (.iload_n 1, 1) := by decide +kernel
theorem d_Mo_message_6 : decode b_Mo_message 6 = .ok (.iload_n 2, 1) := by decide +kernel
theorem d_Mo_message_7 : decode b_Mo_message 7 = .ok (.invokestatic 178, 3) := by decide +kernel
theorem d_Mo_message_10 : decode b_Mo_message 10 = .ok (.ifCond .eq 21, 3) := by decide +kernel
theorem d_Mo_message_13 : decode b_Mo_message 13 = .ok (.iload_n 3, 1) := by decide +kernel
theorem d_Mo_message_14 : decode b_Mo_message 14 = .ok (.ifCond .lt 17, 3) := by decide +kernel
theorem d_Mo_message_17 : decode b_Mo_message 17 = .ok (.iload_n 3, 1) := by decide +kernel
theorem d_Mo_message_18 : decode b_Mo_message 18 = .ok (.aload_n 0, 1) := by decide +kernel
theorem d_Mo_message_19 : decode b_Mo_message 19 = .ok (.getfield 48, 3) := by decide +kernel
theorem d_Mo_message_22 : decode b_Mo_message 22 = .ok (.iconst 4, 1) := by decide +kernel
theorem d_Mo_message_23 : decode b_Mo_message 23 = .ok (.iload_n 1, 1) := by decide +kernel
theorem d_Mo_message_24 : decode b_Mo_message 24 = .ok (.imul, 1) := by decide +kernel
theorem d_Mo_message_25 : decode b_Mo_message 25 = .ok (.iload_n 2, 1) := by decide +kernel
theorem d_Mo_message_26 : decode b_Mo_message 26 = .ok (.iadd, 1) := by decide +kernel
theorem d_Mo_message_27 : decode b_Mo_message 27 = .ok (.iaload, 1) := by decide +kernel
theorem d_Mo_message_28 : decode b_Mo_message 28 = .ok (.if_icmp .lt 5, 3) := by decide +kernel
theorem d_Mo_message_31 : decode b_Mo_message 31 = .ok (.lconst 0, 1) := by decide +kernel
theorem d_Mo_message_32 : decode b_Mo_message 32 = .ok (.lreturn, 1) := by decide +kernel
theorem d_Mo_message_33 : decode b_Mo_message 33 = .ok (.bipush 12, 2) := by decide +kernel
theorem d_Mo_message_35 : decode b_Mo_message 35 = .ok (.iconst 4, 1) := by decide +kernel
theorem d_Mo_message_36 : decode b_Mo_message 36 = .ok (.iload_n 1, 1) := by decide +kernel
theorem d_Mo_message_37 : decode b_Mo_message 37 = .ok (.imul, 1) := by decide +kernel
theorem d_Mo_message_38 : decode b_Mo_message 38 = .ok (.iload_n 2, 1) := by decide +kernel
theorem d_Mo_message_39 : decode b_Mo_message 39 = .ok (.iadd, 1) := by decide +kernel
theorem d_Mo_message_40 : decode b_Mo_message 40 = .ok (.imul, 1) := by decide +kernel
theorem d_Mo_message_41 : decode b_Mo_message 41 = .ok (.iload_n 3, 1) := by decide +kernel
theorem d_Mo_message_42 : decode b_Mo_message 42 = .ok (.iadd, 1) := by decide +kernel
theorem d_Mo_message_43 : decode b_Mo_message 43 = .ok (.istore 4, 2) := by decide +kernel
theorem d_Mo_message_45 : decode b_Mo_message 45 = .ok (.aload_n 0, 1) := by decide +kernel
theorem d_Mo_message_46 : decode b_Mo_message 46 = .ok (.getfield 51, 3) := by decide +kernel
theorem d_Mo_message_49 : decode b_Mo_message 49 = .ok (.iload 4, 2) := by decide +kernel
theorem d_Mo_message_51 : decode b_Mo_message 51 = .ok (.iaload, 1) := by decide +kernel
theorem d_Mo_message_52 : decode b_Mo_message 52 = .ok (.iconst 3, 1) := by decide +kernel
theorem d_Mo_message_53 : decode b_Mo_message 53 = .ok (.if_icmp .ne 33, 3) := by decide +kernel
theorem d_Mo_message_56 : decode b_Mo_message 56 = .ok (.ldc2_w 213, 3) := by decide +kernel
theorem d_Mo_message_59 : decode b_Mo_message 59 = .ok (.ldc2_w 215, 3) := by decide +kernel
theorem d_Mo_message_62 : decode b_Mo_message 62 = .ok (.aload_n 0, 1) := by decide +kernel
theorem d_Mo_message_63 : decode b_Mo_message 63 = .ok (.getfield 66, 3) := by decide +kernel
theorem d_Mo_message_66 : decode b_Mo_message 66 = .ok (.iload 4, 2) := by decide +kernel
theorem d_Mo_message_68 : decode b_Mo_message 68 = .ok (.iaload, 1) := by decide +kernel
theorem d_Mo_message_69 : decode b_Mo_message 69 = .ok (.i2l, 1) := by decide +kernel
theorem d_Mo_message_70 : decode b_Mo_message 70 = .ok (.lmul, 1) := by decide +kernel
theorem d_Mo_message_71 : decode b_Mo_message 71 = .ok (.ladd, 1) := by decide +kernel
theorem d_Mo_message_72 : decode b_Mo_message 72 = .ok (.ldc2_w 205, 3) := by decide +kernel
theorem d_Mo_message_75 : decode b_Mo_message 75 = .ok (.aload_n 0, 1) := by decide +kernel
theorem d_Mo_message_76 : decode b_Mo_message 76 = .ok (.getfield 69, 3) := by decide +kernel
theorem d_Mo_message_79 : decode b_Mo_message 79 = .ok (.iload 4, 2) := by decide +kernel
theorem d_Mo_message_81 : decode b_Mo_message 81 = .ok (.iaload, 1) := by decide +kernel
theorem d_Mo_message_82 : decode b_Mo_message 82 = .ok (.i2l, 1) := by decide +kernel
theorem d_Mo_message_83 : decode b_Mo_message 83 = .ok (.lmul, 1) := by decide +kernel
theorem d_Mo_message_84 : decode b_Mo_message 84 = .ok (.ladd, 1) := by decide +kernel
theorem d_Mo_message_85 : decode b_Mo_message 85 = .ok (.lreturn, 1) := by decide +kernel
theorem d_Mo_message_86 : decode b_Mo_message 86 = .ok (.aload_n 0, 1) := by decide +kernel
theorem d_Mo_message_87 : decode b_Mo_message 87 = .ok (.getfield 51, 3) := by decide +kernel
theorem d_Mo_message_90 : decode b_Mo_message 90 = .ok (.iload 4, 2) := by decide +kernel
theorem d_Mo_message_92 : decode b_Mo_message 92 = .ok (.iaload, 1) := by decide +kernel
theorem d_Mo_message_93 : decode b_Mo_message 93 = .ok (.i2l, 1) := by decide +kernel
theorem d_Mo_message_94 : decode b_Mo_message 94 = .ok (.ldc2_w 215, 3) := by decide +kernel
theorem d_Mo_message_97 : decode b_Mo_message 97 = .ok (.aload_n 0, 1) := by decide +kernel
theorem d_Mo_message_98 : decode b_Mo_message 98 = .ok (.getfield 51, 3) := by decide +kernel
theorem d_Mo_message_101 : decode b_Mo_message 101 = .ok (.iload 4, 2) := by decide +kernel
theorem d_Mo_message_103 : decode b_Mo_message 103 = .ok (.iaload, 1) := by decide +kernel
theorem d_Mo_message_104 : decode b_Mo_message 104 = .ok (.iconst 1, 1) := by decide +kernel
theorem d_Mo_message_105 : decode b_Mo_message 105 = .ok (.if_icmp .ne 17, 3) := by decide +kernel
theorem d_Mo_message_108 : decode b_Mo_message 108 = .ok (.aload_n 0, 1) := by decide +kernel
theorem d_Mo_message_109 : decode b_Mo_message 109 = .ok (.getfield 54, 3) := by decide +kernel
theorem d_Mo_message_112 : decode b_Mo_message 112 = .ok (.iload 4, 2) := by decide +kernel
theorem d_Mo_message_114 : decode b_Mo_message 114 = .ok (.laload, 1) := by decide +kernel
theorem d_Mo_message_115 : decode b_Mo_message 115 = .ok (.invokestatic 118, 3) := by decide +kernel
theorem d_Mo_message_118 : decode b_Mo_message 118 = .ok (.i2l, 1) := by decide +kernel
theorem d_Mo_message_119 : decode b_Mo_message 119 = .ok (.goto 10, 3) := by decide +kernel
theorem d_Mo_message_122 : decode b_Mo_message 122 = .ok (.aload_n 0, 1) := by decide +kernel
theorem d_Mo_message_123 : decode b_Mo_message 123 = .ok (.getfield 54, 3) := by decide +kernel
theorem d_Mo_message_126 : decode b_Mo_message 126 = .ok (.iload 4, 2) := by decide +kernel
theorem d_Mo_message_128 : decode b_Mo_message 128 = .ok (.laload, 1) := by decide +kernel
theorem d_Mo_message_129 : decode b_Mo_message 129 = .ok (.lmul, 1) := by decide +kernel
theorem d_Mo_message_130 : decode b_Mo_message 130 = .ok (.ladd, 1) := by decide +kernel
theorem d_Mo_message_131 : decode b_Mo_message 131 = .ok (.lreturn, 1) := by decide +kernel
