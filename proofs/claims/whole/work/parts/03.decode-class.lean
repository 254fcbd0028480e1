/-! decode rows: written by wip/whole/emit_names.py -/
theorem d_Br_addPorts_0 : decode b_Br_addPorts 0 = .ok (.iconst 0, 1) := by decide +kernel
theorem d_Br_addPorts_1 : decode b_Br_addPorts 1 = .ok (.istore_n 1, 1) := by decide +kernel
theorem d_Br_addPorts_2 : decode b_Br_addPorts 2 = .ok (.iload_n 1, 1) := by decide +kernel
theorem d_Br_addPorts_3 : decode b_Br_addPorts 3 = .ok (.iconst 4, 1) := by decide +kernel
theorem d_Br_addPorts_4 : decode b_Br_addPorts 4 = .ok (.if_icmp .ge 24, 3) := by decide +kernel
theorem d_Br_addPorts_7 : decode b_Br_addPorts 7 = .ok (.aload_n 0, 1) := by decide +kernel
theorem d_Br_addPorts_8 : decode b_Br_addPorts 8 = .ok (.getfield 11, 3) := by decide +kernel
theorem d_Br_addPorts_11 : decode b_Br_addPorts 11 = .ok (.iload_n 1, 1) := by decide +kernel
theorem d_Br_addPorts_12 : decode b_Br_addPorts 12 = .ok (.new 9, 3) := by decide +kernel
theorem d_Br_addPorts_15 : decode b_Br_addPorts 15 = .ok (.dup, 1) := by decide +kernel
theorem d_Br_addPorts_16 : decode b_Br_addPorts 16 = .ok (.aload_n 0, 1) := by decide +kernel
theorem d_Br_addPorts_17 : decode b_Br_addPorts 17 = .ok (.iload_n 1, 1) := by decide +kernel
theorem d_Br_addPorts_18 : decode b_Br_addPorts 18 = .ok (.invokespecial 44, 3) := by decide +kernel
theorem d_Br_addPorts_21 : decode b_Br_addPorts 21 = .ok (.aastore, 1) := by decide +kernel
theorem d_Br_addPorts_22 : decode b_Br_addPorts 22 = .ok (.iinc 1 1, 3) := by decide +kernel
theorem d_Br_addPorts_25 : decode b_Br_addPorts 25 = .ok (.goto (-23), 3) := by decide +kernel
theorem d_Br_addPorts_28 : decode b_Br_addPorts 28 = .ok (.return_, 1) := by decide +kernel
theorem d_Ne_priority_0 : decode b_Ne_priority 0 = .ok (.iload_n 1, 1) := by decide +kernel
theorem d_Ne_priority_1 : decode b_Ne_priority 1 = .ok (.invokestatic 32, 3) := by decide +kernel
theorem d_Ne_priority_4 : decode b_Ne_priority 4 = .ok (.ifCond .eq 25, 3) := by decide +kernel
theorem d_Ne_priority_7 : decode b_Ne_priority 7 = .ok (.iload_n 2, 1) := by decide +kernel
theorem d_Ne_priority_8 : decode b_Ne_priority 8 = .ok (.ifCond .lt 21, 3) := by decide +kernel
theorem d_Ne_priority_11 : decode b_Ne_priority 11 = .ok (.iload_n 2, 1) := by decide +kernel
theorem d_Ne_priority_12 : decode b_Ne_priority 12 = .ok (.bipush 15, 2) := by decide +kernel
theorem d_Ne_priority_14 : decode b_Ne_priority 14 = .ok (.if_icmp .gt 15, 3) := by decide +kernel
theorem d_Ne_priority_17 : decode b_Ne_priority 17 = .ok (.aload_n 0, 1) := by decide +kernel
theorem d_Ne_priority_18 : decode b_Ne_priority 18 = .ok (.getfield 11, 3) := by decide +kernel
theorem d_Ne_priority_21 : decode b_Ne_priority 21 = .ok (.iload_n 1, 1) := by decide +kernel
theorem d_Ne_priority_22 : decode b_Ne_priority 22 = .ok (.aaload, 1) := by decide +kernel
theorem d_Ne_priority_23 : decode b_Ne_priority 23 = .ok (.invokevirtual 36, 3) := by decide +kernel
theorem d_Ne_priority_26 : decode b_Ne_priority 26 = .ok (.ifCond .ne 5, 3) := by decide +kernel
theorem d_Ne_priority_29 : decode b_Ne_priority 29 = .ok (.iconst 0, 1) := by decide +kernel
theorem d_Ne_priority_30 : decode b_Ne_priority 30 = .ok (.ireturn, 1) := by decide +kernel
theorem d_Ne_priority_31 : decode b_Ne_priority 31 = .ok (.aload_n 0, 1) := by decide +kernel
theorem d_Ne_priority_32 : decode b_Ne_priority 32 = .ok (.getfield 11, 3) := by decide +kernel
theorem d_Ne_priority_35 : decode b_Ne_priority 35 = .ok (.iload_n 1, 1) := by decide +kernel
theorem d_Ne_priority_36 : decode b_Ne_priority 36 = .ok (.aaload, 1) := by decide +kernel
theorem d_Ne_priority_37 : decode b_Ne_priority 37 = .ok (.iload_n 2, 1) := by decide +kernel
theorem d_Ne_priority_38 : decode b_Ne_priority 38 = .ok (.invokevirtual 40, 3) := by decide +kernel
theorem d_Ne_priority_41 : decode b_Ne_priority 41 = .ok (.aload_n 0, 1) := by decide +kernel
theorem d_Ne_priority_42 : decode b_Ne_priority 42 = .ok (.getfield 11, 3) := by decide +kernel
theorem d_Ne_priority_45 : decode b_Ne_priority 45 = .ok (.iload_n 1, 1) := by decide +kernel
theorem d_Ne_priority_46 : decode b_Ne_priority 46 = .ok (.aaload, 1) := by decide +kernel
theorem d_Ne_priority_47 : decode b_Ne_priority 47 = .ok (.invokevirtual 43, 3) := by decide +kernel
theorem d_Ne_priority_50 : decode b_Ne_priority 50 = .ok (.iconst 1, 1) := by decide +kernel
theorem d_Ne_priority_51 : decode b_Ne_priority 51 = .ok (.ireturn, 1) := by decide +kernel
theorem d_Ne_isBridge_0 : decode b_Ne_isBridge 0 = .ok (.iload_n 0, 1) := by decide +kernel
theorem d_Ne_isBridge_1 : decode b_Ne_isBridge 1 = .ok (.ifCond .lt 12, 3) := by decide +kernel
theorem d_Ne_isBridge_4 : decode b_Ne_isBridge 4 = .ok (.iload_n 0, 1) := by decide +kernel
theorem d_Ne_isBridge_5 : decode b_Ne_isBridge 5 = .ok (.iconst 5, 1) := by decide +kernel
theorem d_Ne_isBridge_6 : decode b_Ne_isBridge 6 = .ok (.if_icmp .ge 7, 3) := by decide +kernel
theorem d_Ne_isBridge_9 : decode b_Ne_isBridge 9 = .ok (.iconst 1, 1) := by decide +kernel
theorem d_Ne_isBridge_10 : decode b_Ne_isBridge 10 = .ok (.goto 4, 3) := by decide +kernel
theorem d_Ne_isBridge_13 : decode b_Ne_isBridge 13 = .ok (.iconst 0, 1) := by decide +kernel
theorem d_Ne_isBridge_14 : decode b_Ne_isBridge 14 = .ok (.ireturn, 1) := by decide +kernel
theorem d_Br_isUnused_0 : decode b_Br_isUnused 0 = .ok (.aload_n 0, 1) := by decide +kernel
theorem d_Br_isUnused_1 : decode b_Br_isUnused 1 = .ok (.getfield 11, 3) := by decide +kernel
theorem d_Br_isUnused_4 : decode b_Br_isUnused 4 = .ok (.astore_n 1, 1) := by decide +kernel
theorem d_Br_isUnused_5 : decode b_Br_isUnused 5 = .ok (.aload_n 1, 1) := by decide +kernel
theorem d_Br_isUnused_6 : decode b_Br_isUnused 6 = .ok (.arraylength, 1) := by decide +kernel
theorem d_Br_isUnused_7 : decode b_Br_isUnused 7 = .ok (.istore_n 2, 1) := by decide +kernel
theorem d_Br_isUnused_8 : decode b_Br_isUnused 8 = .ok (.iconst 0, 1) := by decide +kernel
theorem d_Br_isUnused_9 : decode b_Br_isUnused 9 = .ok (.istore_n 3, 1) := by decide +kernel
theorem d_Br_isUnused_10 : decode b_Br_isUnused 10 = .ok (.iload_n 3, 1) := by decide +kernel
theorem d_Br_isUnused_11 : decode b_Br_isUnused 11 = .ok (.iload_n 2, 1) := by decide +kernel
theorem d_Br_isUnused_12 : decode b_Br_isUnused 12 = .ok (.if_icmp .ge 24, 3) := by decide +kernel
theorem d_Br_isUnused_15 : decode b_Br_isUnused 15 = .ok (.aload_n 1, 1) := by decide +kernel
theorem d_Br_isUnused_16 : decode b_Br_isUnused 16 = .ok (.iload_n 3, 1) := by decide +kernel
theorem d_Br_isUnused_17 : decode b_Br_isUnused 17 = .ok (.aaload, 1) := by decide +kernel
theorem d_Br_isUnused_18 : decode b_Br_isUnused 18 = .ok (.astore 4, 2) := by decide +kernel
theorem d_Br_isUnused_20 : decode b_Br_isUnused 20 = .ok (.aload 4, 2) := by decide +kernel
theorem d_Br_isUnused_22 : decode b_Br_isUnused 22 = .ok (.invokevirtual 47, 3) := by decide +kernel
theorem d_Br_isUnused_25 : decode b_Br_isUnused 25 = .ok (.ifCond .ne 5, 3) := by decide +kernel
theorem d_Br_isUnused_28 : decode b_Br_isUnused 28 = .ok (.iconst 0, 1) := by decide +kernel
theorem d_Br_isUnused_29 : decode b_Br_isUnused 29 = .ok (.ireturn, 1) := by decide +kernel
theorem d_Br_isUnused_30 : decode b_Br_isUnused 30 = .ok (.iinc 3 1, 3) := by decide +kernel
theorem d_Br_isUnused_33 : decode b_Br_isUnused 33 = .ok (.goto (-23), 3) := by decide +kernel
theorem d_Br_isUnused_36 : decode b_Br_isUnused 36 = .ok (.iconst 1, 1) := by decide +kernel
theorem d_Br_isUnused_37 : decode b_Br_isUnused 37 = .ok (.ireturn, 1) := by decide +kernel
theorem d_Po_isFree_0 : decode b_Po_isFree 0 = .ok (.aload_n 0, 1) := by decide +kernel
theorem d_Po_isFree_1 : decode b_Po_isFree 1 = .ok (.getfield 25, 3) := by decide +kernel
theorem d_Po_isFree_4 : decode b_Po_isFree 4 = .ok (.ifnonnull 14, 3) := by decide +kernel
theorem d_Po_isFree_7 : decode b_Po_isFree 7 = .ok (.aload_n 0, 1) := by decide +kernel
theorem d_Po_isFree_8 : decode b_Po_isFree 8 = .ok (.getfield 29, 3) := by decide +kernel
theorem d_Po_isFree_11 : decode b_Po_isFree 11 = .ok (.ifnonnull 7, 3) := by decide +kernel
theorem d_Po_isFree_14 : decode b_Po_isFree 14 = .ok (.iconst 1, 1) := by decide +kernel
theorem d_Po_isFree_15 : decode b_Po_isFree 15 = .ok (.goto 4, 3) := by decide +kernel
theorem d_Po_isFree_18 : decode b_Po_isFree 18 = .ok (.iconst 0, 1) := by decide +kernel
theorem d_Po_isFree_19 : decode b_Po_isFree 19 = .ok (.ireturn, 1) := by decide +kernel
theorem d_Br_rank_0 : decode b_Br_rank 0 = .ok (.aload_n 0, 1) := by decide +kernel
theorem d_Br_rank_1 : decode b_Br_rank 1 = .ok (.bipush 8, 2) := by decide +kernel
theorem d_Br_rank_3 : decode b_Br_rank 3 = .ok (.iload_n 1, 1) := by decide +kernel
theorem d_Br_rank_4 : decode b_Br_rank 4 = .ok (.imul, 1) := by decide +kernel
theorem d_Br_rank_5 : decode b_Br_rank 5 = .ok (.aload_n 0, 1) := by decide +kernel
theorem d_Br_rank_6 : decode b_Br_rank 6 = .ok (.getfield 35, 3) := by decide +kernel
theorem d_Br_rank_9 : decode b_Br_rank 9 = .ok (.iadd, 1) := by decide +kernel
theorem d_Br_rank_10 : decode b_Br_rank 10 = .ok (.putfield 38, 3) := by decide +kernel
theorem d_Br_rank_13 : decode b_Br_rank 13 = .ok (.return_, 1) := by decide +kernel
theorem d_Br_compute_0 : decode b_Br_compute 0 = .ok (.aload_n 0, 1) := by decide +kernel
theorem d_Br_compute_1 : decode b_Br_compute 1 = .ok (.getfield 41, 3) := by decide +kernel
theorem d_Br_compute_4 : decode b_Br_compute 4 = .ok (.istore_n 1, 1) := by decide +kernel
theorem d_Br_compute_5 : decode b_Br_compute 5 = .ok (.aload_n 0, 1) := by decide +kernel
theorem d_Br_compute_6 : decode b_Br_compute 6 = .ok (.getfield 17, 3) := by decide +kernel
theorem d_Br_compute_9 : decode b_Br_compute 9 = .ok (.istore_n 2, 1) := by decide +kernel
theorem d_Br_compute_10 : decode b_Br_compute 10 = .ok (.aload_n 0, 1) := by decide +kernel
theorem d_Br_compute_11 : decode b_Br_compute 11 = .ok (.getfield 21, 3) := by decide +kernel
theorem d_Br_compute_14 : decode b_Br_compute 14 = .ok (.istore_n 3, 1) := by decide +kernel
theorem d_Br_compute_15 : decode b_Br_compute 15 = .ok (.aload_n 0, 1) := by decide +kernel
theorem d_Br_compute_16 : decode b_Br_compute 16 = .ok (.invokevirtual 51, 3) := by decide +kernel
theorem d_Br_compute_19 : decode b_Br_compute 19 = .ok (.aload_n 0, 1) := by decide +kernel
theorem d_Br_compute_20 : decode b_Br_compute 20 = .ok (.invokevirtual 54, 3) := by decide +kernel
theorem d_Br_compute_23 : decode b_Br_compute 23 = .ok (.istore 4, 2) := by decide +kernel
theorem d_Br_compute_25 : decode b_Br_compute 25 = .ok (.iload 4, 2) := by decide +kernel
theorem d_Br_compute_27 : decode b_Br_compute 27 = .ok (.ifCond .ne 27, 3) := by decide +kernel
theorem d_Br_compute_30 : decode b_Br_compute 30 = .ok (.aload_n 0, 1) := by decide +kernel
theorem d_Br_compute_31 : decode b_Br_compute 31 = .ok (.getfield 41, 3) := by decide +kernel
theorem d_Br_compute_34 : decode b_Br_compute 34 = .ok (.iload_n 1, 1) := by decide +kernel
theorem d_Br_compute_35 : decode b_Br_compute 35 = .ok (.if_icmp .ne 19, 3) := by decide +kernel
theorem d_Br_compute_38 : decode b_Br_compute 38 = .ok (.aload_n 0, 1) := by decide +kernel
theorem d_Br_compute_39 : decode b_Br_compute 39 = .ok (.getfield 17, 3) := by decide +kernel
theorem d_Br_compute_42 : decode b_Br_compute 42 = .ok (.iload_n 2, 1) := by decide +kernel
theorem d_Br_compute_43 : decode b_Br_compute 43 = .ok (.if_icmp .ne 11, 3) := by decide +kernel
theorem d_Br_compute_46 : decode b_Br_compute 46 = .ok (.aload_n 0, 1) := by decide +kernel
theorem d_Br_compute_47 : decode b_Br_compute 47 = .ok (.getfield 21, 3) := by decide +kernel
theorem d_Br_compute_50 : decode b_Br_compute 50 = .ok (.iload_n 3, 1) := by decide +kernel
theorem d_Br_compute_51 : decode b_Br_compute 51 = .ok (.if_icmp .eq 7, 3) := by decide +kernel
theorem d_Br_compute_54 : decode b_Br_compute 54 = .ok (.aload_n 0, 1) := by decide +kernel
theorem d_Br_compute_55 : decode b_Br_compute 55 = .ok (.invokevirtual 57, 3) := by decide +kernel
theorem d_Br_compute_58 : decode b_Br_compute 58 = .ok (.return_, 1) := by decide +kernel
theorem d_Br_chooseRoot_0 : decode b_Br_chooseRoot 0 = .ok (.aload_n 0, 1) := by decide +kernel
theorem d_Br_chooseRoot_1 : decode b_Br_chooseRoot 1 = .ok (.getfield 38, 3) := by decide +kernel
theorem d_Br_chooseRoot_4 : decode b_Br_chooseRoot 4 = .ok (.iconst 0, 1) := by decide +kernel
theorem d_Br_chooseRoot_5 : decode b_Br_chooseRoot 5 = .ok (.aload_n 0, 1) := by decide +kernel
theorem d_Br_chooseRoot_6 : decode b_Br_chooseRoot 6 = .ok (.getfield 38, 3) := by decide +kernel
theorem d_Br_chooseRoot_9 : decode b_Br_chooseRoot 9 = .ok (.iconst 0, 1) := by decide +kernel
theorem d_Br_chooseRoot_10 : decode b_Br_chooseRoot 10 = .ok (.invokestatic 60, 3) := by decide +kernel
theorem d_Br_chooseRoot_13 : decode b_Br_chooseRoot 13 = .ok (.lstore_n 1, 1) := by decide +kernel
theorem d_Br_chooseRoot_14 : decode b_Br_chooseRoot 14 = .ok (.aload_n 0, 1) := by decide +kernel
theorem d_Br_chooseRoot_15 : decode b_Br_chooseRoot 15 = .ok (.iconst 0, 1) := by decide +kernel
theorem d_Br_chooseRoot_16 : decode b_Br_chooseRoot 16 = .ok (.putfield 21, 3) := by decide +kernel
theorem d_Br_chooseRoot_19 : decode b_Br_chooseRoot 19 = .ok (.aload_n 0, 1) := by decide +kernel
theorem d_Br_chooseRoot_20 : decode b_Br_chooseRoot 20 = .ok (.aconst_null, 1) := by decide +kernel
theorem d_Br_chooseRoot_21 : decode b_Br_chooseRoot 21 = .ok (.putfield 24, 3) := by decide +kernel
theorem d_Br_chooseRoot_24 : decode b_Br_chooseRoot 24 = .ok (.aload_n 0, 1) := by decide +kernel
theorem d_Br_chooseRoot_25 : decode b_Br_chooseRoot 25 = .ok (.getfield 11, 3) := by decide +kernel
theorem d_Br_chooseRoot_28 : decode b_Br_chooseRoot 28 = .ok (.astore_n 3, 1) := by decide +kernel
theorem d_Br_chooseRoot_29 : decode b_Br_chooseRoot 29 = .ok (.aload_n 3, 1) := by decide +kernel
theorem d_Br_chooseRoot_30 : decode b_Br_chooseRoot 30 = .ok (.arraylength, 1) := by decide +kernel
theorem d_Br_chooseRoot_31 : decode b_Br_chooseRoot 31 = .ok (.istore 4, 2) := by decide +kernel
theorem d_Br_chooseRoot_33 : decode b_Br_chooseRoot 33 = .ok (.iconst 0, 1) := by decide +kernel
theorem d_Br_chooseRoot_34 : decode b_Br_chooseRoot 34 = .ok (.istore 5, 2) := by decide +kernel
theorem d_Br_chooseRoot_36 : decode b_Br_chooseRoot 36 = .ok (.iload 5, 2) := by decide +kernel
theorem d_Br_chooseRoot_38 : decode b_Br_chooseRoot 38 = .ok (.iload 4, 2) := by decide +kernel
theorem d_Br_chooseRoot_40 : decode b_Br_chooseRoot 40 = .ok (.if_icmp .ge 81, 3) := by decide +kernel
theorem d_Br_chooseRoot_43 : decode b_Br_chooseRoot 43 = .ok (.aload_n 3, 1) := by decide +kernel
theorem d_Br_chooseRoot_44 : decode b_Br_chooseRoot 44 = .ok (.iload 5, 2) := by decide +kernel
theorem d_Br_chooseRoot_46 : decode b_Br_chooseRoot 46 = .ok (.aaload, 1) := by decide +kernel
theorem d_Br_chooseRoot_47 : decode b_Br_chooseRoot 47 = .ok (.astore 6, 2) := by decide +kernel
theorem d_Br_chooseRoot_49 : decode b_Br_chooseRoot 49 = .ok (.aload 6, 2) := by decide +kernel
theorem d_Br_chooseRoot_51 : decode b_Br_chooseRoot 51 = .ok (.getfield 66, 3) := by decide +kernel
theorem d_Br_chooseRoot_54 : decode b_Br_chooseRoot 54 = .ok (.ifCond .eq 61, 3) := by decide +kernel
theorem d_Br_chooseRoot_57 : decode b_Br_chooseRoot 57 = .ok (.aload 6, 2) := by decide +kernel
theorem d_Br_chooseRoot_59 : decode b_Br_chooseRoot 59 = .ok (.getfield 70, 3) := by decide +kernel
theorem d_Br_chooseRoot_62 : decode b_Br_chooseRoot 62 = .ok (.invokestatic 74, 3) := by decide +kernel
theorem d_Br_chooseRoot_65 : decode b_Br_chooseRoot 65 = .ok (.aload_n 0, 1) := by decide +kernel
theorem d_Br_chooseRoot_66 : decode b_Br_chooseRoot 66 = .ok (.getfield 38, 3) := by decide +kernel
theorem d_Br_chooseRoot_69 : decode b_Br_chooseRoot 69 = .ok (.if_icmp .ne 6, 3) := by decide +kernel
theorem d_Br_chooseRoot_72 : decode b_Br_chooseRoot 72 = .ok (.goto 43, 3) := by decide +kernel
theorem d_Br_chooseRoot_75 : decode b_Br_chooseRoot 75 = .ok (.aload 6, 2) := by decide +kernel
theorem d_Br_chooseRoot_77 : decode b_Br_chooseRoot 77 = .ok (.getfield 70, 3) := by decide +kernel
theorem d_Br_chooseRoot_80 : decode b_Br_chooseRoot 80 = .ok (.aload 6, 2) := by decide +kernel
theorem d_Br_chooseRoot_82 : decode b_Br_chooseRoot 82 = .ok (.getfield 78, 3) := by decide +kernel
theorem d_Br_chooseRoot_85 : decode b_Br_chooseRoot 85 = .ok (.invokestatic 79, 3) := by decide +kernel
theorem d_Br_chooseRoot_88 : decode b_Br_chooseRoot 88 = .ok (.lstore 7, 2) := by decide +kernel
theorem d_Br_chooseRoot_90 : decode b_Br_chooseRoot 90 = .ok (.lload 7, 2) := by decide +kernel
theorem d_Br_chooseRoot_92 : decode b_Br_chooseRoot 92 = .ok (.lload_n 1, 1) := by decide +kernel
theorem d_Br_chooseRoot_93 : decode b_Br_chooseRoot 93 = .ok (.lcmp, 1) := by decide +kernel
theorem d_Br_chooseRoot_94 : decode b_Br_chooseRoot 94 = .ok (.ifCond .ge 21, 3) := by decide +kernel
theorem d_Br_chooseRoot_97 : decode b_Br_chooseRoot 97 = .ok (.lload 7, 2) := by decide +kernel
theorem d_Br_chooseRoot_99 : decode b_Br_chooseRoot 99 = .ok (.lstore_n 1, 1) := by decide +kernel
theorem d_Br_chooseRoot_100 : decode b_Br_chooseRoot 100 = .ok (.aload_n 0, 1) := by decide +kernel
theorem d_Br_chooseRoot_101 : decode b_Br_chooseRoot 101 = .ok (.aload 6, 2) := by decide +kernel
theorem d_Br_chooseRoot_103 : decode b_Br_chooseRoot 103 = .ok (.invokevirtual 83, 3) := by decide +kernel
theorem d_Br_chooseRoot_106 : decode b_Br_chooseRoot 106 = .ok (.putfield 21, 3) := by decide +kernel
theorem d_Br_chooseRoot_109 : decode b_Br_chooseRoot 109 = .ok (.aload_n 0, 1) := by decide +kernel
theorem d_Br_chooseRoot_110 : decode b_Br_chooseRoot 110 = .ok (.aload 6, 2) := by decide +kernel
theorem d_Br_chooseRoot_112 : decode b_Br_chooseRoot 112 = .ok (.putfield 24, 3) := by decide +kernel
theorem d_Br_chooseRoot_115 : decode b_Br_chooseRoot 115 = .ok (.iinc 5 1, 3) := by decide +kernel
theorem d_Br_chooseRoot_118 : decode b_Br_chooseRoot 118 = .ok (.goto (-82), 3) := by decide +kernel
theorem d_Br_chooseRoot_121 : decode b_Br_chooseRoot 121 = .ok (.aload_n 0, 1) := by decide +kernel
theorem d_Br_chooseRoot_122 : decode b_Br_chooseRoot 122 = .ok (.lload_n 1, 1) := by decide +kernel
theorem d_Br_chooseRoot_123 : decode b_Br_chooseRoot 123 = .ok (.invokestatic 87, 3) := by decide +kernel
theorem d_Br_chooseRoot_126 : decode b_Br_chooseRoot 126 = .ok (.putfield 41, 3) := by decide +kernel
theorem d_Br_chooseRoot_129 : decode b_Br_chooseRoot 129 = .ok (.aload_n 0, 1) := by decide +kernel
theorem d_Br_chooseRoot_130 : decode b_Br_chooseRoot 130 = .ok (.lload_n 1, 1) := by decide +kernel
theorem d_Br_chooseRoot_131 : decode b_Br_chooseRoot 131 = .ok (.invokestatic 90, 3) := by decide +kernel
theorem d_Br_chooseRoot_134 : decode b_Br_chooseRoot 134 = .ok (.putfield 17, 3) := by decide +kernel
theorem d_Br_chooseRoot_137 : decode b_Br_chooseRoot 137 = .ok (.return_, 1) := by decide +kernel
theorem d_Ve_of_0 : decode b_Ve_of 0 = .ok (.iload_n 0, 1) := by decide +kernel
theorem d_Ve_of_1 : decode b_Ve_of 1 = .ok (.i2l, 1) := by decide +kernel
theorem d_Ve_of_2 : decode b_Ve_of 2 = .ok (.bipush 32, 2) := by decide +kernel
theorem d_Ve_of_4 : decode b_Ve_of 4 = .ok (.lshl, 1) := by decide +kernel
theorem d_Ve_of_5 : decode b_Ve_of 5 = .ok (.iload_n 1, 1) := by decide +kernel
theorem d_Ve_of_6 : decode b_Ve_of 6 = .ok (.i2l, 1) := by decide +kernel
theorem d_Ve_of_7 : decode b_Ve_of 7 = .ok (.bipush 16, 2) := by decide +kernel
theorem d_Ve_of_9 : decode b_Ve_of 9 = .ok (.lshl, 1) := by decide +kernel
theorem d_Ve_of_10 : decode b_Ve_of 10 = .ok (.lor, 1) := by decide +kernel
theorem d_Ve_of_11 : decode b_Ve_of 11 = .ok (.iload_n 2, 1) := by decide +kernel
theorem d_Ve_of_12 : decode b_Ve_of 12 = .ok (.i2l, 1) := by decide +kernel
theorem d_Ve_of_13 : decode b_Ve_of 13 = .ok (.bipush 8, 2) := by decide +kernel
theorem d_Ve_of_15 : decode b_Ve_of 15 = .ok (.lshl, 1) := by decide +kernel
theorem d_Ve_of_16 : decode b_Ve_of 16 = .ok (.lor, 1) := by decide +kernel
theorem d_Ve_of_17 : decode b_Ve_of 17 = .ok (.iload_n 3, 1) := by decide +kernel
theorem d_Ve_of_18 : decode b_Ve_of 18 = .ok (.i2l, 1) := by decide +kernel
theorem d_Ve_of_19 : decode b_Ve_of 19 = .ok (.lor, 1) := by decide +kernel
theorem d_Ve_of_20 : decode b_Ve_of 20 = .ok (.lreturn, 1) := by decide +kernel
theorem d_Ve_bridgeOf_0 : decode b_Ve_bridgeOf 0 = .ok (.lload_n 0, 1) := by decide +kernel
theorem d_Ve_bridgeOf_1 : decode b_Ve_bridgeOf 1 = .ok (.bipush 8, 2) := by decide +kernel
theorem d_Ve_bridgeOf_3 : decode b_Ve_bridgeOf 3 = .ok (.lshr, 1) := by decide +kernel
theorem d_Ve_bridgeOf_4 : decode b_Ve_bridgeOf 4 = .ok (.l2i, 1) := by decide +kernel
theorem d_Ve_bridgeOf_5 : decode b_Ve_bridgeOf 5 = .ok (.sipush 255, 3) := by decide +kernel
theorem d_Ve_bridgeOf_8 : decode b_Ve_bridgeOf 8 = .ok (.iand, 1) := by decide +kernel
theorem d_Ve_bridgeOf_9 : decode b_Ve_bridgeOf 9 = .ok (.ireturn, 1) := by decide +kernel
theorem d_Ve_farther_0 : decode b_Ve_farther 0 = .ok (.lload_n 0, 1) := by decide +kernel
theorem d_Ve_farther_1 : decode b_Ve_farther 1 = .ok (.iload_n 2, 1) := by decide +kernel
theorem d_Ve_farther_2 : decode b_Ve_farther 2 = .ok (.i2l, 1) := by decide +kernel
theorem d_Ve_farther_3 : decode b_Ve_farther 3 = .ok (.bipush 16, 2) := by decide +kernel
theorem d_Ve_farther_5 : decode b_Ve_farther 5 = .ok (.lshl, 1) := by decide +kernel
theorem d_Ve_farther_6 : decode b_Ve_farther 6 = .ok (.ladd, 1) := by decide +kernel
theorem d_Ve_farther_7 : decode b_Ve_farther 7 = .ok (.lreturn, 1) := by decide +kernel
theorem d_Po_hopsThrough_0 : decode b_Po_hopsThrough 0 = .ok (.aload_n 0, 1) := by decide +kernel
theorem d_Po_hopsThrough_1 : decode b_Po_hopsThrough 1 = .ok (.getfield 41, 3) := by decide +kernel
theorem d_Po_hopsThrough_4 : decode b_Po_hopsThrough 4 = .ok (.iconst 1, 1) := by decide +kernel
theorem d_Po_hopsThrough_5 : decode b_Po_hopsThrough 5 = .ok (.iadd, 1) := by decide +kernel
theorem d_Po_hopsThrough_6 : decode b_Po_hopsThrough 6 = .ok (.ireturn, 1) := by decide +kernel
theorem d_Ve_rootOf_0 : decode b_Ve_rootOf 0 = .ok (.lload_n 0, 1) := by decide +kernel
theorem d_Ve_rootOf_1 : decode b_Ve_rootOf 1 = .ok (.bipush 32, 2) := by decide +kernel
theorem d_Ve_rootOf_3 : decode b_Ve_rootOf 3 = .ok (.lshr, 1) := by decide +kernel
theorem d_Ve_rootOf_4 : decode b_Ve_rootOf 4 = .ok (.l2i, 1) := by decide +kernel
theorem d_Ve_rootOf_5 : decode b_Ve_rootOf 5 = .ok (.ireturn, 1) := by decide +kernel
theorem d_Ve_costOf_0 : decode b_Ve_costOf 0 = .ok (.lload_n 0, 1) := by decide +kernel
theorem d_Ve_costOf_1 : decode b_Ve_costOf 1 = .ok (.bipush 16, 2) := by decide +kernel
theorem d_Ve_costOf_3 : decode b_Ve_costOf 3 = .ok (.lshr, 1) := by decide +kernel
theorem d_Ve_costOf_4 : decode b_Ve_costOf 4 = .ok (.l2i, 1) := by decide +kernel
theorem d_Ve_costOf_5 : decode b_Ve_costOf 5 = .ok (.ldc 9, 2) := by decide +kernel
theorem d_Ve_costOf_7 : decode b_Ve_costOf 7 = .ok (.iand, 1) := by decide +kernel
theorem d_Ve_costOf_8 : decode b_Ve_costOf 8 = .ok (.ireturn, 1) := by decide +kernel
theorem d_Br_giveRoles_0 : decode b_Br_giveRoles 0 = .ok (.iconst 0, 1) := by decide +kernel
theorem d_Br_giveRoles_1 : decode b_Br_giveRoles 1 = .ok (.istore_n 1, 1) := by decide +kernel
theorem d_Br_giveRoles_2 : decode b_Br_giveRoles 2 = .ok (.aload_n 0, 1) := by decide +kernel
theorem d_Br_giveRoles_3 : decode b_Br_giveRoles 3 = .ok (.getfield 11, 3) := by decide +kernel
theorem d_Br_giveRoles_6 : decode b_Br_giveRoles 6 = .ok (.astore_n 2, 1) := by decide +kernel
theorem d_Br_giveRoles_7 : decode b_Br_giveRoles 7 = .ok (.aload_n 2, 1) := by decide +kernel
theorem d_Br_giveRoles_8 : decode b_Br_giveRoles 8 = .ok (.arraylength, 1) := by decide +kernel
theorem d_Br_giveRoles_9 : decode b_Br_giveRoles 9 = .ok (.istore_n 3, 1) := by decide +kernel
theorem d_Br_giveRoles_10 : decode b_Br_giveRoles 10 = .ok (.iconst 0, 1) := by decide +kernel
theorem d_Br_giveRoles_11 : decode b_Br_giveRoles 11 = .ok (.istore 4, 2) := by decide +kernel
theorem d_Br_giveRoles_13 : decode b_Br_giveRoles 13 = .ok (.iload 4, 2) := by decide +kernel
theorem d_Br_giveRoles_15 : decode b_Br_giveRoles 15 = .ok (.iload_n 3, 1) := by decide +kernel
theorem d_Br_giveRoles_16 : decode b_Br_giveRoles 16 = .ok (.if_icmp .ge 42, 3) := by decide +kernel
theorem d_Br_giveRoles_19 : decode b_Br_giveRoles 19 = .ok (.aload_n 2, 1) := by decide +kernel
theorem d_Br_giveRoles_20 : decode b_Br_giveRoles 20 = .ok (.iload 4, 2) := by decide +kernel
theorem d_Br_giveRoles_22 : decode b_Br_giveRoles 22 = .ok (.aaload, 1) := by decide +kernel
theorem d_Br_giveRoles_23 : decode b_Br_giveRoles 23 = .ok (.astore 5, 2) := by decide +kernel
theorem d_Br_giveRoles_25 : decode b_Br_giveRoles 25 = .ok (.aload_n 0, 1) := by decide +kernel
theorem d_Br_giveRoles_26 : decode b_Br_giveRoles 26 = .ok (.aload 5, 2) := by decide +kernel
theorem d_Br_giveRoles_28 : decode b_Br_giveRoles 28 = .ok (.invokevirtual 93, 3) := by decide +kernel
theorem d_Br_giveRoles_31 : decode b_Br_giveRoles 31 = .ok (.istore 6, 2) := by decide +kernel
theorem d_Br_giveRoles_33 : decode b_Br_giveRoles 33 = .ok (.iload 6, 2) := by decide +kernel
theorem d_Br_giveRoles_35 : decode b_Br_giveRoles 35 = .ok (.aload 5, 2) := by decide +kernel
theorem d_Br_giveRoles_37 : decode b_Br_giveRoles 37 = .ok (.getfield 97, 3) := by decide +kernel
theorem d_Br_giveRoles_40 : decode b_Br_giveRoles 40 = .ok (.if_icmp .eq 12, 3) := by decide +kernel
theorem d_Br_giveRoles_43 : decode b_Br_giveRoles 43 = .ok (.aload 5, 2) := by decide +kernel
theorem d_Br_giveRoles_45 : decode b_Br_giveRoles 45 = .ok (.iload 6, 2) := by decide +kernel
theorem d_Br_giveRoles_47 : decode b_Br_giveRoles 47 = .ok (.invokevirtual 100, 3) := by decide +kernel
theorem d_Br_giveRoles_50 : decode b_Br_giveRoles 50 = .ok (.iconst 1, 1) := by decide +kernel
theorem d_Br_giveRoles_51 : decode b_Br_giveRoles 51 = .ok (.istore_n 1, 1) := by decide +kernel
theorem d_Br_giveRoles_52 : decode b_Br_giveRoles 52 = .ok (.iinc 4 1, 3) := by decide +kernel
theorem d_Br_giveRoles_55 : decode b_Br_giveRoles 55 = .ok (.goto (-42), 3) := by decide +kernel
theorem d_Br_giveRoles_58 : decode b_Br_giveRoles 58 = .ok (.iload_n 1, 1) := by decide +kernel
theorem d_Br_giveRoles_59 : decode b_Br_giveRoles 59 = .ok (.ireturn, 1) := by decide +kernel
theorem d_Br_dueRole_0 : decode b_Br_dueRole 0 = .ok (.aload_n 1, 1) := by decide +kernel
theorem d_Br_dueRole_1 : decode b_Br_dueRole 1 = .ok (.invokevirtual 47, 3) := by decide +kernel
theorem d_Br_dueRole_4 : decode b_Br_dueRole 4 = .ok (.ifCond .eq 5, 3) := by decide +kernel
theorem d_Br_dueRole_7 : decode b_Br_dueRole 7 = .ok (.iconst 0, 1) := by decide +kernel
theorem d_Br_dueRole_8 : decode b_Br_dueRole 8 = .ok (.ireturn, 1) := by decide +kernel
theorem d_Br_dueRole_9 : decode b_Br_dueRole 9 = .ok (.aload_n 1, 1) := by decide +kernel
theorem d_Br_dueRole_10 : decode b_Br_dueRole 10 = .ok (.getfield 104, 3) := by decide +kernel
theorem d_Br_dueRole_13 : decode b_Br_dueRole 13 = .ok (.ifnull 5, 3) := by decide +kernel
theorem d_Br_dueRole_16 : decode b_Br_dueRole 16 = .ok (.iconst 2, 1) := by decide +kernel
theorem d_Br_dueRole_17 : decode b_Br_dueRole 17 = .ok (.ireturn, 1) := by decide +kernel
theorem d_Br_dueRole_18 : decode b_Br_dueRole 18 = .ok (.aload_n 1, 1) := by decide +kernel
theorem d_Br_dueRole_19 : decode b_Br_dueRole 19 = .ok (.aload_n 0, 1) := by decide +kernel
theorem d_Br_dueRole_20 : decode b_Br_dueRole 20 = .ok (.getfield 24, 3) := by decide +kernel
theorem d_Br_dueRole_23 : decode b_Br_dueRole 23 = .ok (.if_acmp .ne 5, 3) := by decide +kernel
theorem d_Br_dueRole_26 : decode b_Br_dueRole 26 = .ok (.iconst 1, 1) := by decide +kernel
theorem d_Br_dueRole_27 : decode b_Br_dueRole 27 = .ok (.ireturn, 1) := by decide +kernel
theorem d_Br_dueRole_28 : decode b_Br_dueRole 28 = .ok (.aload_n 1, 1) := by decide +kernel
theorem d_Br_dueRole_29 : decode b_Br_dueRole 29 = .ok (.getfield 66, 3) := by decide +kernel
theorem d_Br_dueRole_32 : decode b_Br_dueRole 32 = .ok (.ifCond .eq 16, 3) := by decide +kernel
theorem d_Br_dueRole_35 : decode b_Br_dueRole 35 = .ok (.aload_n 0, 1) := by decide +kernel
theorem d_Br_dueRole_36 : decode b_Br_dueRole 36 = .ok (.aload_n 1, 1) := by decide +kernel
theorem d_Br_dueRole_37 : decode b_Br_dueRole 37 = .ok (.invokevirtual 108, 3) := by decide +kernel
theorem d_Br_dueRole_40 : decode b_Br_dueRole 40 = .ok (.aload_n 1, 1) := by decide +kernel
theorem d_Br_dueRole_41 : decode b_Br_dueRole 41 = .ok (.getfield 70, 3) := by decide +kernel
theorem d_Br_dueRole_44 : decode b_Br_dueRole 44 = .ok (.lcmp, 1) := by decide +kernel
theorem d_Br_dueRole_45 : decode b_Br_dueRole 45 = .ok (.ifCond .ge 7, 3) := by decide +kernel
theorem d_Br_dueRole_48 : decode b_Br_dueRole 48 = .ok (.iconst 2, 1) := by decide +kernel
theorem d_Br_dueRole_49 : decode b_Br_dueRole 49 = .ok (.goto 4, 3) := by decide +kernel
theorem d_Br_dueRole_52 : decode b_Br_dueRole 52 = .ok (.iconst 3, 1) := by decide +kernel
theorem d_Br_dueRole_53 : decode b_Br_dueRole 53 = .ok (.ireturn, 1) := by decide +kernel
theorem d_Br_ownVector_0 : decode b_Br_ownVector 0 = .ok (.aload_n 0, 1) := by decide +kernel
theorem d_Br_ownVector_1 : decode b_Br_ownVector 1 = .ok (.getfield 41, 3) := by decide +kernel
theorem d_Br_ownVector_4 : decode b_Br_ownVector 4 = .ok (.aload_n 0, 1) := by decide +kernel
theorem d_Br_ownVector_5 : decode b_Br_ownVector 5 = .ok (.getfield 17, 3) := by decide +kernel
theorem d_Br_ownVector_8 : decode b_Br_ownVector 8 = .ok (.aload_n 0, 1) := by decide +kernel
theorem d_Br_ownVector_9 : decode b_Br_ownVector 9 = .ok (.getfield 38, 3) := by decide +kernel
theorem d_Br_ownVector_12 : decode b_Br_ownVector 12 = .ok (.aload_n 1, 1) := by decide +kernel
theorem d_Br_ownVector_13 : decode b_Br_ownVector 13 = .ok (.getfield 112, 3) := by decide +kernel
theorem d_Br_ownVector_16 : decode b_Br_ownVector 16 = .ok (.invokestatic 60, 3) := by decide +kernel
theorem d_Br_ownVector_19 : decode b_Br_ownVector 19 = .ok (.lreturn, 1) := by decide +kernel
theorem d_Po_become_0 : decode b_Po_become 0 = .ok (.aload_n 0, 1) := by decide +kernel
theorem d_Po_become_1 : decode b_Po_become 1 = .ok (.iload_n 1, 1) := by decide +kernel
theorem d_Po_become_2 : decode b_Po_become 2 = .ok (.putfield 47, 3) := by decide +kernel
theorem d_Po_become_5 : decode b_Po_become 5 = .ok (.aload_n 0, 1) := by decide +kernel
theorem d_Po_become_6 : decode b_Po_become 6 = .ok (.iconst 0, 1) := by decide +kernel
theorem d_Po_become_7 : decode b_Po_become 7 = .ok (.putfield 56, 3) := by decide +kernel
theorem d_Po_become_10 : decode b_Po_become 10 = .ok (.iload_n 1, 1) := by decide +kernel
theorem d_Po_become_11 : decode b_Po_become 11 = .ok (.iconst 2, 1) := by decide +kernel
theorem d_Po_become_12 : decode b_Po_become 12 = .ok (.if_icmp .ne 17, 3) := by decide +kernel
theorem d_Po_become_15 : decode b_Po_become 15 = .ok (.aload_n 0, 1) := by decide +kernel
theorem d_Po_become_16 : decode b_Po_become 16 = .ok (.getfield 29, 3) := by decide +kernel
theorem d_Po_become_19 : decode b_Po_become 19 = .ok (.ifnonnull 10, 3) := by decide +kernel
theorem d_Po_become_22 : decode b_Po_become 22 = .ok (.aload_n 0, 1) := by decide +kernel
theorem d_Po_become_23 : decode b_Po_become 23 = .ok (.invokevirtual 81, 3) := by decide +kernel
theorem d_Po_become_26 : decode b_Po_become 26 = .ok (.goto 32, 3) := by decide +kernel
theorem d_Po_become_29 : decode b_Po_become 29 = .ok (.aload_n 0, 1) := by decide +kernel
theorem d_Po_become_30 : decode b_Po_become 30 = .ok (.iconst 0, 1) := by decide +kernel
theorem d_Po_become_31 : decode b_Po_become 31 = .ok (.putfield 53, 3) := by decide +kernel
theorem d_Po_become_34 : decode b_Po_become 34 = .ok (.aload_n 0, 1) := by decide +kernel
theorem d_Po_become_35 : decode b_Po_become 35 = .ok (.iconst 0, 1) := by decide +kernel
theorem d_Po_become_36 : decode b_Po_become 36 = .ok (.putfield 59, 3) := by decide +kernel
theorem d_Po_become_39 : decode b_Po_become 39 = .ok (.aload_n 0, 1) := by decide +kernel
theorem d_Po_become_40 : decode b_Po_become 40 = .ok (.iload_n 1, 1) := by decide +kernel
theorem d_Po_become_41 : decode b_Po_become 41 = .ok (.iconst 1, 1) := by decide +kernel
theorem d_Po_become_42 : decode b_Po_become 42 = .ok (.if_icmp .eq 8, 3) := by decide +kernel
theorem d_Po_become_45 : decode b_Po_become 45 = .ok (.iload_n 1, 1) := by decide +kernel
theorem d_Po_become_46 : decode b_Po_become 46 = .ok (.iconst 2, 1) := by decide +kernel
theorem d_Po_become_47 : decode b_Po_become 47 = .ok (.if_icmp .ne 7, 3) := by decide +kernel
theorem d_Po_become_50 : decode b_Po_become 50 = .ok (.iconst 2, 1) := by decide +kernel
theorem d_Po_become_51 : decode b_Po_become 51 = .ok (.goto 4, 3) := by decide +kernel
theorem d_Po_become_54 : decode b_Po_become 54 = .ok (.iconst 0, 1) := by decide +kernel
theorem d_Po_become_55 : decode b_Po_become 55 = .ok (.putfield 50, 3) := by decide +kernel
theorem d_Po_become_58 : decode b_Po_become 58 = .ok (.return_, 1) := by decide +kernel
theorem d_Po_propose_0 : decode b_Po_propose 0 = .ok (.aload_n 0, 1) := by decide +kernel
theorem d_Po_propose_1 : decode b_Po_propose 1 = .ok (.iconst 0, 1) := by decide +kernel
theorem d_Po_propose_2 : decode b_Po_propose 2 = .ok (.putfield 50, 3) := by decide +kernel
theorem d_Po_propose_5 : decode b_Po_propose 5 = .ok (.aload_n 0, 1) := by decide +kernel
theorem d_Po_propose_6 : decode b_Po_propose 6 = .ok (.iconst 1, 1) := by decide +kernel
theorem d_Po_propose_7 : decode b_Po_propose 7 = .ok (.putfield 53, 3) := by decide +kernel
theorem d_Po_propose_10 : decode b_Po_propose 10 = .ok (.aload_n 0, 1) := by decide +kernel
theorem d_Po_propose_11 : decode b_Po_propose 11 = .ok (.iconst 4, 1) := by decide +kernel
theorem d_Po_propose_12 : decode b_Po_propose 12 = .ok (.putfield 59, 3) := by decide +kernel
theorem d_Po_propose_15 : decode b_Po_propose 15 = .ok (.return_, 1) := by decide +kernel
theorem d_Br_tellOnAll_0 : decode b_Br_tellOnAll 0 = .ok (.aload_n 0, 1) := by decide +kernel
theorem d_Br_tellOnAll_1 : decode b_Br_tellOnAll 1 = .ok (.getfield 11, 3) := by decide +kernel
theorem d_Br_tellOnAll_4 : decode b_Br_tellOnAll 4 = .ok (.astore_n 1, 1) := by decide +kernel
theorem d_Br_tellOnAll_5 : decode b_Br_tellOnAll 5 = .ok (.aload_n 1, 1) := by decide +kernel
theorem d_Br_tellOnAll_6 : decode b_Br_tellOnAll 6 = .ok (.arraylength, 1) := by decide +kernel
theorem d_Br_tellOnAll_7 : decode b_Br_tellOnAll 7 = .ok (.istore_n 2, 1) := by decide +kernel
theorem d_Br_tellOnAll_8 : decode b_Br_tellOnAll 8 = .ok (.iconst 0, 1) := by decide +kernel
theorem d_Br_tellOnAll_9 : decode b_Br_tellOnAll 9 = .ok (.istore_n 3, 1) := by decide +kernel
theorem d_Br_tellOnAll_10 : decode b_Br_tellOnAll 10 = .ok (.iload_n 3, 1) := by decide +kernel
theorem d_Br_tellOnAll_11 : decode b_Br_tellOnAll 11 = .ok (.iload_n 2, 1) := by decide +kernel
theorem d_Br_tellOnAll_12 : decode b_Br_tellOnAll 12 = .ok (.if_icmp .ge 28, 3) := by decide +kernel
theorem d_Br_tellOnAll_15 : decode b_Br_tellOnAll 15 = .ok (.aload_n 1, 1) := by decide +kernel
theorem d_Br_tellOnAll_16 : decode b_Br_tellOnAll 16 = .ok (.iload_n 3, 1) := by decide +kernel
theorem d_Br_tellOnAll_17 : decode b_Br_tellOnAll 17 = .ok (.aaload, 1) := by decide +kernel
theorem d_Br_tellOnAll_18 : decode b_Br_tellOnAll 18 = .ok (.astore 4, 2) := by decide +kernel
theorem d_Br_tellOnAll_20 : decode b_Br_tellOnAll 20 = .ok (.aload 4, 2) := by decide +kernel
theorem d_Br_tellOnAll_22 : decode b_Br_tellOnAll 22 = .ok (.invokevirtual 113, 3) := by decide +kernel
theorem d_Br_tellOnAll_25 : decode b_Br_tellOnAll 25 = .ok (.ifCond .eq 9, 3) := by decide +kernel
theorem d_Br_tellOnAll_28 : decode b_Br_tellOnAll 28 = .ok (.aload_n 0, 1) := by decide +kernel
theorem d_Br_tellOnAll_29 : decode b_Br_tellOnAll 29 = .ok (.aload 4, 2) := by decide +kernel
theorem d_Br_tellOnAll_31 : decode b_Br_tellOnAll 31 = .ok (.invokevirtual 116, 3) := by decide +kernel
theorem d_Br_tellOnAll_34 : decode b_Br_tellOnAll 34 = .ok (.iinc 3 1, 3) := by decide +kernel
theorem d_Br_tellOnAll_37 : decode b_Br_tellOnAll 37 = .ok (.goto (-27), 3) := by decide +kernel
theorem d_Br_tellOnAll_40 : decode b_Br_tellOnAll 40 = .ok (.return_, 1) := by decide +kernel
theorem d_Po_isLinkedDesignated_0 : decode b_Po_isLinkedDesignated 0 = .ok (.aload_n 0, 1) := by decide +kernel
theorem d_Po_isLinkedDesignated_1 : decode b_Po_isLinkedDesignated 1 = .ok (.getfield 25, 3) := by decide +kernel
theorem d_Po_isLinkedDesignated_4 : decode b_Po_isLinkedDesignated 4 = .ok (.ifnull 15, 3) := by decide +kernel
theorem d_Po_isLinkedDesignated_7 : decode b_Po_isLinkedDesignated 7 = .ok (.aload_n 0, 1) := by decide +kernel
theorem d_Po_isLinkedDesignated_8 : decode b_Po_isLinkedDesignated 8 = .ok (.getfield 47, 3) := by decide +kernel
theorem d_Po_isLinkedDesignated_11 : decode b_Po_isLinkedDesignated 11 = .ok (.iconst 2, 1) := by decide +kernel
theorem d_Po_isLinkedDesignated_12 : decode b_Po_isLinkedDesignated 12 = .ok (.if_icmp .ne 7, 3) := by decide +kernel
theorem d_Po_isLinkedDesignated_15 : decode b_Po_isLinkedDesignated 15 = .ok (.iconst 1, 1) := by decide +kernel
theorem d_Po_isLinkedDesignated_16 : decode b_Po_isLinkedDesignated 16 = .ok (.goto 4, 3) := by decide +kernel
theorem d_Po_isLinkedDesignated_19 : decode b_Po_isLinkedDesignated 19 = .ok (.iconst 0, 1) := by decide +kernel
theorem d_Po_isLinkedDesignated_20 : decode b_Po_isLinkedDesignated 20 = .ok (.ireturn, 1) := by decide +kernel
theorem d_Br_tellOn_0 : decode b_Br_tellOn 0 = .ok (.aload_n 1, 1) := by decide +kernel
theorem d_Br_tellOn_1 : decode b_Br_tellOn 1 = .ok (.getfield 120, 3) := by decide +kernel
theorem d_Br_tellOn_4 : decode b_Br_tellOn 4 = .ok (.ifnull 26, 3) := by decide +kernel
theorem d_Br_tellOn_7 : decode b_Br_tellOn 7 = .ok (.aload_n 1, 1) := by decide +kernel
theorem d_Br_tellOn_8 : decode b_Br_tellOn 8 = .ok (.getfield 120, 3) := by decide +kernel
theorem d_Br_tellOn_11 : decode b_Br_tellOn 11 = .ok (.getfield 123, 3) := by decide +kernel
theorem d_Br_tellOn_14 : decode b_Br_tellOn 14 = .ok (.aload_n 0, 1) := by decide +kernel
theorem d_Br_tellOn_15 : decode b_Br_tellOn 15 = .ok (.aload_n 1, 1) := by decide +kernel
theorem d_Br_tellOn_16 : decode b_Br_tellOn 16 = .ok (.invokevirtual 108, 3) := by decide +kernel
theorem d_Br_tellOn_19 : decode b_Br_tellOn 19 = .ok (.aload_n 0, 1) := by decide +kernel
theorem d_Br_tellOn_20 : decode b_Br_tellOn 20 = .ok (.getfield 21, 3) := by decide +kernel
theorem d_Br_tellOn_23 : decode b_Br_tellOn 23 = .ok (.aload_n 1, 1) := by decide +kernel
theorem d_Br_tellOn_24 : decode b_Br_tellOn 24 = .ok (.getfield 127, 3) := by decide +kernel
theorem d_Br_tellOn_27 : decode b_Br_tellOn 27 = .ok (.invokevirtual 130, 3) := by decide +kernel
theorem d_Br_tellOn_30 : decode b_Br_tellOn 30 = .ok (.return_, 1) := by decide +kernel
theorem d_Li_putTell_0 : decode b_Li_putTell 0 = .ok (.aload_n 0, 1) := by decide +kernel
theorem d_Li_putTell_1 : decode b_Li_putTell 1 = .ok (.iconst 1, 1) := by decide +kernel
theorem d_Li_putTell_2 : decode b_Li_putTell 2 = .ok (.lload_n 1, 1) := by decide +kernel
theorem d_Li_putTell_3 : decode b_Li_putTell 3 = .ok (.invokestatic 25, 3) := by decide +kernel
theorem d_Li_putTell_6 : decode b_Li_putTell 6 = .ok (.aconst_null, 1) := by decide +kernel
theorem d_Li_putTell_7 : decode b_Li_putTell 7 = .ok (.invokevirtual 31, 3) := by decide +kernel
theorem d_Li_putTell_10 : decode b_Li_putTell 10 = .ok (.astore 5, 2) := by decide +kernel
theorem d_Li_putTell_12 : decode b_Li_putTell 12 = .ok (.aload 5, 2) := by decide +kernel
theorem d_Li_putTell_14 : decode b_Li_putTell 14 = .ok (.ifnull 22, 3) := by decide +kernel
theorem d_Li_putTell_17 : decode b_Li_putTell 17 = .ok (.aload 5, 2) := by decide +kernel
theorem d_Li_putTell_19 : decode b_Li_putTell 19 = .ok (.lload_n 1, 1) := by decide +kernel
theorem d_Li_putTell_20 : decode b_Li_putTell 20 = .ok (.putfield 35, 3) := by decide +kernel
theorem d_Li_putTell_23 : decode b_Li_putTell 23 = .ok (.aload 5, 2) := by decide +kernel
theorem d_Li_putTell_25 : decode b_Li_putTell 25 = .ok (.iload_n 3, 1) := by decide +kernel
theorem d_Li_putTell_26 : decode b_Li_putTell 26 = .ok (.putfield 39, 3) := by decide +kernel
theorem d_Li_putTell_29 : decode b_Li_putTell 29 = .ok (.aload 5, 2) := by decide +kernel
theorem d_Li_putTell_31 : decode b_Li_putTell 31 = .ok (.iload 4, 2) := by decide +kernel
theorem d_Li_putTell_33 : decode b_Li_putTell 33 = .ok (.putfield 42, 3) := by decide +kernel
theorem d_Li_putTell_36 : decode b_Li_putTell 36 = .ok (.return_, 1) := by decide +kernel
theorem d_Li_put_0 : decode b_Li_put 0 = .ok (.aload_n 0, 1) := by decide +kernel
theorem d_Li_put_1 : decode b_Li_put 1 = .ok (.getfield 21, 3) := by decide +kernel
theorem d_Li_put_4 : decode b_Li_put 4 = .ok (.bipush 12, 2) := by decide +kernel
theorem d_Li_put_6 : decode b_Li_put 6 = .ok (.if_icmp .ne 5, 3) := by decide +kernel
theorem d_Li_put_9 : decode b_Li_put 9 = .ok (.aconst_null, 1) := by decide +kernel
theorem d_Li_put_10 : decode b_Li_put 10 = .ok (.areturn, 1) := by decide +kernel
theorem d_Li_put_11 : decode b_Li_put 11 = .ok (.aload_n 0, 1) := by decide +kernel
theorem d_Li_put_12 : decode b_Li_put 12 = .ok (.getfield 11, 3) := by decide +kernel
theorem d_Li_put_15 : decode b_Li_put 15 = .ok (.aload_n 0, 1) := by decide +kernel
theorem d_Li_put_16 : decode b_Li_put 16 = .ok (.getfield 17, 3) := by decide +kernel
theorem d_Li_put_19 : decode b_Li_put 19 = .ok (.aload_n 0, 1) := by decide +kernel
theorem d_Li_put_20 : decode b_Li_put 20 = .ok (.getfield 21, 3) := by decide +kernel
theorem d_Li_put_23 : decode b_Li_put 23 = .ok (.iadd, 1) := by decide +kernel
theorem d_Li_put_24 : decode b_Li_put 24 = .ok (.bipush 12, 2) := by decide +kernel
theorem d_Li_put_26 : decode b_Li_put 26 = .ok (.irem, 1) := by decide +kernel
theorem d_Li_put_27 : decode b_Li_put 27 = .ok (.aaload, 1) := by decide +kernel
theorem d_Li_put_28 : decode b_Li_put 28 = .ok (.astore 4, 2) := by decide +kernel
theorem d_Li_put_30 : decode b_Li_put 30 = .ok (.aload_n 0, 1) := by decide +kernel
theorem d_Li_put_31 : decode b_Li_put 31 = .ok (.dup, 1) := by decide +kernel
theorem d_Li_put_32 : decode b_Li_put 32 = .ok (.getfield 21, 3) := by decide +kernel
theorem d_Li_put_35 : decode b_Li_put 35 = .ok (.iconst 1, 1) := by decide +kernel
theorem d_Li_put_36 : decode b_Li_put 36 = .ok (.iadd, 1) := by decide +kernel
theorem d_Li_put_37 : decode b_Li_put 37 = .ok (.putfield 21, 3) := by decide +kernel
theorem d_Li_put_40 : decode b_Li_put 40 = .ok (.aload 4, 2) := by decide +kernel
theorem d_Li_put_42 : decode b_Li_put 42 = .ok (.iload_n 1, 1) := by decide +kernel
theorem d_Li_put_43 : decode b_Li_put 43 = .ok (.putfield 46, 3) := by decide +kernel
theorem d_Li_put_46 : decode b_Li_put 46 = .ok (.aload 4, 2) := by decide +kernel
theorem d_Li_put_48 : decode b_Li_put 48 = .ok (.iload_n 2, 1) := by decide +kernel
theorem d_Li_put_49 : decode b_Li_put 49 = .ok (.putfield 49, 3) := by decide +kernel
theorem d_Li_put_52 : decode b_Li_put 52 = .ok (.aload 4, 2) := by decide +kernel
theorem d_Li_put_54 : decode b_Li_put 54 = .ok (.aload_n 3, 1) := by decide +kernel
theorem d_Li_put_55 : decode b_Li_put 55 = .ok (.putfield 52, 3) := by decide +kernel
theorem d_Li_put_58 : decode b_Li_put 58 = .ok (.aload 4, 2) := by decide +kernel
theorem d_Li_put_60 : decode b_Li_put 60 = .ok (.areturn, 1) := by decide +kernel
theorem d_Ne_set_0 : decode b_Ne_set 0 = .ok (.aload_n 0, 1) := by decide +kernel
theorem d_Ne_set_1 : decode b_Ne_set 1 = .ok (.iload_n 1, 1) := by decide +kernel
theorem d_Ne_set_2 : decode b_Ne_set 2 = .ok (.iload_n 2, 1) := by decide +kernel
theorem d_Ne_set_3 : decode b_Ne_set 3 = .ok (.invokevirtual 46, 3) := by decide +kernel
theorem d_Ne_set_6 : decode b_Ne_set 6 = .ok (.astore 5, 2) := by decide +kernel
theorem d_Ne_set_8 : decode b_Ne_set 8 = .ok (.aload 5, 2) := by decide +kernel
theorem d_Ne_set_10 : decode b_Ne_set 10 = .ok (.ifnull 26, 3) := by decide +kernel
theorem d_Ne_set_13 : decode b_Ne_set 13 = .ok (.iload_n 3, 1) := by decide +kernel
theorem d_Ne_set_14 : decode b_Ne_set 14 = .ok (.iconst 1, 1) := by decide +kernel
theorem d_Ne_set_15 : decode b_Ne_set 15 = .ok (.if_icmp .lt 21, 3) := by decide +kernel
theorem d_Ne_set_18 : decode b_Ne_set 18 = .ok (.iload_n 3, 1) := by decide +kernel
theorem d_Ne_set_19 : decode b_Ne_set 19 = .ok (.bipush 50, 2) := by decide +kernel
theorem d_Ne_set_21 : decode b_Ne_set 21 = .ok (.if_icmp .gt 15, 3) := by decide +kernel
theorem d_Ne_set_24 : decode b_Ne_set 24 = .ok (.iload 4, 2) := by decide +kernel
theorem d_Ne_set_26 : decode b_Ne_set 26 = .ok (.iconst 1, 1) := by decide +kernel
theorem d_Ne_set_27 : decode b_Ne_set 27 = .ok (.if_icmp .lt 9, 3) := by decide +kernel
theorem d_Ne_set_30 : decode b_Ne_set 30 = .ok (.iload 4, 2) := by decide +kernel
theorem d_Ne_set_32 : decode b_Ne_set 32 = .ok (.iconst 3, 1) := by decide +kernel
theorem d_Ne_set_33 : decode b_Ne_set 33 = .ok (.if_icmp .le 5, 3) := by decide +kernel
theorem d_Ne_set_36 : decode b_Ne_set 36 = .ok (.iconst 0, 1) := by decide +kernel
theorem d_Ne_set_37 : decode b_Ne_set 37 = .ok (.ireturn, 1) := by decide +kernel
theorem d_Ne_set_38 : decode b_Ne_set 38 = .ok (.aload 5, 2) := by decide +kernel
theorem d_Ne_set_40 : decode b_Ne_set 40 = .ok (.iload_n 3, 1) := by decide +kernel
theorem d_Ne_set_41 : decode b_Ne_set 41 = .ok (.putfield 50, 3) := by decide +kernel
theorem d_Ne_set_44 : decode b_Ne_set 44 = .ok (.aload 5, 2) := by decide +kernel
theorem d_Ne_set_46 : decode b_Ne_set 46 = .ok (.iload 4, 2) := by decide +kernel
theorem d_Ne_set_48 : decode b_Ne_set 48 = .ok (.putfield 56, 3) := by decide +kernel
theorem d_Ne_set_51 : decode b_Ne_set 51 = .ok (.aload 5, 2) := by decide +kernel
theorem d_Ne_set_53 : decode b_Ne_set 53 = .ok (.getfield 59, 3) := by decide +kernel
theorem d_Ne_set_56 : decode b_Ne_set 56 = .ok (.invokevirtual 43, 3) := by decide +kernel
theorem d_Ne_set_59 : decode b_Ne_set 59 = .ok (.iconst 1, 1) := by decide +kernel
theorem d_Ne_set_60 : decode b_Ne_set 60 = .ok (.ireturn, 1) := by decide +kernel
theorem d_Ne_findPort_0 : decode b_Ne_findPort 0 = .ok (.iload_n 1, 1) := by decide +kernel
theorem d_Ne_findPort_1 : decode b_Ne_findPort 1 = .ok (.invokestatic 32, 3) := by decide +kernel
theorem d_Ne_findPort_4 : decode b_Ne_findPort 4 = .ok (.ifCond .eq 26, 3) := by decide +kernel
theorem d_Ne_findPort_7 : decode b_Ne_findPort 7 = .ok (.iload_n 2, 1) := by decide +kernel
theorem d_Ne_findPort_8 : decode b_Ne_findPort 8 = .ok (.ifCond .lt 22, 3) := by decide +kernel
theorem d_Ne_findPort_11 : decode b_Ne_findPort 11 = .ok (.iload_n 2, 1) := by decide +kernel
theorem d_Ne_findPort_12 : decode b_Ne_findPort 12 = .ok (.iconst 4, 1) := by decide +kernel
theorem d_Ne_findPort_13 : decode b_Ne_findPort 13 = .ok (.if_icmp .ge 17, 3) := by decide +kernel
theorem d_Ne_findPort_16 : decode b_Ne_findPort 16 = .ok (.aload_n 0, 1) := by decide +kernel
theorem d_Ne_findPort_17 : decode b_Ne_findPort 17 = .ok (.getfield 11, 3) := by decide +kernel
theorem d_Ne_findPort_20 : decode b_Ne_findPort 20 = .ok (.iload_n 1, 1) := by decide +kernel
theorem d_Ne_findPort_21 : decode b_Ne_findPort 21 = .ok (.aaload, 1) := by decide +kernel
theorem d_Ne_findPort_22 : decode b_Ne_findPort 22 = .ok (.getfield 195, 3) := by decide +kernel
theorem d_Ne_findPort_25 : decode b_Ne_findPort 25 = .ok (.iload_n 2, 1) := by decide +kernel
theorem d_Ne_findPort_26 : decode b_Ne_findPort 26 = .ok (.aaload, 1) := by decide +kernel
theorem d_Ne_findPort_27 : decode b_Ne_findPort 27 = .ok (.goto 4, 3) := by decide +kernel
theorem d_Ne_findPort_30 : decode b_Ne_findPort 30 = .ok (.aconst_null, 1) := by decide +kernel
theorem d_Ne_findPort_31 : decode b_Ne_findPort 31 = .ok (.areturn, 1) := by decide +kernel
theorem d_Ne_link_0 : decode b_Ne_link 0 = .ok (.aload_n 0, 1) := by decide +kernel
theorem d_Ne_link_1 : decode b_Ne_link 1 = .ok (.iload_n 1, 1) := by decide +kernel
theorem d_Ne_link_2 : decode b_Ne_link 2 = .ok (.iload_n 2, 1) := by decide +kernel
theorem d_Ne_link_3 : decode b_Ne_link 3 = .ok (.invokevirtual 46, 3) := by decide +kernel
theorem d_Ne_link_6 : decode b_Ne_link 6 = .ok (.astore 5, 2) := by decide +kernel
theorem d_Ne_link_8 : decode b_Ne_link 8 = .ok (.aload_n 0, 1) := by decide +kernel
theorem d_Ne_link_9 : decode b_Ne_link 9 = .ok (.iload_n 3, 1) := by decide +kernel
theorem d_Ne_link_10 : decode b_Ne_link 10 = .ok (.iload 4, 2) := by decide +kernel
theorem d_Ne_link_12 : decode b_Ne_link 12 = .ok (.invokevirtual 46, 3) := by decide +kernel
theorem d_Ne_link_15 : decode b_Ne_link 15 = .ok (.astore 6, 2) := by decide +kernel
theorem d_Ne_link_17 : decode b_Ne_link 17 = .ok (.aload 5, 2) := by decide +kernel
theorem d_Ne_link_19 : decode b_Ne_link 19 = .ok (.ifnull 29, 3) := by decide +kernel
theorem d_Ne_link_22 : decode b_Ne_link 22 = .ok (.aload 6, 2) := by decide +kernel
theorem d_Ne_link_24 : decode b_Ne_link 24 = .ok (.ifnull 24, 3) := by decide +kernel
theorem d_Ne_link_27 : decode b_Ne_link 27 = .ok (.iload_n 1, 1) := by decide +kernel
theorem d_Ne_link_28 : decode b_Ne_link 28 = .ok (.iload_n 3, 1) := by decide +kernel
theorem d_Ne_link_29 : decode b_Ne_link 29 = .ok (.if_icmp .eq 19, 3) := by decide +kernel
theorem d_Ne_link_32 : decode b_Ne_link 32 = .ok (.aload 5, 2) := by decide +kernel
theorem d_Ne_link_34 : decode b_Ne_link 34 = .ok (.invokevirtual 63, 3) := by decide +kernel
theorem d_Ne_link_37 : decode b_Ne_link 37 = .ok (.ifCond .eq 11, 3) := by decide +kernel
theorem d_Ne_link_40 : decode b_Ne_link 40 = .ok (.aload 6, 2) := by decide +kernel
theorem d_Ne_link_42 : decode b_Ne_link 42 = .ok (.invokevirtual 63, 3) := by decide +kernel
theorem d_Ne_link_45 : decode b_Ne_link 45 = .ok (.ifCond .ne 5, 3) := by decide +kernel
theorem d_Ne_link_48 : decode b_Ne_link 48 = .ok (.iconst 0, 1) := by decide +kernel
theorem d_Ne_link_49 : decode b_Ne_link 49 = .ok (.ireturn, 1) := by decide +kernel
theorem d_Ne_link_50 : decode b_Ne_link 50 = .ok (.aload 5, 2) := by decide +kernel
theorem d_Ne_link_52 : decode b_Ne_link 52 = .ok (.aload 6, 2) := by decide +kernel
theorem d_Ne_link_54 : decode b_Ne_link 54 = .ok (.aconst_null, 1) := by decide +kernel
theorem d_Ne_link_55 : decode b_Ne_link 55 = .ok (.invokevirtual 66, 3) := by decide +kernel
theorem d_Ne_link_58 : decode b_Ne_link 58 = .ok (.aload 6, 2) := by decide +kernel
theorem d_Ne_link_60 : decode b_Ne_link 60 = .ok (.aload 5, 2) := by decide +kernel
theorem d_Ne_link_62 : decode b_Ne_link 62 = .ok (.aconst_null, 1) := by decide +kernel
theorem d_Ne_link_63 : decode b_Ne_link 63 = .ok (.invokevirtual 66, 3) := by decide +kernel
theorem d_Ne_link_66 : decode b_Ne_link 66 = .ok (.aload 5, 2) := by decide +kernel
theorem d_Ne_link_68 : decode b_Ne_link 68 = .ok (.getfield 59, 3) := by decide +kernel
theorem d_Ne_link_71 : decode b_Ne_link 71 = .ok (.invokevirtual 43, 3) := by decide +kernel
theorem d_Ne_link_74 : decode b_Ne_link 74 = .ok (.aload 6, 2) := by decide +kernel
theorem d_Ne_link_76 : decode b_Ne_link 76 = .ok (.getfield 59, 3) := by decide +kernel
theorem d_Ne_link_79 : decode b_Ne_link 79 = .ok (.invokevirtual 43, 3) := by decide +kernel
theorem d_Ne_link_82 : decode b_Ne_link 82 = .ok (.iconst 1, 1) := by decide +kernel
theorem d_Ne_link_83 : decode b_Ne_link 83 = .ok (.ireturn, 1) := by decide +kernel
theorem d_Po_join_0 : decode b_Po_join 0 = .ok (.aload_n 0, 1) := by decide +kernel
theorem d_Po_join_1 : decode b_Po_join 1 = .ok (.aload_n 1, 1) := by decide +kernel
theorem d_Po_join_2 : decode b_Po_join 2 = .ok (.putfield 25, 3) := by decide +kernel
theorem d_Po_join_5 : decode b_Po_join 5 = .ok (.aload_n 0, 1) := by decide +kernel
theorem d_Po_join_6 : decode b_Po_join 6 = .ok (.aload_n 2, 1) := by decide +kernel
theorem d_Po_join_7 : decode b_Po_join 7 = .ok (.putfield 29, 3) := by decide +kernel
theorem d_Po_join_10 : decode b_Po_join 10 = .ok (.aload_n 0, 1) := by decide +kernel
theorem d_Po_join_11 : decode b_Po_join 11 = .ok (.iconst 0, 1) := by decide +kernel
theorem d_Po_join_12 : decode b_Po_join 12 = .ok (.putfield 33, 3) := by decide +kernel
theorem d_Po_join_15 : decode b_Po_join 15 = .ok (.aload_n 0, 1) := by decide +kernel
theorem d_Po_join_16 : decode b_Po_join 16 = .ok (.getfield 12, 3) := by decide +kernel
theorem d_Po_join_19 : decode b_Po_join 19 = .ok (.invokevirtual 69, 3) := by decide +kernel
theorem d_Po_join_22 : decode b_Po_join 22 = .ok (.aload_n 0, 1) := by decide +kernel
theorem d_Po_join_23 : decode b_Po_join 23 = .ok (.getfield 62, 3) := by decide +kernel
theorem d_Po_join_26 : decode b_Po_join 26 = .ok (.aload_n 0, 1) := by decide +kernel
theorem d_Po_join_27 : decode b_Po_join 27 = .ok (.getfield 66, 3) := by decide +kernel
theorem d_Po_join_30 : decode b_Po_join 30 = .ok (.invokevirtual 72, 3) := by decide +kernel
theorem d_Po_join_33 : decode b_Po_join 33 = .ok (.aload_n 0, 1) := by decide +kernel
theorem d_Po_join_34 : decode b_Po_join 34 = .ok (.iconst 0, 1) := by decide +kernel
theorem d_Po_join_35 : decode b_Po_join 35 = .ok (.invokevirtual 78, 3) := by decide +kernel
theorem d_Po_join_38 : decode b_Po_join 38 = .ok (.return_, 1) := by decide +kernel
theorem d_Li_empty_0 : decode b_Li_empty 0 = .ok (.aload_n 0, 1) := by decide +kernel
theorem d_Li_empty_1 : decode b_Li_empty 1 = .ok (.iconst 0, 1) := by decide +kernel
theorem d_Li_empty_2 : decode b_Li_empty 2 = .ok (.putfield 21, 3) := by decide +kernel
theorem d_Li_empty_5 : decode b_Li_empty 5 = .ok (.return_, 1) := by decide +kernel
theorem d_Br_forgetBehind_0 : decode b_Br_forgetBehind 0 = .ok (.iconst 0, 1) := by decide +kernel
theorem d_Br_forgetBehind_1 : decode b_Br_forgetBehind 1 = .ok (.istore_n 2, 1) := by decide +kernel
theorem d_Br_forgetBehind_2 : decode b_Br_forgetBehind 2 = .ok (.iload_n 2, 1) := by decide +kernel
theorem d_Br_forgetBehind_3 : decode b_Br_forgetBehind 3 = .ok (.aload_n 0, 1) := by decide +kernel
theorem d_Br_forgetBehind_4 : decode b_Br_forgetBehind 4 = .ok (.getfield 28, 3) := by decide +kernel
theorem d_Br_forgetBehind_7 : decode b_Br_forgetBehind 7 = .ok (.arraylength, 1) := by decide +kernel
theorem d_Br_forgetBehind_8 : decode b_Br_forgetBehind 8 = .ok (.if_icmp .ge 26, 3) := by decide +kernel
theorem d_Br_forgetBehind_11 : decode b_Br_forgetBehind 11 = .ok (.aload_n 0, 1) := by decide +kernel
theorem d_Br_forgetBehind_12 : decode b_Br_forgetBehind 12 = .ok (.getfield 28, 3) := by decide +kernel
theorem d_Br_forgetBehind_15 : decode b_Br_forgetBehind 15 = .ok (.iload_n 2, 1) := by decide +kernel
theorem d_Br_forgetBehind_16 : decode b_Br_forgetBehind 16 = .ok (.iaload, 1) := by decide +kernel
theorem d_Br_forgetBehind_17 : decode b_Br_forgetBehind 17 = .ok (.iload_n 1, 1) := by decide +kernel
theorem d_Br_forgetBehind_18 : decode b_Br_forgetBehind 18 = .ok (.if_icmp .ne 10, 3) := by decide +kernel
theorem d_Br_forgetBehind_21 : decode b_Br_forgetBehind 21 = .ok (.aload_n 0, 1) := by decide +kernel
theorem d_Br_forgetBehind_22 : decode b_Br_forgetBehind 22 = .ok (.getfield 32, 3) := by decide +kernel
theorem d_Br_forgetBehind_25 : decode b_Br_forgetBehind 25 = .ok (.iload_n 2, 1) := by decide +kernel
theorem d_Br_forgetBehind_26 : decode b_Br_forgetBehind 26 = .ok (.iconst 0, 1) := by decide +kernel
theorem d_Br_forgetBehind_27 : decode b_Br_forgetBehind 27 = .ok (.iastore, 1) := by decide +kernel
theorem d_Br_forgetBehind_28 : decode b_Br_forgetBehind 28 = .ok (.iinc 2 1, 3) := by decide +kernel
theorem d_Br_forgetBehind_31 : decode b_Br_forgetBehind 31 = .ok (.goto (-29), 3) := by decide +kernel
theorem d_Br_forgetBehind_34 : decode b_Br_forgetBehind 34 = .ok (.return_, 1) := by decide +kernel
theorem d_Ne_cut_0 : decode b_Ne_cut 0 = .ok (.aload_n 0, 1) := by decide +kernel
theorem d_Ne_cut_1 : decode b_Ne_cut 1 = .ok (.iload_n 1, 1) := by decide +kernel
theorem d_Ne_cut_2 : decode b_Ne_cut 2 = .ok (.iload_n 2, 1) := by decide +kernel
theorem d_Ne_cut_3 : decode b_Ne_cut 3 = .ok (.invokevirtual 46, 3) := by decide +kernel
theorem d_Ne_cut_6 : decode b_Ne_cut 6 = .ok (.astore_n 3, 1) := by decide +kernel
theorem d_Ne_cut_7 : decode b_Ne_cut 7 = .ok (.aload_n 3, 1) := by decide +kernel
theorem d_Ne_cut_8 : decode b_Ne_cut 8 = .ok (.ifnull 10, 3) := by decide +kernel
theorem d_Ne_cut_11 : decode b_Ne_cut 11 = .ok (.aload_n 3, 1) := by decide +kernel
theorem d_Ne_cut_12 : decode b_Ne_cut 12 = .ok (.getfield 70, 3) := by decide +kernel
theorem d_Ne_cut_15 : decode b_Ne_cut 15 = .ok (.ifnonnull 5, 3) := by decide +kernel
theorem d_Ne_cut_18 : decode b_Ne_cut 18 = .ok (.iconst 0, 1) := by decide +kernel
theorem d_Ne_cut_19 : decode b_Ne_cut 19 = .ok (.ireturn, 1) := by decide +kernel
theorem d_Ne_cut_20 : decode b_Ne_cut 20 = .ok (.aload_n 3, 1) := by decide +kernel
theorem d_Ne_cut_21 : decode b_Ne_cut 21 = .ok (.getfield 70, 3) := by decide +kernel
theorem d_Ne_cut_24 : decode b_Ne_cut 24 = .ok (.astore 4, 2) := by decide +kernel
theorem d_Ne_cut_26 : decode b_Ne_cut 26 = .ok (.aload_n 3, 1) := by decide +kernel
theorem d_Ne_cut_27 : decode b_Ne_cut 27 = .ok (.aconst_null, 1) := by decide +kernel
theorem d_Ne_cut_28 : decode b_Ne_cut 28 = .ok (.aconst_null, 1) := by decide +kernel
theorem d_Ne_cut_29 : decode b_Ne_cut 29 = .ok (.invokevirtual 66, 3) := by decide +kernel
theorem d_Ne_cut_32 : decode b_Ne_cut 32 = .ok (.aload 4, 2) := by decide +kernel
theorem d_Ne_cut_34 : decode b_Ne_cut 34 = .ok (.aconst_null, 1) := by decide +kernel
theorem d_Ne_cut_35 : decode b_Ne_cut 35 = .ok (.aconst_null, 1) := by decide +kernel
theorem d_Ne_cut_36 : decode b_Ne_cut 36 = .ok (.invokevirtual 66, 3) := by decide +kernel
theorem d_Ne_cut_39 : decode b_Ne_cut 39 = .ok (.aload_n 3, 1) := by decide +kernel
theorem d_Ne_cut_40 : decode b_Ne_cut 40 = .ok (.getfield 59, 3) := by decide +kernel
theorem d_Ne_cut_43 : decode b_Ne_cut 43 = .ok (.invokevirtual 43, 3) := by decide +kernel
theorem d_Ne_cut_46 : decode b_Ne_cut 46 = .ok (.aload 4, 2) := by decide +kernel
theorem d_Ne_cut_48 : decode b_Ne_cut 48 = .ok (.getfield 59, 3) := by decide +kernel
theorem d_Ne_cut_51 : decode b_Ne_cut 51 = .ok (.invokevirtual 43, 3) := by decide +kernel
theorem d_Ne_cut_54 : decode b_Ne_cut 54 = .ok (.iconst 1, 1) := by decide +kernel
theorem d_Ne_cut_55 : decode b_Ne_cut 55 = .ok (.ireturn, 1) := by decide +kernel
theorem d_Ne_lose_0 : decode b_Ne_lose 0 = .ok (.aload_n 0, 1) := by decide +kernel
theorem d_Ne_lose_1 : decode b_Ne_lose 1 = .ok (.iload_n 1, 1) := by decide +kernel
theorem d_Ne_lose_2 : decode b_Ne_lose 2 = .ok (.iload_n 2, 1) := by decide +kernel
theorem d_Ne_lose_3 : decode b_Ne_lose 3 = .ok (.invokevirtual 46, 3) := by decide +kernel
theorem d_Ne_lose_6 : decode b_Ne_lose 6 = .ok (.astore_n 3, 1) := by decide +kernel
theorem d_Ne_lose_7 : decode b_Ne_lose 7 = .ok (.aload_n 3, 1) := by decide +kernel
theorem d_Ne_lose_8 : decode b_Ne_lose 8 = .ok (.ifnull 17, 3) := by decide +kernel
theorem d_Ne_lose_11 : decode b_Ne_lose 11 = .ok (.aload_n 3, 1) := by decide +kernel
theorem d_Ne_lose_12 : decode b_Ne_lose 12 = .ok (.getfield 128, 3) := by decide +kernel
theorem d_Ne_lose_15 : decode b_Ne_lose 15 = .ok (.invokevirtual 132, 3) := by decide +kernel
theorem d_Ne_lose_18 : decode b_Ne_lose 18 = .ok (.ifnull 7, 3) := by decide +kernel
theorem d_Ne_lose_21 : decode b_Ne_lose 21 = .ok (.iconst 1, 1) := by decide +kernel
theorem d_Ne_lose_22 : decode b_Ne_lose 22 = .ok (.goto 4, 3) := by decide +kernel
theorem d_Ne_lose_25 : decode b_Ne_lose 25 = .ok (.iconst 0, 1) := by decide +kernel
theorem d_Ne_lose_26 : decode b_Ne_lose 26 = .ok (.ireturn, 1) := by decide +kernel
theorem d_Li_takeFirst_0 : decode b_Li_takeFirst 0 = .ok (.aload_n 0, 1) := by decide +kernel
theorem d_Li_takeFirst_1 : decode b_Li_takeFirst 1 = .ok (.getfield 21, 3) := by decide +kernel
theorem d_Li_takeFirst_4 : decode b_Li_takeFirst 4 = .ok (.ifCond .ne 5, 3) := by decide +kernel
theorem d_Li_takeFirst_7 : decode b_Li_takeFirst 7 = .ok (.aconst_null, 1) := by decide +kernel
theorem d_Li_takeFirst_8 : decode b_Li_takeFirst 8 = .ok (.areturn, 1) := by decide +kernel
theorem d_Li_takeFirst_9 : decode b_Li_takeFirst 9 = .ok (.aload_n 0, 1) := by decide +kernel
theorem d_Li_takeFirst_10 : decode b_Li_takeFirst 10 = .ok (.getfield 11, 3) := by decide +kernel
theorem d_Li_takeFirst_13 : decode b_Li_takeFirst 13 = .ok (.aload_n 0, 1) := by decide +kernel
theorem d_Li_takeFirst_14 : decode b_Li_takeFirst 14 = .ok (.getfield 17, 3) := by decide +kernel
theorem d_Li_takeFirst_17 : decode b_Li_takeFirst 17 = .ok (.aaload, 1) := by decide +kernel
theorem d_Li_takeFirst_18 : decode b_Li_takeFirst 18 = .ok (.astore_n 1, 1) := by decide +kernel
theorem d_Li_takeFirst_19 : decode b_Li_takeFirst 19 = .ok (.aload_n 0, 1) := by decide +kernel
theorem d_Li_takeFirst_20 : decode b_Li_takeFirst 20 = .ok (.aload_n 0, 1) := by decide +kernel
theorem d_Li_takeFirst_21 : decode b_Li_takeFirst 21 = .ok (.getfield 17, 3) := by decide +kernel
theorem d_Li_takeFirst_24 : decode b_Li_takeFirst 24 = .ok (.iconst 1, 1) := by decide +kernel
theorem d_Li_takeFirst_25 : decode b_Li_takeFirst 25 = .ok (.iadd, 1) := by decide +kernel
theorem d_Li_takeFirst_26 : decode b_Li_takeFirst 26 = .ok (.bipush 12, 2) := by decide +kernel
theorem d_Li_takeFirst_28 : decode b_Li_takeFirst 28 = .ok (.irem, 1) := by decide +kernel
theorem d_Li_takeFirst_29 : decode b_Li_takeFirst 29 = .ok (.putfield 17, 3) := by decide +kernel
theorem d_Li_takeFirst_32 : decode b_Li_takeFirst 32 = .ok (.aload_n 0, 1) := by decide +kernel
theorem d_Li_takeFirst_33 : decode b_Li_takeFirst 33 = .ok (.dup, 1) := by decide +kernel
theorem d_Li_takeFirst_34 : decode b_Li_takeFirst 34 = .ok (.getfield 21, 3) := by decide +kernel
theorem d_Li_takeFirst_37 : decode b_Li_takeFirst 37 = .ok (.iconst 1, 1) := by decide +kernel
theorem d_Li_takeFirst_38 : decode b_Li_takeFirst 38 = .ok (.isub, 1) := by decide +kernel
theorem d_Li_takeFirst_39 : decode b_Li_takeFirst 39 = .ok (.putfield 21, 3) := by decide +kernel
theorem d_Li_takeFirst_42 : decode b_Li_takeFirst 42 = .ok (.aload_n 1, 1) := by decide +kernel
theorem d_Li_takeFirst_43 : decode b_Li_takeFirst 43 = .ok (.areturn, 1) := by decide +kernel
theorem d_Ne_tick_0 : decode b_Ne_tick 0 = .ok (.iconst 0, 1) := by decide +kernel
theorem d_Ne_tick_1 : decode b_Ne_tick 1 = .ok (.istore_n 1, 1) := by decide +kernel
theorem d_Ne_tick_2 : decode b_Ne_tick 2 = .ok (.iload_n 1, 1) := by decide +kernel
theorem d_Ne_tick_3 : decode b_Ne_tick 3 = .ok (.iconst 5, 1) := by decide +kernel
theorem d_Ne_tick_4 : decode b_Ne_tick 4 = .ok (.if_icmp .ge 34, 3) := by decide +kernel
theorem d_Ne_tick_7 : decode b_Ne_tick 7 = .ok (.aload_n 0, 1) := by decide +kernel
theorem d_Ne_tick_8 : decode b_Ne_tick 8 = .ok (.getfield 11, 3) := by decide +kernel
theorem d_Ne_tick_11 : decode b_Ne_tick 11 = .ok (.iload_n 1, 1) := by decide +kernel
theorem d_Ne_tick_12 : decode b_Ne_tick 12 = .ok (.aaload, 1) := by decide +kernel
theorem d_Ne_tick_13 : decode b_Ne_tick 13 = .ok (.invokevirtual 157, 3) := by decide +kernel
theorem d_Ne_tick_16 : decode b_Ne_tick 16 = .ok (.aload_n 0, 1) := by decide +kernel
theorem d_Ne_tick_17 : decode b_Ne_tick 17 = .ok (.getfield 21, 3) := by decide +kernel
theorem d_Ne_tick_20 : decode b_Ne_tick 20 = .ok (.ifCond .eq 12, 3) := by decide +kernel
theorem d_Ne_tick_23 : decode b_Ne_tick 23 = .ok (.aload_n 0, 1) := by decide +kernel
theorem d_Ne_tick_24 : decode b_Ne_tick 24 = .ok (.getfield 11, 3) := by decide +kernel
theorem d_Ne_tick_27 : decode b_Ne_tick 27 = .ok (.iload_n 1, 1) := by decide +kernel
theorem d_Ne_tick_28 : decode b_Ne_tick 28 = .ok (.aaload, 1) := by decide +kernel
theorem d_Ne_tick_29 : decode b_Ne_tick 29 = .ok (.invokevirtual 160, 3) := by decide +kernel
theorem d_Ne_tick_32 : decode b_Ne_tick 32 = .ok (.iinc 1 1, 3) := by decide +kernel
theorem d_Ne_tick_35 : decode b_Ne_tick 35 = .ok (.goto (-33), 3) := by decide +kernel
theorem d_Ne_tick_38 : decode b_Ne_tick 38 = .ok (.aload_n 0, 1) := by decide +kernel
theorem d_Ne_tick_39 : decode b_Ne_tick 39 = .ok (.aload_n 0, 1) := by decide +kernel
theorem d_Ne_tick_40 : decode b_Ne_tick 40 = .ok (.getfield 21, 3) := by decide +kernel
theorem d_Ne_tick_43 : decode b_Ne_tick 43 = .ok (.ifCond .ne 7, 3) := by decide +kernel
theorem d_Ne_tick_46 : decode b_Ne_tick 46 = .ok (.iconst 1, 1) := by decide +kernel
theorem d_Ne_tick_47 : decode b_Ne_tick 47 = .ok (.goto 4, 3) := by decide +kernel
theorem d_Ne_tick_50 : decode b_Ne_tick 50 = .ok (.iconst 0, 1) := by decide +kernel
theorem d_Ne_tick_51 : decode b_Ne_tick 51 = .ok (.putfield 21, 3) := by decide +kernel
theorem d_Ne_tick_54 : decode b_Ne_tick 54 = .ok (.return_, 1) := by decide +kernel
theorem d_Br_age_0 : decode b_Br_age 0 = .ok (.aload_n 0, 1) := by decide +kernel
theorem d_Br_age_1 : decode b_Br_age 1 = .ok (.getfield 11, 3) := by decide +kernel
theorem d_Br_age_4 : decode b_Br_age 4 = .ok (.astore_n 1, 1) := by decide +kernel
theorem d_Br_age_5 : decode b_Br_age 5 = .ok (.aload_n 1, 1) := by decide +kernel
theorem d_Br_age_6 : decode b_Br_age 6 = .ok (.arraylength, 1) := by decide +kernel
theorem d_Br_age_7 : decode b_Br_age 7 = .ok (.istore_n 2, 1) := by decide +kernel
theorem d_Br_age_8 : decode b_Br_age 8 = .ok (.iconst 0, 1) := by decide +kernel
theorem d_Br_age_9 : decode b_Br_age 9 = .ok (.istore_n 3, 1) := by decide +kernel
theorem d_Br_age_10 : decode b_Br_age 10 = .ok (.iload_n 3, 1) := by decide +kernel
theorem d_Br_age_11 : decode b_Br_age 11 = .ok (.iload_n 2, 1) := by decide +kernel
theorem d_Br_age_12 : decode b_Br_age 12 = .ok (.if_icmp .ge 19, 3) := by decide +kernel
theorem d_Br_age_15 : decode b_Br_age 15 = .ok (.aload_n 1, 1) := by decide +kernel
theorem d_Br_age_16 : decode b_Br_age 16 = .ok (.iload_n 3, 1) := by decide +kernel
theorem d_Br_age_17 : decode b_Br_age 17 = .ok (.aaload, 1) := by decide +kernel
theorem d_Br_age_18 : decode b_Br_age 18 = .ok (.astore 4, 2) := by decide +kernel
theorem d_Br_age_20 : decode b_Br_age 20 = .ok (.aload 4, 2) := by decide +kernel
theorem d_Br_age_22 : decode b_Br_age 22 = .ok (.invokevirtual 206, 3) := by decide +kernel
theorem d_Br_age_25 : decode b_Br_age 25 = .ok (.iinc 3 1, 3) := by decide +kernel
theorem d_Br_age_28 : decode b_Br_age 28 = .ok (.goto (-18), 3) := by decide +kernel
theorem d_Br_age_31 : decode b_Br_age 31 = .ok (.iconst 0, 1) := by decide +kernel
theorem d_Br_age_32 : decode b_Br_age 32 = .ok (.istore_n 1, 1) := by decide +kernel
theorem d_Br_age_33 : decode b_Br_age 33 = .ok (.iload_n 1, 1) := by decide +kernel
theorem d_Br_age_34 : decode b_Br_age 34 = .ok (.aload_n 0, 1) := by decide +kernel
theorem d_Br_age_35 : decode b_Br_age 35 = .ok (.getfield 32, 3) := by decide +kernel
theorem d_Br_age_38 : decode b_Br_age 38 = .ok (.arraylength, 1) := by decide +kernel
theorem d_Br_age_39 : decode b_Br_age 39 = .ok (.if_icmp .ge 27, 3) := by decide +kernel
theorem d_Br_age_42 : decode b_Br_age 42 = .ok (.aload_n 0, 1) := by decide +kernel
theorem d_Br_age_43 : decode b_Br_age 43 = .ok (.getfield 32, 3) := by decide +kernel
theorem d_Br_age_46 : decode b_Br_age 46 = .ok (.iload_n 1, 1) := by decide +kernel
theorem d_Br_age_47 : decode b_Br_age 47 = .ok (.iconst 0, 1) := by decide +kernel
theorem d_Br_age_48 : decode b_Br_age 48 = .ok (.aload_n 0, 1) := by decide +kernel
theorem d_Br_age_49 : decode b_Br_age 49 = .ok (.getfield 32, 3) := by decide +kernel
theorem d_Br_age_52 : decode b_Br_age 52 = .ok (.iload_n 1, 1) := by decide +kernel
theorem d_Br_age_53 : decode b_Br_age 53 = .ok (.iaload, 1) := by decide +kernel
theorem d_Br_age_54 : decode b_Br_age 54 = .ok (.iconst 1, 1) := by decide +kernel
theorem d_Br_age_55 : decode b_Br_age 55 = .ok (.isub, 1) := by decide +kernel
theorem d_Br_age_56 : decode b_Br_age 56 = .ok (.invokestatic 209, 3) := by decide +kernel
theorem d_Br_age_59 : decode b_Br_age 59 = .ok (.iastore, 1) := by decide +kernel
theorem d_Br_age_60 : decode b_Br_age 60 = .ok (.iinc 1 1, 3) := by decide +kernel
theorem d_Br_age_63 : decode b_Br_age 63 = .ok (.goto (-30), 3) := by decide +kernel
theorem d_Br_age_66 : decode b_Br_age 66 = .ok (.aload_n 0, 1) := by decide +kernel
theorem d_Br_age_67 : decode b_Br_age 67 = .ok (.getfield 11, 3) := by decide +kernel
theorem d_Br_age_70 : decode b_Br_age 70 = .ok (.astore_n 1, 1) := by decide +kernel
theorem d_Br_age_71 : decode b_Br_age 71 = .ok (.aload_n 1, 1) := by decide +kernel
theorem d_Br_age_72 : decode b_Br_age 72 = .ok (.arraylength, 1) := by decide +kernel
theorem d_Br_age_73 : decode b_Br_age 73 = .ok (.istore_n 2, 1) := by decide +kernel
theorem d_Br_age_74 : decode b_Br_age 74 = .ok (.iconst 0, 1) := by decide +kernel
theorem d_Br_age_75 : decode b_Br_age 75 = .ok (.istore_n 3, 1) := by decide +kernel
theorem d_Br_age_76 : decode b_Br_age 76 = .ok (.iload_n 3, 1) := by decide +kernel
theorem d_Br_age_77 : decode b_Br_age 77 = .ok (.iload_n 2, 1) := by decide +kernel
theorem d_Br_age_78 : decode b_Br_age 78 = .ok (.if_icmp .ge 19, 3) := by decide +kernel
theorem d_Br_age_81 : decode b_Br_age 81 = .ok (.aload_n 1, 1) := by decide +kernel
theorem d_Br_age_82 : decode b_Br_age 82 = .ok (.iload_n 3, 1) := by decide +kernel
theorem d_Br_age_83 : decode b_Br_age 83 = .ok (.aaload, 1) := by decide +kernel
theorem d_Br_age_84 : decode b_Br_age 84 = .ok (.astore 4, 2) := by decide +kernel
theorem d_Br_age_86 : decode b_Br_age 86 = .ok (.aload 4, 2) := by decide +kernel
theorem d_Br_age_88 : decode b_Br_age 88 = .ok (.invokevirtual 214, 3) := by decide +kernel
theorem d_Br_age_91 : decode b_Br_age 91 = .ok (.iinc 3 1, 3) := by decide +kernel
theorem d_Br_age_94 : decode b_Br_age 94 = .ok (.goto (-18), 3) := by decide +kernel
theorem d_Br_age_97 : decode b_Br_age 97 = .ok (.aload_n 0, 1) := by decide +kernel
theorem d_Br_age_98 : decode b_Br_age 98 = .ok (.invokevirtual 146, 3) := by decide +kernel
theorem d_Br_age_101 : decode b_Br_age 101 = .ok (.return_, 1) := by decide +kernel
theorem d_Po_ageInfo_0 : decode b_Po_ageInfo 0 = .ok (.aload_n 0, 1) := by decide +kernel
theorem d_Po_ageInfo_1 : decode b_Po_ageInfo 1 = .ok (.getfield 33, 3) := by decide +kernel
theorem d_Po_ageInfo_4 : decode b_Po_ageInfo 4 = .ok (.ifCond .eq 29, 3) := by decide +kernel
theorem d_Po_ageInfo_7 : decode b_Po_ageInfo 7 = .ok (.aload_n 0, 1) := by decide +kernel
theorem d_Po_ageInfo_8 : decode b_Po_ageInfo 8 = .ok (.dup, 1) := by decide +kernel
theorem d_Po_ageInfo_9 : decode b_Po_ageInfo 9 = .ok (.getfield 44, 3) := by decide +kernel
theorem d_Po_ageInfo_12 : decode b_Po_ageInfo 12 = .ok (.iconst 1, 1) := by decide +kernel
theorem d_Po_ageInfo_13 : decode b_Po_ageInfo 13 = .ok (.isub, 1) := by decide +kernel
theorem d_Po_ageInfo_14 : decode b_Po_ageInfo 14 = .ok (.putfield 44, 3) := by decide +kernel
theorem d_Po_ageInfo_17 : decode b_Po_ageInfo 17 = .ok (.aload_n 0, 1) := by decide +kernel
theorem d_Po_ageInfo_18 : decode b_Po_ageInfo 18 = .ok (.aload_n 0, 1) := by decide +kernel
theorem d_Po_ageInfo_19 : decode b_Po_ageInfo 19 = .ok (.getfield 44, 3) := by decide +kernel
theorem d_Po_ageInfo_22 : decode b_Po_ageInfo 22 = .ok (.ifCond .le 7, 3) := by decide +kernel
theorem d_Po_ageInfo_25 : decode b_Po_ageInfo 25 = .ok (.iconst 1, 1) := by decide +kernel
theorem d_Po_ageInfo_26 : decode b_Po_ageInfo 26 = .ok (.goto 4, 3) := by decide +kernel
theorem d_Po_ageInfo_29 : decode b_Po_ageInfo 29 = .ok (.iconst 0, 1) := by decide +kernel
theorem d_Po_ageInfo_30 : decode b_Po_ageInfo 30 = .ok (.putfield 33, 3) := by decide +kernel
theorem d_Po_ageInfo_33 : decode b_Po_ageInfo 33 = .ok (.return_, 1) := by decide +kernel
theorem d_Po_ageWait_0 : decode b_Po_ageWait 0 = .ok (.aload_n 0, 1) := by decide +kernel
theorem d_Po_ageWait_1 : decode b_Po_ageWait 1 = .ok (.invokevirtual 87, 3) := by decide +kernel
theorem d_Po_ageWait_4 : decode b_Po_ageWait 4 = .ok (.ifCond .eq 11, 3) := by decide +kernel
theorem d_Po_ageWait_7 : decode b_Po_ageWait 7 = .ok (.aload_n 0, 1) := by decide +kernel
theorem d_Po_ageWait_8 : decode b_Po_ageWait 8 = .ok (.getfield 50, 3) := by decide +kernel
theorem d_Po_ageWait_11 : decode b_Po_ageWait 11 = .ok (.iconst 2, 1) := by decide +kernel
theorem d_Po_ageWait_12 : decode b_Po_ageWait 12 = .ok (.if_icmp .ne 4, 3) := by decide +kernel
theorem d_Po_ageWait_15 : decode b_Po_ageWait 15 = .ok (.return_, 1) := by decide +kernel
theorem d_Po_ageWait_16 : decode b_Po_ageWait 16 = .ok (.aload_n 0, 1) := by decide +kernel
theorem d_Po_ageWait_17 : decode b_Po_ageWait 17 = .ok (.dup, 1) := by decide +kernel
theorem d_Po_ageWait_18 : decode b_Po_ageWait 18 = .ok (.getfield 59, 3) := by decide +kernel
theorem d_Po_ageWait_21 : decode b_Po_ageWait 21 = .ok (.iconst 1, 1) := by decide +kernel
theorem d_Po_ageWait_22 : decode b_Po_ageWait 22 = .ok (.isub, 1) := by decide +kernel
theorem d_Po_ageWait_23 : decode b_Po_ageWait 23 = .ok (.putfield 59, 3) := by decide +kernel
theorem d_Po_ageWait_26 : decode b_Po_ageWait 26 = .ok (.aload_n 0, 1) := by decide +kernel
theorem d_Po_ageWait_27 : decode b_Po_ageWait 27 = .ok (.getfield 59, 3) := by decide +kernel
theorem d_Po_ageWait_30 : decode b_Po_ageWait 30 = .ok (.ifCond .le 4, 3) := by decide +kernel
theorem d_Po_ageWait_33 : decode b_Po_ageWait 33 = .ok (.return_, 1) := by decide +kernel
theorem d_Po_ageWait_34 : decode b_Po_ageWait 34 = .ok (.aload_n 0, 1) := by decide +kernel
theorem d_Po_ageWait_35 : decode b_Po_ageWait 35 = .ok (.getfield 50, 3) := by decide +kernel
theorem d_Po_ageWait_38 : decode b_Po_ageWait 38 = .ok (.ifCond .ne 16, 3) := by decide +kernel
theorem d_Po_ageWait_41 : decode b_Po_ageWait 41 = .ok (.aload_n 0, 1) := by decide +kernel
theorem d_Po_ageWait_42 : decode b_Po_ageWait 42 = .ok (.iconst 1, 1) := by decide +kernel
theorem d_Po_ageWait_43 : decode b_Po_ageWait 43 = .ok (.putfield 50, 3) := by decide +kernel
theorem d_Po_ageWait_46 : decode b_Po_ageWait 46 = .ok (.aload_n 0, 1) := by decide +kernel
theorem d_Po_ageWait_47 : decode b_Po_ageWait 47 = .ok (.iconst 4, 1) := by decide +kernel
theorem d_Po_ageWait_48 : decode b_Po_ageWait 48 = .ok (.putfield 59, 3) := by decide +kernel
theorem d_Po_ageWait_51 : decode b_Po_ageWait 51 = .ok (.goto 7, 3) := by decide +kernel
theorem d_Po_ageWait_54 : decode b_Po_ageWait 54 = .ok (.aload_n 0, 1) := by decide +kernel
theorem d_Po_ageWait_55 : decode b_Po_ageWait 55 = .ok (.invokevirtual 84, 3) := by decide +kernel
theorem d_Po_ageWait_58 : decode b_Po_ageWait 58 = .ok (.return_, 1) := by decide +kernel
theorem d_Po_forward_0 : decode b_Po_forward 0 = .ok (.aload_n 0, 1) := by decide +kernel
theorem d_Po_forward_1 : decode b_Po_forward 1 = .ok (.iconst 2, 1) := by decide +kernel
theorem d_Po_forward_2 : decode b_Po_forward 2 = .ok (.putfield 50, 3) := by decide +kernel
theorem d_Po_forward_5 : decode b_Po_forward 5 = .ok (.aload_n 0, 1) := by decide +kernel
theorem d_Po_forward_6 : decode b_Po_forward 6 = .ok (.iconst 0, 1) := by decide +kernel
theorem d_Po_forward_7 : decode b_Po_forward 7 = .ok (.putfield 53, 3) := by decide +kernel
theorem d_Po_forward_10 : decode b_Po_forward 10 = .ok (.aload_n 0, 1) := by decide +kernel
theorem d_Po_forward_11 : decode b_Po_forward 11 = .ok (.iconst 0, 1) := by decide +kernel
theorem d_Po_forward_12 : decode b_Po_forward 12 = .ok (.putfield 59, 3) := by decide +kernel
theorem d_Po_forward_15 : decode b_Po_forward 15 = .ok (.return_, 1) := by decide +kernel
theorem d_Ne_port_0 : decode b_Ne_port 0 = .ok (.aload_n 0, 1) := by decide +kernel
theorem d_Ne_port_1 : decode b_Ne_port 1 = .ok (.iload_n 1, 1) := by decide +kernel
theorem d_Ne_port_2 : decode b_Ne_port 2 = .ok (.iload_n 2, 1) := by decide +kernel
theorem d_Ne_port_3 : decode b_Ne_port 3 = .ok (.invokevirtual 46, 3) := by decide +kernel
theorem d_Ne_port_6 : decode b_Ne_port 6 = .ok (.astore_n 3, 1) := by decide +kernel
theorem d_Ne_port_7 : decode b_Ne_port 7 = .ok (.aload_n 3, 1) := by decide +kernel
theorem d_Ne_port_8 : decode b_Ne_port 8 = .ok (.ifnonnull 7, 3) := by decide +kernel
theorem d_Ne_port_11 : decode b_Ne_port 11 = .ok (.iconst (-1), 1) := by decide +kernel
theorem d_Ne_port_12 : decode b_Ne_port 12 = .ok (.goto 7, 3) := by decide +kernel
theorem d_Ne_port_15 : decode b_Ne_port 15 = .ok (.aload_n 3, 1) := by decide +kernel
theorem d_Ne_port_16 : decode b_Ne_port 16 = .ok (.invokevirtual 163, 3) := by decide +kernel
theorem d_Ne_port_19 : decode b_Ne_port 19 = .ok (.ireturn, 1) := by decide +kernel
theorem d_Po_summary_0 : decode b_Po_summary 0 = .ok (.aload_n 0, 1) := by decide +kernel
theorem d_Po_summary_1 : decode b_Po_summary 1 = .ok (.getfield 47, 3) := by decide +kernel
theorem d_Po_summary_4 : decode b_Po_summary 4 = .ok (.iconst 4, 1) := by decide +kernel
theorem d_Po_summary_5 : decode b_Po_summary 5 = .ok (.aload_n 0, 1) := by decide +kernel
theorem d_Po_summary_6 : decode b_Po_summary 6 = .ok (.getfield 50, 3) := by decide +kernel
theorem d_Po_summary_9 : decode b_Po_summary 9 = .ok (.imul, 1) := by decide +kernel
theorem d_Po_summary_10 : decode b_Po_summary 10 = .ok (.iadd, 1) := by decide +kernel
theorem d_Po_summary_11 : decode b_Po_summary 11 = .ok (.aload_n 0, 1) := by decide +kernel
theorem d_Po_summary_12 : decode b_Po_summary 12 = .ok (.getfield 53, 3) := by decide +kernel
theorem d_Po_summary_15 : decode b_Po_summary 15 = .ok (.ifCond .eq 8, 3) := by decide +kernel
theorem d_Po_summary_18 : decode b_Po_summary 18 = .ok (.bipush 16, 2) := by decide +kernel
theorem d_Po_summary_20 : decode b_Po_summary 20 = .ok (.goto 4, 3) := by decide +kernel
theorem d_Po_summary_23 : decode b_Po_summary 23 = .ok (.iconst 0, 1) := by decide +kernel
theorem d_Po_summary_24 : decode b_Po_summary 24 = .ok (.iadd, 1) := by decide +kernel
theorem d_Po_summary_25 : decode b_Po_summary 25 = .ok (.aload_n 0, 1) := by decide +kernel
theorem d_Po_summary_26 : decode b_Po_summary 26 = .ok (.getfield 56, 3) := by decide +kernel
theorem d_Po_summary_29 : decode b_Po_summary 29 = .ok (.ifCond .eq 8, 3) := by decide +kernel
theorem d_Po_summary_32 : decode b_Po_summary 32 = .ok (.bipush 32, 2) := by decide +kernel
theorem d_Po_summary_34 : decode b_Po_summary 34 = .ok (.goto 4, 3) := by decide +kernel
theorem d_Po_summary_37 : decode b_Po_summary 37 = .ok (.iconst 0, 1) := by decide +kernel
theorem d_Po_summary_38 : decode b_Po_summary 38 = .ok (.iadd, 1) := by decide +kernel
theorem d_Po_summary_39 : decode b_Po_summary 39 = .ok (.bipush 64, 2) := by decide +kernel
theorem d_Po_summary_41 : decode b_Po_summary 41 = .ok (.aload_n 0, 1) := by decide +kernel
theorem d_Po_summary_42 : decode b_Po_summary 42 = .ok (.getfield 59, 3) := by decide +kernel
theorem d_Po_summary_45 : decode b_Po_summary 45 = .ok (.imul, 1) := by decide +kernel
theorem d_Po_summary_46 : decode b_Po_summary 46 = .ok (.iadd, 1) := by decide +kernel
theorem d_Po_summary_47 : decode b_Po_summary 47 = .ok (.ireturn, 1) := by decide +kernel
theorem d_Ne_root_0 : decode b_Ne_root 0 = .ok (.iload_n 1, 1) := by decide +kernel
theorem d_Ne_root_1 : decode b_Ne_root 1 = .ok (.invokestatic 32, 3) := by decide +kernel
theorem d_Ne_root_4 : decode b_Ne_root 4 = .ok (.ifCond .eq 15, 3) := by decide +kernel
theorem d_Ne_root_7 : decode b_Ne_root 7 = .ok (.aload_n 0, 1) := by decide +kernel
theorem d_Ne_root_8 : decode b_Ne_root 8 = .ok (.getfield 11, 3) := by decide +kernel
theorem d_Ne_root_11 : decode b_Ne_root 11 = .ok (.iload_n 1, 1) := by decide +kernel
theorem d_Ne_root_12 : decode b_Ne_root 12 = .ok (.aaload, 1) := by decide +kernel
theorem d_Ne_root_13 : decode b_Ne_root 13 = .ok (.invokevirtual 167, 3) := by decide +kernel
theorem d_Ne_root_16 : decode b_Ne_root 16 = .ok (.goto 6, 3) := by decide +kernel
theorem d_Ne_root_19 : decode b_Ne_root 19 = .ok (.ldc2_w 170, 3) := by decide +kernel
theorem d_Ne_root_22 : decode b_Ne_root 22 = .ok (.lreturn, 1) := by decide +kernel
theorem d_Br_summary_0 : decode b_Br_summary 0 = .ok (.aload_n 0, 1) := by decide +kernel
theorem d_Br_summary_1 : decode b_Br_summary 1 = .ok (.getfield 41, 3) := by decide +kernel
theorem d_Br_summary_4 : decode b_Br_summary 4 = .ok (.i2l, 1) := by decide +kernel
theorem d_Br_summary_5 : decode b_Br_summary 5 = .ok (.aload_n 0, 1) := by decide +kernel
theorem d_Br_summary_6 : decode b_Br_summary 6 = .ok (.getfield 17, 3) := by decide +kernel
theorem d_Br_summary_9 : decode b_Br_summary 9 = .ok (.i2l, 1) := by decide +kernel
theorem d_Br_summary_10 : decode b_Br_summary 10 = .ok (.bipush 8, 2) := by decide +kernel
theorem d_Br_summary_12 : decode b_Br_summary 12 = .ok (.lshl, 1) := by decide +kernel
theorem d_Br_summary_13 : decode b_Br_summary 13 = .ok (.ladd, 1) := by decide +kernel
theorem d_Br_summary_14 : decode b_Br_summary 14 = .ok (.aload_n 0, 1) := by decide +kernel
theorem d_Br_summary_15 : decode b_Br_summary 15 = .ok (.getfield 21, 3) := by decide +kernel
theorem d_Br_summary_18 : decode b_Br_summary 18 = .ok (.i2l, 1) := by decide +kernel
theorem d_Br_summary_19 : decode b_Br_summary 19 = .ok (.bipush 24, 2) := by decide +kernel
theorem d_Br_summary_21 : decode b_Br_summary 21 = .ok (.lshl, 1) := by decide +kernel
theorem d_Br_summary_22 : decode b_Br_summary 22 = .ok (.ladd, 1) := by decide +kernel
theorem d_Br_summary_23 : decode b_Br_summary 23 = .ok (.lreturn, 1) := by decide +kernel
theorem d_Ne_info_0 : decode b_Ne_info 0 = .ok (.aload_n 0, 1) := by decide +kernel
theorem d_Ne_info_1 : decode b_Ne_info 1 = .ok (.iload_n 1, 1) := by decide +kernel
theorem d_Ne_info_2 : decode b_Ne_info 2 = .ok (.iload_n 2, 1) := by decide +kernel
theorem d_Ne_info_3 : decode b_Ne_info 3 = .ok (.invokevirtual 46, 3) := by decide +kernel
theorem d_Ne_info_6 : decode b_Ne_info 6 = .ok (.astore_n 3, 1) := by decide +kernel
theorem d_Ne_info_7 : decode b_Ne_info 7 = .ok (.aload_n 3, 1) := by decide +kernel
theorem d_Ne_info_8 : decode b_Ne_info 8 = .ok (.ifnull 10, 3) := by decide +kernel
theorem d_Ne_info_11 : decode b_Ne_info 11 = .ok (.aload_n 3, 1) := by decide +kernel
theorem d_Ne_info_12 : decode b_Ne_info 12 = .ok (.getfield 172, 3) := by decide +kernel
theorem d_Ne_info_15 : decode b_Ne_info 15 = .ok (.ifCond .ne 9, 3) := by decide +kernel
theorem d_Ne_info_18 : decode b_Ne_info 18 = .ok (.ldc2_w 170, 3) := by decide +kernel
theorem d_Ne_info_21 : decode b_Ne_info 21 = .ok (.goto 7, 3) := by decide +kernel
theorem d_Ne_info_24 : decode b_Ne_info 24 = .ok (.aload_n 3, 1) := by decide +kernel
theorem d_Ne_info_25 : decode b_Ne_info 25 = .ok (.invokevirtual 175, 3) := by decide +kernel
theorem d_Ne_info_28 : decode b_Ne_info 28 = .ok (.lreturn, 1) := by decide +kernel
theorem d_Po_infoSummary_0 : decode b_Po_infoSummary 0 = .ok (.aload_n 0, 1) := by decide +kernel
theorem d_Po_infoSummary_1 : decode b_Po_infoSummary 1 = .ok (.getfield 37, 3) := by decide +kernel
theorem d_Po_infoSummary_4 : decode b_Po_infoSummary 4 = .ok (.invokestatic 110, 3) := by decide +kernel
theorem d_Po_infoSummary_7 : decode b_Po_infoSummary 7 = .ok (.i2l, 1) := by decide +kernel
theorem d_Po_infoSummary_8 : decode b_Po_infoSummary 8 = .ok (.aload_n 0, 1) := by decide +kernel
theorem d_Po_infoSummary_9 : decode b_Po_infoSummary 9 = .ok (.getfield 37, 3) := by decide +kernel
theorem d_Po_infoSummary_12 : decode b_Po_infoSummary 12 = .ok (.invokestatic 116, 3) := by decide +kernel
theorem d_Po_infoSummary_15 : decode b_Po_infoSummary 15 = .ok (.i2l, 1) := by decide +kernel
theorem d_Po_infoSummary_16 : decode b_Po_infoSummary 16 = .ok (.bipush 8, 2) := by decide +kernel
theorem d_Po_infoSummary_18 : decode b_Po_infoSummary 18 = .ok (.lshl, 1) := by decide +kernel
theorem d_Po_infoSummary_19 : decode b_Po_infoSummary 19 = .ok (.ladd, 1) := by decide +kernel
theorem d_Po_infoSummary_20 : decode b_Po_infoSummary 20 = .ok (.aload_n 0, 1) := by decide +kernel
theorem d_Po_infoSummary_21 : decode b_Po_infoSummary 21 = .ok (.getfield 37, 3) := by decide +kernel
theorem d_Po_infoSummary_24 : decode b_Po_infoSummary 24 = .ok (.invokestatic 119, 3) := by decide +kernel
theorem d_Po_infoSummary_27 : decode b_Po_infoSummary 27 = .ok (.i2l, 1) := by decide +kernel
theorem d_Po_infoSummary_28 : decode b_Po_infoSummary 28 = .ok (.bipush 24, 2) := by decide +kernel
theorem d_Po_infoSummary_30 : decode b_Po_infoSummary 30 = .ok (.lshl, 1) := by decide +kernel
theorem d_Po_infoSummary_31 : decode b_Po_infoSummary 31 = .ok (.ladd, 1) := by decide +kernel
theorem d_Po_infoSummary_32 : decode b_Po_infoSummary 32 = .ok (.aload_n 0, 1) := by decide +kernel
theorem d_Po_infoSummary_33 : decode b_Po_infoSummary 33 = .ok (.getfield 37, 3) := by decide +kernel
theorem d_Po_infoSummary_36 : decode b_Po_infoSummary 36 = .ok (.invokestatic 122, 3) := by decide +kernel
theorem d_Po_infoSummary_39 : decode b_Po_infoSummary 39 = .ok (.i2l, 1) := by decide +kernel
theorem d_Po_infoSummary_40 : decode b_Po_infoSummary 40 = .ok (.bipush 32, 2) := by decide +kernel
theorem d_Po_infoSummary_42 : decode b_Po_infoSummary 42 = .ok (.lshl, 1) := by decide +kernel
theorem d_Po_infoSummary_43 : decode b_Po_infoSummary 43 = .ok (.ladd, 1) := by decide +kernel
theorem d_Po_infoSummary_44 : decode b_Po_infoSummary 44 = .ok (.aload_n 0, 1) := by decide +kernel
theorem d_Po_infoSummary_45 : decode b_Po_infoSummary 45 = .ok (.getfield 41, 3) := by decide +kernel
theorem d_Po_infoSummary_48 : decode b_Po_infoSummary 48 = .ok (.i2l, 1) := by decide +kernel
theorem d_Po_infoSummary_49 : decode b_Po_infoSummary 49 = .ok (.bipush 40, 2) := by decide +kernel
theorem d_Po_infoSummary_51 : decode b_Po_infoSummary 51 = .ok (.lshl, 1) := by decide +kernel
theorem d_Po_infoSummary_52 : decode b_Po_infoSummary 52 = .ok (.ladd, 1) := by decide +kernel
theorem d_Po_infoSummary_53 : decode b_Po_infoSummary 53 = .ok (.aload_n 0, 1) := by decide +kernel
theorem d_Po_infoSummary_54 : decode b_Po_infoSummary 54 = .ok (.getfield 44, 3) := by decide +kernel
theorem d_Po_infoSummary_57 : decode b_Po_infoSummary 57 = .ok (.i2l, 1) := by decide +kernel
theorem d_Po_infoSummary_58 : decode b_Po_infoSummary 58 = .ok (.bipush 48, 2) := by decide +kernel
theorem d_Po_infoSummary_60 : decode b_Po_infoSummary 60 = .ok (.lshl, 1) := by decide +kernel
theorem d_Po_infoSummary_61 : decode b_Po_infoSummary 61 = .ok (.ladd, 1) := by decide +kernel
theorem d_Po_infoSummary_62 : decode b_Po_infoSummary 62 = .ok (.lreturn, 1) := by decide +kernel
theorem d_Ve_portOf_0 : decode b_Ve_portOf 0 = .ok (.lload_n 0, 1) := by decide +kernel
theorem d_Ve_portOf_1 : decode b_Ve_portOf 1 = .ok (.l2i, 1) := by decide +kernel
theorem d_Ve_portOf_2 : decode b_Ve_portOf 2 = .ok (.sipush 255, 3) := by decide +kernel
theorem d_Ve_portOf_5 : decode b_Ve_portOf 5 = .ok (.iand, 1) := by decide +kernel
theorem d_Ve_portOf_6 : decode b_Ve_portOf 6 = .ok (.ireturn, 1) := by decide +kernel
theorem d_Ne_learned_0 : decode b_Ne_learned 0 = .ok (.iload_n 1, 1) := by decide +kernel
theorem d_Ne_learned_1 : decode b_Ne_learned 1 = .ok (.invokestatic 32, 3) := by decide +kernel
theorem d_Ne_learned_4 : decode b_Ne_learned 4 = .ok (.ifCond .eq 18, 3) := by decide +kernel
theorem d_Ne_learned_7 : decode b_Ne_learned 7 = .ok (.aload_n 0, 1) := by decide +kernel
theorem d_Ne_learned_8 : decode b_Ne_learned 8 = .ok (.iload_n 2, 1) := by decide +kernel
theorem d_Ne_learned_9 : decode b_Ne_learned 9 = .ok (.invokevirtual 74, 3) := by decide +kernel
theorem d_Ne_learned_12 : decode b_Ne_learned 12 = .ok (.ifnull 10, 3) := by decide +kernel
theorem d_Ne_learned_15 : decode b_Ne_learned 15 = .ok (.iload_n 3, 1) := by decide +kernel
theorem d_Ne_learned_16 : decode b_Ne_learned 16 = .ok (.invokestatic 85, 3) := by decide +kernel
theorem d_Ne_learned_19 : decode b_Ne_learned 19 = .ok (.ifCond .ne 5, 3) := by decide +kernel
theorem d_Ne_learned_22 : decode b_Ne_learned 22 = .ok (.iconst (-1), 1) := by decide +kernel
theorem d_Ne_learned_23 : decode b_Ne_learned 23 = .ok (.ireturn, 1) := by decide +kernel
theorem d_Ne_learned_24 : decode b_Ne_learned 24 = .ok (.aload_n 0, 1) := by decide +kernel
theorem d_Ne_learned_25 : decode b_Ne_learned 25 = .ok (.getfield 11, 3) := by decide +kernel
theorem d_Ne_learned_28 : decode b_Ne_learned 28 = .ok (.iload_n 1, 1) := by decide +kernel
theorem d_Ne_learned_29 : decode b_Ne_learned 29 = .ok (.aaload, 1) := by decide +kernel
theorem d_Ne_learned_30 : decode b_Ne_learned 30 = .ok (.iload_n 2, 1) := by decide +kernel
theorem d_Ne_learned_31 : decode b_Ne_learned 31 = .ok (.iload_n 3, 1) := by decide +kernel
theorem d_Ne_learned_32 : decode b_Ne_learned 32 = .ok (.invokevirtual 178, 3) := by decide +kernel
theorem d_Ne_learned_35 : decode b_Ne_learned 35 = .ok (.ireturn, 1) := by decide +kernel
theorem d_Ne_findStation_0 : decode b_Ne_findStation 0 = .ok (.iload_n 1, 1) := by decide +kernel
theorem d_Ne_findStation_1 : decode b_Ne_findStation 1 = .ok (.ifCond .lt 18, 3) := by decide +kernel
theorem d_Ne_findStation_4 : decode b_Ne_findStation 4 = .ok (.iload_n 1, 1) := by decide +kernel
theorem d_Ne_findStation_5 : decode b_Ne_findStation 5 = .ok (.bipush 8, 2) := by decide +kernel
theorem d_Ne_findStation_7 : decode b_Ne_findStation 7 = .ok (.if_icmp .ge 12, 3) := by decide +kernel
theorem d_Ne_findStation_10 : decode b_Ne_findStation 10 = .ok (.aload_n 0, 1) := by decide +kernel
theorem d_Ne_findStation_11 : decode b_Ne_findStation 11 = .ok (.getfield 17, 3) := by decide +kernel
theorem d_Ne_findStation_14 : decode b_Ne_findStation 14 = .ok (.iload_n 1, 1) := by decide +kernel
theorem d_Ne_findStation_15 : decode b_Ne_findStation 15 = .ok (.aaload, 1) := by decide +kernel
theorem d_Ne_findStation_16 : decode b_Ne_findStation 16 = .ok (.goto 4, 3) := by decide +kernel
theorem d_Ne_findStation_19 : decode b_Ne_findStation 19 = .ok (.aconst_null, 1) := by decide +kernel
theorem d_Ne_findStation_20 : decode b_Ne_findStation 20 = .ok (.areturn, 1) := by decide +kernel
theorem d_Ne_isVlan_0 : decode b_Ne_isVlan 0 = .ok (.iload_n 0, 1) := by decide +kernel
theorem d_Ne_isVlan_1 : decode b_Ne_isVlan 1 = .ok (.iconst 1, 1) := by decide +kernel
theorem d_Ne_isVlan_2 : decode b_Ne_isVlan 2 = .ok (.if_icmp .lt 12, 3) := by decide +kernel
theorem d_Ne_isVlan_5 : decode b_Ne_isVlan 5 = .ok (.iload_n 0, 1) := by decide +kernel
theorem d_Ne_isVlan_6 : decode b_Ne_isVlan 6 = .ok (.iconst 2, 1) := by decide +kernel
theorem d_Ne_isVlan_7 : decode b_Ne_isVlan 7 = .ok (.if_icmp .gt 7, 3) := by decide +kernel
theorem d_Ne_isVlan_10 : decode b_Ne_isVlan 10 = .ok (.iconst 1, 1) := by decide +kernel
theorem d_Ne_isVlan_11 : decode b_Ne_isVlan 11 = .ok (.goto 4, 3) := by decide +kernel
theorem d_Ne_isVlan_14 : decode b_Ne_isVlan 14 = .ok (.iconst 0, 1) := by decide +kernel
theorem d_Ne_isVlan_15 : decode b_Ne_isVlan 15 = .ok (.ireturn, 1) := by decide +kernel
theorem d_Br_placeOf_0 : decode b_Br_placeOf 0 = .ok (.iload_n 1, 1) := by decide +kernel
theorem d_Br_placeOf_1 : decode b_Br_placeOf 1 = .ok (.iload_n 2, 1) := by decide +kernel
theorem d_Br_placeOf_2 : decode b_Br_placeOf 2 = .ok (.invokestatic 203, 3) := by decide +kernel
theorem d_Br_placeOf_5 : decode b_Br_placeOf 5 = .ok (.istore_n 3, 1) := by decide +kernel
theorem d_Br_placeOf_6 : decode b_Br_placeOf 6 = .ok (.aload_n 0, 1) := by decide +kernel
theorem d_Br_placeOf_7 : decode b_Br_placeOf 7 = .ok (.getfield 32, 3) := by decide +kernel
theorem d_Br_placeOf_10 : decode b_Br_placeOf 10 = .ok (.iload_n 3, 1) := by decide +kernel
theorem d_Br_placeOf_11 : decode b_Br_placeOf 11 = .ok (.iaload, 1) := by decide +kernel
theorem d_Br_placeOf_12 : decode b_Br_placeOf 12 = .ok (.ifCond .le 12, 3) := by decide +kernel
theorem d_Br_placeOf_15 : decode b_Br_placeOf 15 = .ok (.aload_n 0, 1) := by decide +kernel
theorem d_Br_placeOf_16 : decode b_Br_placeOf 16 = .ok (.getfield 28, 3) := by decide +kernel
theorem d_Br_placeOf_19 : decode b_Br_placeOf 19 = .ok (.iload_n 3, 1) := by decide +kernel
theorem d_Br_placeOf_20 : decode b_Br_placeOf 20 = .ok (.iaload, 1) := by decide +kernel
theorem d_Br_placeOf_21 : decode b_Br_placeOf 21 = .ok (.goto 4, 3) := by decide +kernel
theorem d_Br_placeOf_24 : decode b_Br_placeOf 24 = .ok (.iconst (-1), 1) := by decide +kernel
theorem d_Br_placeOf_25 : decode b_Br_placeOf 25 = .ok (.ireturn, 1) := by decide +kernel
theorem d_Br_placeIndex_0 : decode b_Br_placeIndex 0 = .ok (.iload_n 0, 1) := by decide +kernel
theorem d_Br_placeIndex_1 : decode b_Br_placeIndex 1 = .ok (.iconst 2, 1) := by decide +kernel
theorem d_Br_placeIndex_2 : decode b_Br_placeIndex 2 = .ok (.imul, 1) := by decide +kernel
theorem d_Br_placeIndex_3 : decode b_Br_placeIndex 3 = .ok (.iload_n 1, 1) := by decide +kernel
theorem d_Br_placeIndex_4 : decode b_Br_placeIndex 4 = .ok (.iadd, 1) := by decide +kernel
theorem d_Br_placeIndex_5 : decode b_Br_placeIndex 5 = .ok (.iconst 1, 1) := by decide +kernel
theorem d_Br_placeIndex_6 : decode b_Br_placeIndex 6 = .ok (.isub, 1) := by decide +kernel
theorem d_Br_placeIndex_7 : decode b_Br_placeIndex 7 = .ok (.ireturn, 1) := by decide +kernel
theorem d_Ne_inbox_0 : decode b_Ne_inbox 0 = .ok (.aload_n 0, 1) := by decide +kernel
theorem d_Ne_inbox_1 : decode b_Ne_inbox 1 = .ok (.iload_n 1, 1) := by decide +kernel
theorem d_Ne_inbox_2 : decode b_Ne_inbox 2 = .ok (.invokevirtual 74, 3) := by decide +kernel
theorem d_Ne_inbox_5 : decode b_Ne_inbox 5 = .ok (.astore_n 3, 1) := by decide +kernel
theorem d_Ne_inbox_6 : decode b_Ne_inbox 6 = .ok (.aload_n 3, 1) := by decide +kernel
theorem d_Ne_inbox_7 : decode b_Ne_inbox 7 = .ok (.ifnonnull 7, 3) := by decide +kernel
theorem d_Ne_inbox_10 : decode b_Ne_inbox 10 = .ok (.ldc2_w 170, 3) := by decide +kernel
theorem d_Ne_inbox_13 : decode b_Ne_inbox 13 = .ok (.lreturn, 1) := by decide +kernel
theorem d_Ne_inbox_14 : decode b_Ne_inbox 14 = .ok (.iload_n 2, 1) := by decide +kernel
theorem d_Ne_inbox_15 : decode b_Ne_inbox 15 = .ok (.iconst (-1), 1) := by decide +kernel
theorem d_Ne_inbox_16 : decode b_Ne_inbox 16 = .ok (.if_icmp .ne 11, 3) := by decide +kernel
theorem d_Ne_inbox_19 : decode b_Ne_inbox 19 = .ok (.aload_n 3, 1) := by decide +kernel
theorem d_Ne_inbox_20 : decode b_Ne_inbox 20 = .ok (.getfield 182, 3) := by decide +kernel
theorem d_Ne_inbox_23 : decode b_Ne_inbox 23 = .ok (.i2l, 1) := by decide +kernel
theorem d_Ne_inbox_24 : decode b_Ne_inbox 24 = .ok (.goto 8, 3) := by decide +kernel
theorem d_Ne_inbox_27 : decode b_Ne_inbox 27 = .ok (.aload_n 3, 1) := by decide +kernel
theorem d_Ne_inbox_28 : decode b_Ne_inbox 28 = .ok (.iload_n 2, 1) := by decide +kernel
theorem d_Ne_inbox_29 : decode b_Ne_inbox 29 = .ok (.invokevirtual 185, 3) := by decide +kernel
theorem d_Ne_inbox_32 : decode b_Ne_inbox 32 = .ok (.lreturn, 1) := by decide +kernel
theorem d_St_kept_0 : decode b_St_kept 0 = .ok (.iload_n 1, 1) := by decide +kernel
theorem d_St_kept_1 : decode b_St_kept 1 = .ok (.ifCond .lt 20, 3) := by decide +kernel
theorem d_St_kept_4 : decode b_St_kept 4 = .ok (.iload_n 1, 1) := by decide +kernel
theorem d_St_kept_5 : decode b_St_kept 5 = .ok (.aload_n 0, 1) := by decide +kernel
theorem d_St_kept_6 : decode b_St_kept 6 = .ok (.getfield 23, 3) := by decide +kernel
theorem d_St_kept_9 : decode b_St_kept 9 = .ok (.if_icmp .ge 12, 3) := by decide +kernel
theorem d_St_kept_12 : decode b_St_kept 12 = .ok (.aload_n 0, 1) := by decide +kernel
theorem d_St_kept_13 : decode b_St_kept 13 = .ok (.getfield 19, 3) := by decide +kernel
theorem d_St_kept_16 : decode b_St_kept 16 = .ok (.iload_n 1, 1) := by decide +kernel
theorem d_St_kept_17 : decode b_St_kept 17 = .ok (.laload, 1) := by decide +kernel
theorem d_St_kept_18 : decode b_St_kept 18 = .ok (.goto 6, 3) := by decide +kernel
theorem d_St_kept_21 : decode b_St_kept 21 = .ok (.ldc2_w 47, 3) := by decide +kernel
theorem d_St_kept_24 : decode b_St_kept 24 = .ok (.lreturn, 1) := by decide +kernel
theorem d_Ne_line_0 : decode b_Ne_line 0 = .ok (.aload_n 0, 1) := by decide +kernel
theorem d_Ne_line_1 : decode b_Ne_line 1 = .ok (.iload_n 1, 1) := by decide +kernel
theorem d_Ne_line_2 : decode b_Ne_line 2 = .ok (.iload_n 2, 1) := by decide +kernel
theorem d_Ne_line_3 : decode b_Ne_line 3 = .ok (.invokevirtual 46, 3) := by decide +kernel
theorem d_Ne_line_6 : decode b_Ne_line 6 = .ok (.astore_n 3, 1) := by decide +kernel
theorem d_Ne_line_7 : decode b_Ne_line 7 = .ok (.aload_n 3, 1) := by decide +kernel
theorem d_Ne_line_8 : decode b_Ne_line 8 = .ok (.ifnonnull 7, 3) := by decide +kernel
theorem d_Ne_line_11 : decode b_Ne_line 11 = .ok (.iconst (-1), 1) := by decide +kernel
theorem d_Ne_line_12 : decode b_Ne_line 12 = .ok (.goto 10, 3) := by decide +kernel
theorem d_Ne_line_15 : decode b_Ne_line 15 = .ok (.aload_n 3, 1) := by decide +kernel
theorem d_Ne_line_16 : decode b_Ne_line 16 = .ok (.getfield 128, 3) := by decide +kernel
theorem d_Ne_line_19 : decode b_Ne_line 19 = .ok (.getfield 189, 3) := by decide +kernel
theorem d_Ne_line_22 : decode b_Ne_line 22 = .ok (.ireturn, 1) := by decide +kernel
theorem d_Ne_message_0 : decode b_Ne_message 0 = .ok (.aload_n 0, 1) := by decide +kernel
theorem d_Ne_message_1 : decode b_Ne_message 1 = .ok (.iload_n 1, 1) := by decide +kernel
theorem d_Ne_message_2 : decode b_Ne_message 2 = .ok (.iload_n 2, 1) := by decide +kernel
theorem d_Ne_message_3 : decode b_Ne_message 3 = .ok (.invokevirtual 46, 3) := by decide +kernel
theorem d_Ne_message_6 : decode b_Ne_message 6 = .ok (.astore 4, 2) := by decide +kernel
theorem d_Ne_message_8 : decode b_Ne_message 8 = .ok (.aload 4, 2) := by decide +kernel
theorem d_Ne_message_10 : decode b_Ne_message 10 = .ok (.ifnonnull 5, 3) := by decide +kernel
theorem d_Ne_message_13 : decode b_Ne_message 13 = .ok (.lconst 0, 1) := by decide +kernel
theorem d_Ne_message_14 : decode b_Ne_message 14 = .ok (.lreturn, 1) := by decide +kernel
theorem d_Ne_message_15 : decode b_Ne_message 15 = .ok (.aload 4, 2) := by decide +kernel
theorem d_Ne_message_17 : decode b_Ne_message 17 = .ok (.getfield 128, 3) := by decide +kernel
theorem d_Ne_message_20 : decode b_Ne_message 20 = .ok (.iload_n 3, 1) := by decide +kernel
theorem d_Ne_message_21 : decode b_Ne_message 21 = .ok (.invokevirtual 190, 3) := by decide +kernel
theorem d_Ne_message_24 : decode b_Ne_message 24 = .ok (.astore 5, 2) := by decide +kernel
theorem d_Ne_message_26 : decode b_Ne_message 26 = .ok (.aload 5, 2) := by decide +kernel
theorem d_Ne_message_28 : decode b_Ne_message 28 = .ok (.ifnonnull 7, 3) := by decide +kernel
theorem d_Ne_message_31 : decode b_Ne_message 31 = .ok (.lconst 0, 1) := by decide +kernel
theorem d_Ne_message_32 : decode b_Ne_message 32 = .ok (.goto 8, 3) := by decide +kernel
theorem d_Ne_message_35 : decode b_Ne_message 35 = .ok (.aload 5, 2) := by decide +kernel
theorem d_Ne_message_37 : decode b_Ne_message 37 = .ok (.invokevirtual 194, 3) := by decide +kernel
theorem d_Ne_message_40 : decode b_Ne_message 40 = .ok (.lreturn, 1) := by decide +kernel
theorem d_Li_at_0 : decode b_Li_at 0 = .ok (.iload_n 1, 1) := by decide +kernel
theorem d_Li_at_1 : decode b_Li_at 1 = .ok (.ifCond .lt 28, 3) := by decide +kernel
theorem d_Li_at_4 : decode b_Li_at 4 = .ok (.iload_n 1, 1) := by decide +kernel
theorem d_Li_at_5 : decode b_Li_at 5 = .ok (.aload_n 0, 1) := by decide +kernel
theorem d_Li_at_6 : decode b_Li_at 6 = .ok (.getfield 21, 3) := by decide +kernel
theorem d_Li_at_9 : decode b_Li_at 9 = .ok (.if_icmp .ge 20, 3) := by decide +kernel
theorem d_Li_at_12 : decode b_Li_at 12 = .ok (.aload_n 0, 1) := by decide +kernel
theorem d_Li_at_13 : decode b_Li_at 13 = .ok (.getfield 11, 3) := by decide +kernel
theorem d_Li_at_16 : decode b_Li_at 16 = .ok (.aload_n 0, 1) := by decide +kernel
theorem d_Li_at_17 : decode b_Li_at 17 = .ok (.getfield 17, 3) := by decide +kernel
theorem d_Li_at_20 : decode b_Li_at 20 = .ok (.iload_n 1, 1) := by decide +kernel
theorem d_Li_at_21 : decode b_Li_at 21 = .ok (.iadd, 1) := by decide +kernel
theorem d_Li_at_22 : decode b_Li_at 22 = .ok (.bipush 12, 2) := by decide +kernel
theorem d_Li_at_24 : decode b_Li_at 24 = .ok (.irem, 1) := by decide +kernel
theorem d_Li_at_25 : decode b_Li_at 25 = .ok (.aaload, 1) := by decide +kernel
theorem d_Li_at_26 : decode b_Li_at 26 = .ok (.goto 4, 3) := by decide +kernel
theorem d_Li_at_29 : decode b_Li_at 29 = .ok (.aconst_null, 1) := by decide +kernel
theorem d_Li_at_30 : decode b_Li_at 30 = .ok (.areturn, 1) := by decide +kernel
theorem d_Ms_summary_0 : decode b_Ms_summary 0 = .ok (.aload_n 0, 1) := by decide +kernel
theorem d_Ms_summary_1 : decode b_Ms_summary 1 = .ok (.getfield 29, 3) := by decide +kernel
theorem d_Ms_summary_4 : decode b_Ms_summary 4 = .ok (.ifnull 35, 3) := by decide +kernel
theorem d_Ms_summary_7 : decode b_Ms_summary 7 = .ok (.aload_n 0, 1) := by decide +kernel
theorem d_Ms_summary_8 : decode b_Ms_summary 8 = .ok (.getfield 9, 3) := by decide +kernel
theorem d_Ms_summary_11 : decode b_Ms_summary 11 = .ok (.i2l, 1) := by decide +kernel
theorem d_Ms_summary_12 : decode b_Ms_summary 12 = .ok (.ldc2_w 33, 3) := by decide +kernel
theorem d_Ms_summary_15 : decode b_Ms_summary 15 = .ok (.aload_n 0, 1) := by decide +kernel
theorem d_Ms_summary_16 : decode b_Ms_summary 16 = .ok (.getfield 29, 3) := by decide +kernel
theorem d_Ms_summary_19 : decode b_Ms_summary 19 = .ok (.getfield 35, 3) := by decide +kernel
theorem d_Ms_summary_22 : decode b_Ms_summary 22 = .ok (.i2l, 1) := by decide +kernel
theorem d_Ms_summary_23 : decode b_Ms_summary 23 = .ok (.lmul, 1) := by decide +kernel
theorem d_Ms_summary_24 : decode b_Ms_summary 24 = .ok (.ladd, 1) := by decide +kernel
theorem d_Ms_summary_25 : decode b_Ms_summary 25 = .ok (.ldc2_w 40, 3) := by decide +kernel
theorem d_Ms_summary_28 : decode b_Ms_summary 28 = .ok (.aload_n 0, 1) := by decide +kernel
theorem d_Ms_summary_29 : decode b_Ms_summary 29 = .ok (.getfield 29, 3) := by decide +kernel
theorem d_Ms_summary_32 : decode b_Ms_summary 32 = .ok (.getfield 42, 3) := by decide +kernel
theorem d_Ms_summary_35 : decode b_Ms_summary 35 = .ok (.i2l, 1) := by decide +kernel
theorem d_Ms_summary_36 : decode b_Ms_summary 36 = .ok (.lmul, 1) := by decide +kernel
theorem d_Ms_summary_37 : decode b_Ms_summary 37 = .ok (.ladd, 1) := by decide +kernel
theorem d_Ms_summary_38 : decode b_Ms_summary 38 = .ok (.lreturn, 1) := by decide +kernel
theorem d_Ms_summary_39 : decode b_Ms_summary 39 = .ok (.aload_n 0, 1) := by decide +kernel
theorem d_Ms_summary_40 : decode b_Ms_summary 40 = .ok (.getfield 9, 3) := by decide +kernel
theorem d_Ms_summary_43 : decode b_Ms_summary 43 = .ok (.i2l, 1) := by decide +kernel
theorem d_Ms_summary_44 : decode b_Ms_summary 44 = .ok (.ldc2_w 33, 3) := by decide +kernel
theorem d_Ms_summary_47 : decode b_Ms_summary 47 = .ok (.aload_n 0, 1) := by decide +kernel
theorem d_Ms_summary_48 : decode b_Ms_summary 48 = .ok (.getfield 15, 3) := by decide +kernel
theorem d_Ms_summary_51 : decode b_Ms_summary 51 = .ok (.i2l, 1) := by decide +kernel
theorem d_Ms_summary_52 : decode b_Ms_summary 52 = .ok (.lmul, 1) := by decide +kernel
theorem d_Ms_summary_53 : decode b_Ms_summary 53 = .ok (.ladd, 1) := by decide +kernel
theorem d_Ms_summary_54 : decode b_Ms_summary 54 = .ok (.lreturn, 1) := by decide +kernel
theorem d_Ne_attach_0 : decode b_Ne_attach 0 = .ok (.aload_n 0, 1) := by decide +kernel
theorem d_Ne_attach_1 : decode b_Ne_attach 1 = .ok (.iload_n 1, 1) := by decide +kernel
theorem d_Ne_attach_2 : decode b_Ne_attach 2 = .ok (.invokevirtual 74, 3) := by decide +kernel
theorem d_Ne_attach_5 : decode b_Ne_attach 5 = .ok (.astore 5, 2) := by decide +kernel
theorem d_Ne_attach_7 : decode b_Ne_attach 7 = .ok (.aload_n 0, 1) := by decide +kernel
theorem d_Ne_attach_8 : decode b_Ne_attach 8 = .ok (.iload_n 2, 1) := by decide +kernel
theorem d_Ne_attach_9 : decode b_Ne_attach 9 = .ok (.iload_n 3, 1) := by decide +kernel
theorem d_Ne_attach_10 : decode b_Ne_attach 10 = .ok (.invokevirtual 46, 3) := by decide +kernel
theorem d_Ne_attach_13 : decode b_Ne_attach 13 = .ok (.astore 6, 2) := by decide +kernel
theorem d_Ne_attach_15 : decode b_Ne_attach 15 = .ok (.aload 5, 2) := by decide +kernel
theorem d_Ne_attach_17 : decode b_Ne_attach 17 = .ok (.ifnull 8, 3) := by decide +kernel
theorem d_Ne_attach_20 : decode b_Ne_attach 20 = .ok (.aload 6, 2) := by decide +kernel
theorem d_Ne_attach_22 : decode b_Ne_attach 22 = .ok (.ifnonnull 13, 3) := by decide +kernel
theorem d_Ne_attach_25 : decode b_Ne_attach 25 = .ok (.new 78, 3) := by decide +kernel
theorem d_Ne_attach_28 : decode b_Ne_attach 28 = .ok (.dup, 1) := by decide +kernel
theorem d_Ne_attach_29 : decode b_Ne_attach 29 = .ok (.ldc 80, 2) := by decide +kernel
theorem d_Ne_attach_31 : decode b_Ne_attach 31 = .ok (.invokespecial 82, 3) := by decide +kernel
theorem d_Ne_attach_34 : decode b_Ne_attach 34 = .ok (.athrow, 1) := by decide +kernel
theorem d_Ne_attach_35 : decode b_Ne_attach 35 = .ok (.iload 4, 2) := by decide +kernel
theorem d_Ne_attach_37 : decode b_Ne_attach 37 = .ok (.invokestatic 85, 3) := by decide +kernel
theorem d_Ne_attach_40 : decode b_Ne_attach 40 = .ok (.ifCond .ne 13, 3) := by decide +kernel
theorem d_Ne_attach_43 : decode b_Ne_attach 43 = .ok (.new 88, 3) := by decide +kernel
theorem d_Ne_attach_46 : decode b_Ne_attach 46 = .ok (.dup, 1) := by decide +kernel
theorem d_Ne_attach_47 : decode b_Ne_attach 47 = .ok (.ldc 90, 2) := by decide +kernel
theorem d_Ne_attach_49 : decode b_Ne_attach 49 = .ok (.invokespecial 92, 3) := by decide +kernel
theorem d_Ne_attach_52 : decode b_Ne_attach 52 = .ok (.athrow, 1) := by decide +kernel
theorem d_Ne_attach_53 : decode b_Ne_attach 53 = .ok (.aload 6, 2) := by decide +kernel
theorem d_Ne_attach_55 : decode b_Ne_attach 55 = .ok (.invokevirtual 63, 3) := by decide +kernel
theorem d_Ne_attach_58 : decode b_Ne_attach 58 = .ok (.ifCond .ne 13, 3) := by decide +kernel
theorem d_Ne_attach_61 : decode b_Ne_attach 61 = .ok (.new 93, 3) := by decide +kernel
theorem d_Ne_attach_64 : decode b_Ne_attach 64 = .ok (.dup, 1) := by decide +kernel
theorem d_Ne_attach_65 : decode b_Ne_attach 65 = .ok (.ldc 95, 2) := by decide +kernel
theorem d_Ne_attach_67 : decode b_Ne_attach 67 = .ok (.invokespecial 97, 3) := by decide +kernel
theorem d_Ne_attach_70 : decode b_Ne_attach 70 = .ok (.athrow, 1) := by decide +kernel
theorem d_Ne_attach_71 : decode b_Ne_attach 71 = .ok (.aload 5, 2) := by decide +kernel
theorem d_Ne_attach_73 : decode b_Ne_attach 73 = .ok (.invokevirtual 98, 3) := by decide +kernel
theorem d_Ne_attach_76 : decode b_Ne_attach 76 = .ok (.aload 5, 2) := by decide +kernel
theorem d_Ne_attach_78 : decode b_Ne_attach 78 = .ok (.aload 6, 2) := by decide +kernel
theorem d_Ne_attach_80 : decode b_Ne_attach 80 = .ok (.iload 4, 2) := by decide +kernel
theorem d_Ne_attach_82 : decode b_Ne_attach 82 = .ok (.invokevirtual 101, 3) := by decide +kernel
theorem d_Ne_attach_85 : decode b_Ne_attach 85 = .ok (.return_, 1) := by decide +kernel
theorem d_St_leave_0 : decode b_St_leave 0 = .ok (.aload_n 0, 1) := by decide +kernel
theorem d_St_leave_1 : decode b_St_leave 1 = .ok (.getfield 9, 3) := by decide +kernel
theorem d_St_leave_4 : decode b_St_leave 4 = .ok (.ifnull 27, 3) := by decide +kernel
theorem d_St_leave_7 : decode b_St_leave 7 = .ok (.aload_n 0, 1) := by decide +kernel
theorem d_St_leave_8 : decode b_St_leave 8 = .ok (.getfield 9, 3) := by decide +kernel
theorem d_St_leave_11 : decode b_St_leave 11 = .ok (.aconst_null, 1) := by decide +kernel
theorem d_St_leave_12 : decode b_St_leave 12 = .ok (.aconst_null, 1) := by decide +kernel
theorem d_St_leave_13 : decode b_St_leave 13 = .ok (.invokevirtual 26, 3) := by decide +kernel
theorem d_St_leave_16 : decode b_St_leave 16 = .ok (.aload_n 0, 1) := by decide +kernel
theorem d_St_leave_17 : decode b_St_leave 17 = .ok (.getfield 9, 3) := by decide +kernel
theorem d_St_leave_20 : decode b_St_leave 20 = .ok (.getfield 32, 3) := by decide +kernel
theorem d_St_leave_23 : decode b_St_leave 23 = .ok (.invokevirtual 36, 3) := by decide +kernel
theorem d_St_leave_26 : decode b_St_leave 26 = .ok (.aload_n 0, 1) := by decide +kernel
theorem d_St_leave_27 : decode b_St_leave 27 = .ok (.aconst_null, 1) := by decide +kernel
theorem d_St_leave_28 : decode b_St_leave 28 = .ok (.putfield 9, 3) := by decide +kernel
theorem d_St_leave_31 : decode b_St_leave 31 = .ok (.return_, 1) := by decide +kernel
theorem d_St_settle_0 : decode b_St_settle 0 = .ok (.aload_n 0, 1) := by decide +kernel
theorem d_St_settle_1 : decode b_St_settle 1 = .ok (.aload_n 1, 1) := by decide +kernel
theorem d_St_settle_2 : decode b_St_settle 2 = .ok (.putfield 9, 3) := by decide +kernel
theorem d_St_settle_5 : decode b_St_settle 5 = .ok (.aload_n 0, 1) := by decide +kernel
theorem d_St_settle_6 : decode b_St_settle 6 = .ok (.iload_n 2, 1) := by decide +kernel
theorem d_St_settle_7 : decode b_St_settle 7 = .ok (.putfield 15, 3) := by decide +kernel
theorem d_St_settle_10 : decode b_St_settle 10 = .ok (.aload_n 1, 1) := by decide +kernel
theorem d_St_settle_11 : decode b_St_settle 11 = .ok (.aconst_null, 1) := by decide +kernel
theorem d_St_settle_12 : decode b_St_settle 12 = .ok (.aload_n 0, 1) := by decide +kernel
theorem d_St_settle_13 : decode b_St_settle 13 = .ok (.invokevirtual 26, 3) := by decide +kernel
theorem d_St_settle_16 : decode b_St_settle 16 = .ok (.aload_n 1, 1) := by decide +kernel
theorem d_St_settle_17 : decode b_St_settle 17 = .ok (.getfield 32, 3) := by decide +kernel
theorem d_St_settle_20 : decode b_St_settle 20 = .ok (.invokevirtual 36, 3) := by decide +kernel
theorem d_St_settle_23 : decode b_St_settle 23 = .ok (.return_, 1) := by decide +kernel
theorem d_Ne_send_0 : decode b_Ne_send 0 = .ok (.aload_n 0, 1) := by decide +kernel
theorem d_Ne_send_1 : decode b_Ne_send 1 = .ok (.iload_n 1, 1) := by decide +kernel
theorem d_Ne_send_2 : decode b_Ne_send 2 = .ok (.invokevirtual 74, 3) := by decide +kernel
theorem d_Ne_send_5 : decode b_Ne_send 5 = .ok (.astore 4, 2) := by decide +kernel
theorem d_Ne_send_7 : decode b_Ne_send 7 = .ok (.aload 4, 2) := by decide +kernel
theorem d_Ne_send_9 : decode b_Ne_send 9 = .ok (.ifnonnull 13, 3) := by decide +kernel
theorem d_Ne_send_12 : decode b_Ne_send 12 = .ok (.new 78, 3) := by decide +kernel
theorem d_Ne_send_15 : decode b_Ne_send 15 = .ok (.dup, 1) := by decide +kernel
theorem d_Ne_send_16 : decode b_Ne_send 16 = .ok (.ldc 105, 2) := by decide +kernel
theorem d_Ne_send_18 : decode b_Ne_send 18 = .ok (.invokespecial 82, 3) := by decide +kernel
theorem d_Ne_send_21 : decode b_Ne_send 21 = .ok (.athrow, 1) := by decide +kernel
theorem d_Ne_send_22 : decode b_Ne_send 22 = .ok (.aload 4, 2) := by decide +kernel
theorem d_Ne_send_24 : decode b_Ne_send 24 = .ok (.getfield 107, 3) := by decide +kernel
theorem d_Ne_send_27 : decode b_Ne_send 27 = .ok (.astore 5, 2) := by decide +kernel
theorem d_Ne_send_29 : decode b_Ne_send 29 = .ok (.aload 5, 2) := by decide +kernel
theorem d_Ne_send_31 : decode b_Ne_send 31 = .ok (.ifnonnull 13, 3) := by decide +kernel
theorem d_Ne_send_34 : decode b_Ne_send 34 = .ok (.new 93, 3) := by decide +kernel
theorem d_Ne_send_37 : decode b_Ne_send 37 = .ok (.dup, 1) := by decide +kernel
theorem d_Ne_send_38 : decode b_Ne_send 38 = .ok (.ldc 110, 2) := by decide +kernel
theorem d_Ne_send_40 : decode b_Ne_send 40 = .ok (.invokespecial 97, 3) := by decide +kernel
theorem d_Ne_send_43 : decode b_Ne_send 43 = .ok (.athrow, 1) := by decide +kernel
theorem d_Ne_send_44 : decode b_Ne_send 44 = .ok (.iload_n 2, 1) := by decide +kernel
theorem d_Ne_send_45 : decode b_Ne_send 45 = .ok (.ifCond .lt 9, 3) := by decide +kernel
theorem d_Ne_send_48 : decode b_Ne_send 48 = .ok (.iload_n 2, 1) := by decide +kernel
theorem d_Ne_send_49 : decode b_Ne_send 49 = .ok (.bipush 9, 2) := by decide +kernel
theorem d_Ne_send_51 : decode b_Ne_send 51 = .ok (.if_icmp .le 13, 3) := by decide +kernel
theorem d_Ne_send_54 : decode b_Ne_send 54 = .ok (.new 88, 3) := by decide +kernel
theorem d_Ne_send_57 : decode b_Ne_send 57 = .ok (.dup, 1) := by decide +kernel
theorem d_Ne_send_58 : decode b_Ne_send 58 = .ok (.ldc 112, 2) := by decide +kernel
theorem d_Ne_send_60 : decode b_Ne_send 60 = .ok (.invokespecial 92, 3) := by decide +kernel
theorem d_Ne_send_63 : decode b_Ne_send 63 = .ok (.athrow, 1) := by decide +kernel
theorem d_Ne_send_64 : decode b_Ne_send 64 = .ok (.aload 5, 2) := by decide +kernel
theorem d_Ne_send_66 : decode b_Ne_send 66 = .ok (.getfield 59, 3) := by decide +kernel
theorem d_Ne_send_69 : decode b_Ne_send 69 = .ok (.aload 5, 2) := by decide +kernel
theorem d_Ne_send_71 : decode b_Ne_send 71 = .ok (.new 114, 3) := by decide +kernel
theorem d_Ne_send_74 : decode b_Ne_send 74 = .ok (.dup, 1) := by decide +kernel
theorem d_Ne_send_75 : decode b_Ne_send 75 = .ok (.iload_n 1, 1) := by decide +kernel
theorem d_Ne_send_76 : decode b_Ne_send 76 = .ok (.iload_n 2, 1) := by decide +kernel
theorem d_Ne_send_77 : decode b_Ne_send 77 = .ok (.aload 4, 2) := by decide +kernel
theorem d_Ne_send_79 : decode b_Ne_send 79 = .ok (.getfield 116, 3) := by decide +kernel
theorem d_Ne_send_82 : decode b_Ne_send 82 = .ok (.iload_n 3, 1) := by decide +kernel
theorem d_Ne_send_83 : decode b_Ne_send 83 = .ok (.invokespecial 119, 3) := by decide +kernel
theorem d_Ne_send_86 : decode b_Ne_send 86 = .ok (.invokevirtual 122, 3) := by decide +kernel
theorem d_Ne_send_89 : decode b_Ne_send 89 = .ok (.ireturn, 1) := by decide +kernel
theorem d_Br_hearFrame_0 : decode b_Br_hearFrame 0 = .ok (.aload_n 2, 1) := by decide +kernel
theorem d_Br_hearFrame_1 : decode b_Br_hearFrame 1 = .ok (.ifnull 21, 3) := by decide +kernel
theorem d_Br_hearFrame_4 : decode b_Br_hearFrame 4 = .ok (.aload_n 1, 1) := by decide +kernel
theorem d_Br_hearFrame_5 : decode b_Br_hearFrame 5 = .ok (.getfield 165, 3) := by decide +kernel
theorem d_Br_hearFrame_8 : decode b_Br_hearFrame 8 = .ok (.ifCond .eq 14, 3) := by decide +kernel
theorem d_Br_hearFrame_11 : decode b_Br_hearFrame 11 = .ok (.aload_n 1, 1) := by decide +kernel
theorem d_Br_hearFrame_12 : decode b_Br_hearFrame 12 = .ok (.aload_n 2, 1) := by decide +kernel
theorem d_Br_hearFrame_13 : decode b_Br_hearFrame 13 = .ok (.getfield 168, 3) := by decide +kernel
theorem d_Br_hearFrame_16 : decode b_Br_hearFrame 16 = .ok (.invokevirtual 173, 3) := by decide +kernel
theorem d_Br_hearFrame_19 : decode b_Br_hearFrame 19 = .ok (.ifCond .ne 5, 3) := by decide +kernel
theorem d_Br_hearFrame_22 : decode b_Br_hearFrame 22 = .ok (.iconst 0, 1) := by decide +kernel
theorem d_Br_hearFrame_23 : decode b_Br_hearFrame 23 = .ok (.ireturn, 1) := by decide +kernel
theorem d_Br_hearFrame_24 : decode b_Br_hearFrame 24 = .ok (.aload_n 0, 1) := by decide +kernel
theorem d_Br_hearFrame_25 : decode b_Br_hearFrame 25 = .ok (.aload_n 2, 1) := by decide +kernel
theorem d_Br_hearFrame_26 : decode b_Br_hearFrame 26 = .ok (.getfield 177, 3) := by decide +kernel
theorem d_Br_hearFrame_29 : decode b_Br_hearFrame 29 = .ok (.aload_n 2, 1) := by decide +kernel
theorem d_Br_hearFrame_30 : decode b_Br_hearFrame 30 = .ok (.getfield 168, 3) := by decide +kernel
theorem d_Br_hearFrame_33 : decode b_Br_hearFrame 33 = .ok (.aload_n 1, 1) := by decide +kernel
theorem d_Br_hearFrame_34 : decode b_Br_hearFrame 34 = .ok (.getfield 112, 3) := by decide +kernel
theorem d_Br_hearFrame_37 : decode b_Br_hearFrame 37 = .ok (.invokevirtual 180, 3) := by decide +kernel
theorem d_Br_hearFrame_40 : decode b_Br_hearFrame 40 = .ok (.aload_n 1, 1) := by decide +kernel
theorem d_Br_hearFrame_41 : decode b_Br_hearFrame 41 = .ok (.getfield 165, 3) := by decide +kernel
theorem d_Br_hearFrame_44 : decode b_Br_hearFrame 44 = .ok (.iconst 2, 1) := by decide +kernel
theorem d_Br_hearFrame_45 : decode b_Br_hearFrame 45 = .ok (.if_icmp .ne 12, 3) := by decide +kernel
theorem d_Br_hearFrame_48 : decode b_Br_hearFrame 48 = .ok (.aload_n 2, 1) := by decide +kernel
theorem d_Br_hearFrame_49 : decode b_Br_hearFrame 49 = .ok (.getfield 184, 3) := by decide +kernel
theorem d_Br_hearFrame_52 : decode b_Br_hearFrame 52 = .ok (.bipush 9, 2) := by decide +kernel
theorem d_Br_hearFrame_54 : decode b_Br_hearFrame 54 = .ok (.if_icmp .ne 5, 3) := by decide +kernel
theorem d_Br_hearFrame_57 : decode b_Br_hearFrame 57 = .ok (.iconst 0, 1) := by decide +kernel
theorem d_Br_hearFrame_58 : decode b_Br_hearFrame 58 = .ok (.ireturn, 1) := by decide +kernel
theorem d_Br_hearFrame_59 : decode b_Br_hearFrame 59 = .ok (.aload_n 2, 1) := by decide +kernel
theorem d_Br_hearFrame_60 : decode b_Br_hearFrame 60 = .ok (.getfield 184, 3) := by decide +kernel
theorem d_Br_hearFrame_63 : decode b_Br_hearFrame 63 = .ok (.bipush 8, 2) := by decide +kernel
theorem d_Br_hearFrame_65 : decode b_Br_hearFrame 65 = .ok (.if_icmp .ge 18, 3) := by decide +kernel
theorem d_Br_hearFrame_68 : decode b_Br_hearFrame 68 = .ok (.aload_n 0, 1) := by decide +kernel
theorem d_Br_hearFrame_69 : decode b_Br_hearFrame 69 = .ok (.aload_n 2, 1) := by decide +kernel
theorem d_Br_hearFrame_70 : decode b_Br_hearFrame 70 = .ok (.getfield 184, 3) := by decide +kernel
theorem d_Br_hearFrame_73 : decode b_Br_hearFrame 73 = .ok (.aload_n 2, 1) := by decide +kernel
theorem d_Br_hearFrame_74 : decode b_Br_hearFrame 74 = .ok (.getfield 168, 3) := by decide +kernel
theorem d_Br_hearFrame_77 : decode b_Br_hearFrame 77 = .ok (.invokevirtual 187, 3) := by decide +kernel
theorem d_Br_hearFrame_80 : decode b_Br_hearFrame 80 = .ok (.goto 4, 3) := by decide +kernel
theorem d_Br_hearFrame_83 : decode b_Br_hearFrame 83 = .ok (.iconst (-1), 1) := by decide +kernel
theorem d_Br_hearFrame_84 : decode b_Br_hearFrame 84 = .ok (.istore_n 3, 1) := by decide +kernel
theorem d_Br_hearFrame_85 : decode b_Br_hearFrame 85 = .ok (.iload_n 3, 1) := by decide +kernel
theorem d_Br_hearFrame_86 : decode b_Br_hearFrame 86 = .ok (.ifCond .ge 12, 3) := by decide +kernel
theorem d_Br_hearFrame_89 : decode b_Br_hearFrame 89 = .ok (.aload_n 0, 1) := by decide +kernel
theorem d_Br_hearFrame_90 : decode b_Br_hearFrame 90 = .ok (.aload_n 1, 1) := by decide +kernel
theorem d_Br_hearFrame_91 : decode b_Br_hearFrame 91 = .ok (.aload_n 2, 1) := by decide +kernel
theorem d_Br_hearFrame_92 : decode b_Br_hearFrame 92 = .ok (.invokevirtual 191, 3) := by decide +kernel
theorem d_Br_hearFrame_95 : decode b_Br_hearFrame 95 = .ok (.goto 10, 3) := by decide +kernel
theorem d_Br_hearFrame_98 : decode b_Br_hearFrame 98 = .ok (.aload_n 0, 1) := by decide +kernel
theorem d_Br_hearFrame_99 : decode b_Br_hearFrame 99 = .ok (.iload_n 3, 1) := by decide +kernel
theorem d_Br_hearFrame_100 : decode b_Br_hearFrame 100 = .ok (.aload_n 1, 1) := by decide +kernel
theorem d_Br_hearFrame_101 : decode b_Br_hearFrame 101 = .ok (.aload_n 2, 1) := by decide +kernel
theorem d_Br_hearFrame_102 : decode b_Br_hearFrame 102 = .ok (.invokevirtual 195, 3) := by decide +kernel
theorem d_Br_hearFrame_105 : decode b_Br_hearFrame 105 = .ok (.ireturn, 1) := by decide +kernel
theorem d_Po_carries_0 : decode b_Po_carries 0 = .ok (.aload_n 0, 1) := by decide +kernel
theorem d_Po_carries_1 : decode b_Po_carries 1 = .ok (.getfield 22, 3) := by decide +kernel
theorem d_Po_carries_4 : decode b_Po_carries 4 = .ok (.iload_n 1, 1) := by decide +kernel
theorem d_Po_carries_5 : decode b_Po_carries 5 = .ok (.iand, 1) := by decide +kernel
theorem d_Po_carries_6 : decode b_Po_carries 6 = .ok (.ifCond .eq 7, 3) := by decide +kernel
theorem d_Po_carries_9 : decode b_Po_carries 9 = .ok (.iconst 1, 1) := by decide +kernel
theorem d_Po_carries_10 : decode b_Po_carries 10 = .ok (.goto 4, 3) := by decide +kernel
theorem d_Po_carries_13 : decode b_Po_carries 13 = .ok (.iconst 0, 1) := by decide +kernel
theorem d_Po_carries_14 : decode b_Po_carries 14 = .ok (.ireturn, 1) := by decide +kernel
theorem d_Br_learn_0 : decode b_Br_learn 0 = .ok (.iload_n 1, 1) := by decide +kernel
theorem d_Br_learn_1 : decode b_Br_learn 1 = .ok (.iload_n 2, 1) := by decide +kernel
theorem d_Br_learn_2 : decode b_Br_learn 2 = .ok (.invokestatic 203, 3) := by decide +kernel
theorem d_Br_learn_5 : decode b_Br_learn 5 = .ok (.istore 4, 2) := by decide +kernel
theorem d_Br_learn_7 : decode b_Br_learn 7 = .ok (.aload_n 0, 1) := by decide +kernel
theorem d_Br_learn_8 : decode b_Br_learn 8 = .ok (.getfield 28, 3) := by decide +kernel
theorem d_Br_learn_11 : decode b_Br_learn 11 = .ok (.iload 4, 2) := by decide +kernel
theorem d_Br_learn_13 : decode b_Br_learn 13 = .ok (.iload_n 3, 1) := by decide +kernel
theorem d_Br_learn_14 : decode b_Br_learn 14 = .ok (.iastore, 1) := by decide +kernel
theorem d_Br_learn_15 : decode b_Br_learn 15 = .ok (.aload_n 0, 1) := by decide +kernel
theorem d_Br_learn_16 : decode b_Br_learn 16 = .ok (.getfield 32, 3) := by decide +kernel
theorem d_Br_learn_19 : decode b_Br_learn 19 = .ok (.iload 4, 2) := by decide +kernel
theorem d_Br_learn_21 : decode b_Br_learn 21 = .ok (.bipush 12, 2) := by decide +kernel
theorem d_Br_learn_23 : decode b_Br_learn 23 = .ok (.iastore, 1) := by decide +kernel
theorem d_Br_learn_24 : decode b_Br_learn 24 = .ok (.return_, 1) := by decide +kernel
theorem d_Br_flood_0 : decode b_Br_flood 0 = .ok (.iconst 0, 1) := by decide +kernel
theorem d_Br_flood_1 : decode b_Br_flood 1 = .ok (.istore_n 3, 1) := by decide +kernel
theorem d_Br_flood_2 : decode b_Br_flood 2 = .ok (.aload_n 0, 1) := by decide +kernel
theorem d_Br_flood_3 : decode b_Br_flood 3 = .ok (.getfield 11, 3) := by decide +kernel
theorem d_Br_flood_6 : decode b_Br_flood 6 = .ok (.astore 4, 2) := by decide +kernel
theorem d_Br_flood_8 : decode b_Br_flood 8 = .ok (.aload 4, 2) := by decide +kernel
theorem d_Br_flood_10 : decode b_Br_flood 10 = .ok (.arraylength, 1) := by decide +kernel
theorem d_Br_flood_11 : decode b_Br_flood 11 = .ok (.istore 5, 2) := by decide +kernel
theorem d_Br_flood_13 : decode b_Br_flood 13 = .ok (.iconst 0, 1) := by decide +kernel
theorem d_Br_flood_14 : decode b_Br_flood 14 = .ok (.istore 6, 2) := by decide +kernel
theorem d_Br_flood_16 : decode b_Br_flood 16 = .ok (.iload 6, 2) := by decide +kernel
theorem d_Br_flood_18 : decode b_Br_flood 18 = .ok (.iload 5, 2) := by decide +kernel
theorem d_Br_flood_20 : decode b_Br_flood 20 = .ok (.if_icmp .ge 34, 3) := by decide +kernel
theorem d_Br_flood_23 : decode b_Br_flood 23 = .ok (.aload 4, 2) := by decide +kernel
theorem d_Br_flood_25 : decode b_Br_flood 25 = .ok (.iload 6, 2) := by decide +kernel
theorem d_Br_flood_27 : decode b_Br_flood 27 = .ok (.aaload, 1) := by decide +kernel
theorem d_Br_flood_28 : decode b_Br_flood 28 = .ok (.astore 7, 2) := by decide +kernel
theorem d_Br_flood_30 : decode b_Br_flood 30 = .ok (.aload 7, 2) := by decide +kernel
theorem d_Br_flood_32 : decode b_Br_flood 32 = .ok (.aload_n 1, 1) := by decide +kernel
theorem d_Br_flood_33 : decode b_Br_flood 33 = .ok (.if_acmp .eq 15, 3) := by decide +kernel
theorem d_Br_flood_36 : decode b_Br_flood 36 = .ok (.aload 7, 2) := by decide +kernel
theorem d_Br_flood_38 : decode b_Br_flood 38 = .ok (.aload_n 2, 1) := by decide +kernel
theorem d_Br_flood_39 : decode b_Br_flood 39 = .ok (.invokevirtual 199, 3) := by decide +kernel
theorem d_Br_flood_42 : decode b_Br_flood 42 = .ok (.ifCond .eq 6, 3) := by decide +kernel
theorem d_Br_flood_45 : decode b_Br_flood 45 = .ok (.iinc 3 1, 3) := by decide +kernel
theorem d_Br_flood_48 : decode b_Br_flood 48 = .ok (.iinc 6 1, 3) := by decide +kernel
theorem d_Br_flood_51 : decode b_Br_flood 51 = .ok (.goto (-35), 3) := by decide +kernel
theorem d_Br_flood_54 : decode b_Br_flood 54 = .ok (.iload_n 3, 1) := by decide +kernel
theorem d_Br_flood_55 : decode b_Br_flood 55 = .ok (.ireturn, 1) := by decide +kernel
theorem d_Po_letOut_0 : decode b_Po_letOut 0 = .ok (.aload_n 0, 1) := by decide +kernel
theorem d_Po_letOut_1 : decode b_Po_letOut 1 = .ok (.getfield 50, 3) := by decide +kernel
theorem d_Po_letOut_4 : decode b_Po_letOut 4 = .ok (.iconst 2, 1) := by decide +kernel
theorem d_Po_letOut_5 : decode b_Po_letOut 5 = .ok (.if_icmp .ne 14, 3) := by decide +kernel
theorem d_Po_letOut_8 : decode b_Po_letOut 8 = .ok (.aload_n 0, 1) := by decide +kernel
theorem d_Po_letOut_9 : decode b_Po_letOut 9 = .ok (.aload_n 1, 1) := by decide +kernel
theorem d_Po_letOut_10 : decode b_Po_letOut 10 = .ok (.getfield 91, 3) := by decide +kernel
theorem d_Po_letOut_13 : decode b_Po_letOut 13 = .ok (.invokevirtual 96, 3) := by decide +kernel
theorem d_Po_letOut_16 : decode b_Po_letOut 16 = .ok (.ifCond .ne 5, 3) := by decide +kernel
theorem d_Po_letOut_19 : decode b_Po_letOut 19 = .ok (.iconst 0, 1) := by decide +kernel
theorem d_Po_letOut_20 : decode b_Po_letOut 20 = .ok (.ireturn, 1) := by decide +kernel
theorem d_Po_letOut_21 : decode b_Po_letOut 21 = .ok (.aload_n 0, 1) := by decide +kernel
theorem d_Po_letOut_22 : decode b_Po_letOut 22 = .ok (.getfield 25, 3) := by decide +kernel
theorem d_Po_letOut_25 : decode b_Po_letOut 25 = .ok (.ifnull 17, 3) := by decide +kernel
theorem d_Po_letOut_28 : decode b_Po_letOut 28 = .ok (.aload_n 0, 1) := by decide +kernel
theorem d_Po_letOut_29 : decode b_Po_letOut 29 = .ok (.getfield 25, 3) := by decide +kernel
theorem d_Po_letOut_32 : decode b_Po_letOut 32 = .ok (.getfield 12, 3) := by decide +kernel
theorem d_Po_letOut_35 : decode b_Po_letOut 35 = .ok (.aload_n 1, 1) := by decide +kernel
theorem d_Po_letOut_36 : decode b_Po_letOut 36 = .ok (.invokevirtual 100, 3) := by decide +kernel
theorem d_Po_letOut_39 : decode b_Po_letOut 39 = .ok (.goto 32, 3) := by decide +kernel
theorem d_Po_letOut_42 : decode b_Po_letOut 42 = .ok (.aload_n 0, 1) := by decide +kernel
theorem d_Po_letOut_43 : decode b_Po_letOut 43 = .ok (.getfield 29, 3) := by decide +kernel
theorem d_Po_letOut_46 : decode b_Po_letOut 46 = .ok (.ifnull 25, 3) := by decide +kernel
theorem d_Po_letOut_49 : decode b_Po_letOut 49 = .ok (.aload_n 0, 1) := by decide +kernel
theorem d_Po_letOut_50 : decode b_Po_letOut 50 = .ok (.getfield 29, 3) := by decide +kernel
theorem d_Po_letOut_53 : decode b_Po_letOut 53 = .ok (.getfield 104, 3) := by decide +kernel
theorem d_Po_letOut_56 : decode b_Po_letOut 56 = .ok (.aload_n 1, 1) := by decide +kernel
theorem d_Po_letOut_57 : decode b_Po_letOut 57 = .ok (.getfield 91, 3) := by decide +kernel
theorem d_Po_letOut_60 : decode b_Po_letOut 60 = .ok (.if_icmp .ne 11, 3) := by decide +kernel
theorem d_Po_letOut_63 : decode b_Po_letOut 63 = .ok (.aload_n 0, 1) := by decide +kernel
theorem d_Po_letOut_64 : decode b_Po_letOut 64 = .ok (.getfield 29, 3) := by decide +kernel
theorem d_Po_letOut_67 : decode b_Po_letOut 67 = .ok (.aload_n 1, 1) := by decide +kernel
theorem d_Po_letOut_68 : decode b_Po_letOut 68 = .ok (.invokevirtual 107, 3) := by decide +kernel
theorem d_Po_letOut_71 : decode b_Po_letOut 71 = .ok (.iconst 1, 1) := by decide +kernel
theorem d_Po_letOut_72 : decode b_Po_letOut 72 = .ok (.ireturn, 1) := by decide +kernel
theorem d_Li_putFrame_0 : decode b_Li_putFrame 0 = .ok (.aload_n 0, 1) := by decide +kernel
theorem d_Li_putFrame_1 : decode b_Li_putFrame 1 = .ok (.iconst 3, 1) := by decide +kernel
theorem d_Li_putFrame_2 : decode b_Li_putFrame 2 = .ok (.iconst 0, 1) := by decide +kernel
theorem d_Li_putFrame_3 : decode b_Li_putFrame 3 = .ok (.aload_n 1, 1) := by decide +kernel
theorem d_Li_putFrame_4 : decode b_Li_putFrame 4 = .ok (.invokevirtual 31, 3) := by decide +kernel
theorem d_Li_putFrame_7 : decode b_Li_putFrame 7 = .ok (.pop, 1) := by decide +kernel
theorem d_Li_putFrame_8 : decode b_Li_putFrame 8 = .ok (.return_, 1) := by decide +kernel
theorem d_St_keep_0 : decode b_St_keep 0 = .ok (.aload_n 0, 1) := by decide +kernel
theorem d_St_keep_1 : decode b_St_keep 1 = .ok (.getfield 23, 3) := by decide +kernel
theorem d_St_keep_4 : decode b_St_keep 4 = .ok (.bipush 40, 2) := by decide +kernel
theorem d_St_keep_6 : decode b_St_keep 6 = .ok (.if_icmp .ge 26, 3) := by decide +kernel
theorem d_St_keep_9 : decode b_St_keep 9 = .ok (.aload_n 0, 1) := by decide +kernel
theorem d_St_keep_10 : decode b_St_keep 10 = .ok (.getfield 19, 3) := by decide +kernel
theorem d_St_keep_13 : decode b_St_keep 13 = .ok (.aload_n 0, 1) := by decide +kernel
theorem d_St_keep_14 : decode b_St_keep 14 = .ok (.getfield 23, 3) := by decide +kernel
theorem d_St_keep_17 : decode b_St_keep 17 = .ok (.aload_n 1, 1) := by decide +kernel
theorem d_St_keep_18 : decode b_St_keep 18 = .ok (.invokevirtual 41, 3) := by decide +kernel
theorem d_St_keep_21 : decode b_St_keep 21 = .ok (.lastore, 1) := by decide +kernel
theorem d_St_keep_22 : decode b_St_keep 22 = .ok (.aload_n 0, 1) := by decide +kernel
theorem d_St_keep_23 : decode b_St_keep 23 = .ok (.dup, 1) := by decide +kernel
theorem d_St_keep_24 : decode b_St_keep 24 = .ok (.getfield 23, 3) := by decide +kernel
theorem d_St_keep_27 : decode b_St_keep 27 = .ok (.iconst 1, 1) := by decide +kernel
theorem d_St_keep_28 : decode b_St_keep 28 = .ok (.iadd, 1) := by decide +kernel
theorem d_St_keep_29 : decode b_St_keep 29 = .ok (.putfield 23, 3) := by decide +kernel
theorem d_St_keep_32 : decode b_St_keep 32 = .ok (.return_, 1) := by decide +kernel
theorem d_Fr_inboxEntry_0 : decode b_Fr_inboxEntry 0 = .ok (.aload_n 0, 1) := by decide +kernel
theorem d_Fr_inboxEntry_1 : decode b_Fr_inboxEntry 1 = .ok (.getfield 19, 3) := by decide +kernel
theorem d_Fr_inboxEntry_4 : decode b_Fr_inboxEntry 4 = .ok (.i2l, 1) := by decide +kernel
theorem d_Fr_inboxEntry_5 : decode b_Fr_inboxEntry 5 = .ok (.ldc2_w 22, 3) := by decide +kernel
theorem d_Fr_inboxEntry_8 : decode b_Fr_inboxEntry 8 = .ok (.land, 1) := by decide +kernel
theorem d_Fr_inboxEntry_9 : decode b_Fr_inboxEntry 9 = .ok (.aload_n 0, 1) := by decide +kernel
theorem d_Fr_inboxEntry_10 : decode b_Fr_inboxEntry 10 = .ok (.getfield 7, 3) := by decide +kernel
theorem d_Fr_inboxEntry_13 : decode b_Fr_inboxEntry 13 = .ok (.i2l, 1) := by decide +kernel
theorem d_Fr_inboxEntry_14 : decode b_Fr_inboxEntry 14 = .ok (.bipush 32, 2) := by decide +kernel
theorem d_Fr_inboxEntry_16 : decode b_Fr_inboxEntry 16 = .ok (.lshl, 1) := by decide +kernel
theorem d_Fr_inboxEntry_17 : decode b_Fr_inboxEntry 17 = .ok (.ladd, 1) := by decide +kernel
theorem d_Fr_inboxEntry_18 : decode b_Fr_inboxEntry 18 = .ok (.aload_n 0, 1) := by decide +kernel
theorem d_Fr_inboxEntry_19 : decode b_Fr_inboxEntry 19 = .ok (.getfield 13, 3) := by decide +kernel
theorem d_Fr_inboxEntry_22 : decode b_Fr_inboxEntry 22 = .ok (.i2l, 1) := by decide +kernel
theorem d_Fr_inboxEntry_23 : decode b_Fr_inboxEntry 23 = .ok (.bipush 36, 2) := by decide +kernel
theorem d_Fr_inboxEntry_25 : decode b_Fr_inboxEntry 25 = .ok (.lshl, 1) := by decide +kernel
theorem d_Fr_inboxEntry_26 : decode b_Fr_inboxEntry 26 = .ok (.ladd, 1) := by decide +kernel
theorem d_Fr_inboxEntry_27 : decode b_Fr_inboxEntry 27 = .ok (.lreturn, 1) := by decide +kernel
theorem d_Br_passTo_0 : decode b_Br_passTo 0 = .ok (.iload_n 1, 1) := by decide +kernel
theorem d_Br_passTo_1 : decode b_Br_passTo 1 = .ok (.aload_n 2, 1) := by decide +kernel
theorem d_Br_passTo_2 : decode b_Br_passTo 2 = .ok (.getfield 112, 3) := by decide +kernel
theorem d_Br_passTo_5 : decode b_Br_passTo 5 = .ok (.if_icmp .eq 20, 3) := by decide +kernel
theorem d_Br_passTo_8 : decode b_Br_passTo 8 = .ok (.aload_n 0, 1) := by decide +kernel
theorem d_Br_passTo_9 : decode b_Br_passTo 9 = .ok (.getfield 11, 3) := by decide +kernel
theorem d_Br_passTo_12 : decode b_Br_passTo 12 = .ok (.iload_n 1, 1) := by decide +kernel
theorem d_Br_passTo_13 : decode b_Br_passTo 13 = .ok (.aaload, 1) := by decide +kernel
theorem d_Br_passTo_14 : decode b_Br_passTo 14 = .ok (.aload_n 3, 1) := by decide +kernel
theorem d_Br_passTo_15 : decode b_Br_passTo 15 = .ok (.invokevirtual 199, 3) := by decide +kernel
theorem d_Br_passTo_18 : decode b_Br_passTo 18 = .ok (.ifCond .eq 7, 3) := by decide +kernel
theorem d_Br_passTo_21 : decode b_Br_passTo 21 = .ok (.iconst 1, 1) := by decide +kernel
theorem d_Br_passTo_22 : decode b_Br_passTo 22 = .ok (.goto 4, 3) := by decide +kernel
theorem d_Br_passTo_25 : decode b_Br_passTo 25 = .ok (.iconst 0, 1) := by decide +kernel
theorem d_Br_passTo_26 : decode b_Br_passTo 26 = .ok (.ireturn, 1) := by decide +kernel
theorem d_Ne_deliver_0 : decode b_Ne_deliver 0 = .ok (.aload_n 0, 1) := by decide +kernel
theorem d_Ne_deliver_1 : decode b_Ne_deliver 1 = .ok (.iload_n 1, 1) := by decide +kernel
theorem d_Ne_deliver_2 : decode b_Ne_deliver 2 = .ok (.iload_n 2, 1) := by decide +kernel
theorem d_Ne_deliver_3 : decode b_Ne_deliver 3 = .ok (.invokevirtual 46, 3) := by decide +kernel
theorem d_Ne_deliver_6 : decode b_Ne_deliver 6 = .ok (.astore_n 3, 1) := by decide +kernel
theorem d_Ne_deliver_7 : decode b_Ne_deliver 7 = .ok (.aload_n 3, 1) := by decide +kernel
theorem d_Ne_deliver_8 : decode b_Ne_deliver 8 = .ok (.ifnonnull 13, 3) := by decide +kernel
theorem d_Ne_deliver_11 : decode b_Ne_deliver 11 = .ok (.new 78, 3) := by decide +kernel
theorem d_Ne_deliver_14 : decode b_Ne_deliver 14 = .ok (.dup, 1) := by decide +kernel
theorem d_Ne_deliver_15 : decode b_Ne_deliver 15 = .ok (.ldc 126, 2) := by decide +kernel
theorem d_Ne_deliver_17 : decode b_Ne_deliver 17 = .ok (.invokespecial 82, 3) := by decide +kernel
theorem d_Ne_deliver_20 : decode b_Ne_deliver 20 = .ok (.athrow, 1) := by decide +kernel
theorem d_Ne_deliver_21 : decode b_Ne_deliver 21 = .ok (.aload_n 3, 1) := by decide +kernel
theorem d_Ne_deliver_22 : decode b_Ne_deliver 22 = .ok (.getfield 128, 3) := by decide +kernel
theorem d_Ne_deliver_25 : decode b_Ne_deliver 25 = .ok (.invokevirtual 132, 3) := by decide +kernel
theorem d_Ne_deliver_28 : decode b_Ne_deliver 28 = .ok (.astore 4, 2) := by decide +kernel
theorem d_Ne_deliver_30 : decode b_Ne_deliver 30 = .ok (.aload 4, 2) := by decide +kernel
theorem d_Ne_deliver_32 : decode b_Ne_deliver 32 = .ok (.ifnonnull 5, 3) := by decide +kernel
theorem d_Ne_deliver_35 : decode b_Ne_deliver 35 = .ok (.iconst 0, 1) := by decide +kernel
theorem d_Ne_deliver_36 : decode b_Ne_deliver 36 = .ok (.ireturn, 1) := by decide +kernel
theorem d_Ne_deliver_37 : decode b_Ne_deliver 37 = .ok (.aload 4, 2) := by decide +kernel
theorem d_Ne_deliver_39 : decode b_Ne_deliver 39 = .ok (.getfield 138, 3) := by decide +kernel
theorem d_Ne_deliver_42 : decode b_Ne_deliver 42 = .ok (.lookupswitch 55 #[(1, 26), (2, 39)], 26) := by decide +kernel
theorem d_Ne_deliver_68 : decode b_Ne_deliver 68 = .ok (.aload_n 3, 1) := by decide +kernel
theorem d_Ne_deliver_69 : decode b_Ne_deliver 69 = .ok (.getfield 59, 3) := by decide +kernel
theorem d_Ne_deliver_72 : decode b_Ne_deliver 72 = .ok (.aload_n 3, 1) := by decide +kernel
theorem d_Ne_deliver_73 : decode b_Ne_deliver 73 = .ok (.aload 4, 2) := by decide +kernel
theorem d_Ne_deliver_75 : decode b_Ne_deliver 75 = .ok (.invokevirtual 143, 3) := by decide +kernel
theorem d_Ne_deliver_78 : decode b_Ne_deliver 78 = .ok (.goto 33, 3) := by decide +kernel
theorem d_Ne_deliver_81 : decode b_Ne_deliver 81 = .ok (.aload_n 3, 1) := by decide +kernel
theorem d_Ne_deliver_82 : decode b_Ne_deliver 82 = .ok (.getfield 59, 3) := by decide +kernel
theorem d_Ne_deliver_85 : decode b_Ne_deliver 85 = .ok (.aload_n 3, 1) := by decide +kernel
theorem d_Ne_deliver_86 : decode b_Ne_deliver 86 = .ok (.aload 4, 2) := by decide +kernel
theorem d_Ne_deliver_88 : decode b_Ne_deliver 88 = .ok (.getfield 147, 3) := by decide +kernel
theorem d_Ne_deliver_91 : decode b_Ne_deliver 91 = .ok (.invokevirtual 150, 3) := by decide +kernel
theorem d_Ne_deliver_94 : decode b_Ne_deliver 94 = .ok (.goto 17, 3) := by decide +kernel
theorem d_Ne_deliver_97 : decode b_Ne_deliver 97 = .ok (.aload_n 3, 1) := by decide +kernel
theorem d_Ne_deliver_98 : decode b_Ne_deliver 98 = .ok (.getfield 59, 3) := by decide +kernel
theorem d_Ne_deliver_101 : decode b_Ne_deliver 101 = .ok (.aload_n 3, 1) := by decide +kernel
theorem d_Ne_deliver_102 : decode b_Ne_deliver 102 = .ok (.aload 4, 2) := by decide +kernel
theorem d_Ne_deliver_104 : decode b_Ne_deliver 104 = .ok (.getfield 153, 3) := by decide +kernel
theorem d_Ne_deliver_107 : decode b_Ne_deliver 107 = .ok (.invokevirtual 122, 3) := by decide +kernel
theorem d_Ne_deliver_110 : decode b_Ne_deliver 110 = .ok (.pop, 1) := by decide +kernel
theorem d_Ne_deliver_111 : decode b_Ne_deliver 111 = .ok (.aload 4, 2) := by decide +kernel
theorem d_Ne_deliver_113 : decode b_Ne_deliver 113 = .ok (.getfield 138, 3) := by decide +kernel
theorem d_Ne_deliver_116 : decode b_Ne_deliver 116 = .ok (.ireturn, 1) := by decide +kernel
theorem d_Br_hearTell_0 : decode b_Br_hearTell 0 = .ok (.aload_n 2, 1) := by decide +kernel
theorem d_Br_hearTell_1 : decode b_Br_hearTell 1 = .ok (.getfield 136, 3) := by decide +kernel
theorem d_Br_hearTell_4 : decode b_Br_hearTell 4 = .ok (.bipush 6, 2) := by decide +kernel
theorem d_Br_hearTell_6 : decode b_Br_hearTell 6 = .ok (.if_icmp .lt 4, 3) := by decide +kernel
theorem d_Br_hearTell_9 : decode b_Br_hearTell 9 = .ok (.return_, 1) := by decide +kernel
theorem d_Br_hearTell_10 : decode b_Br_hearTell 10 = .ok (.aload_n 1, 1) := by decide +kernel
theorem d_Br_hearTell_11 : decode b_Br_hearTell 11 = .ok (.aload_n 2, 1) := by decide +kernel
theorem d_Br_hearTell_12 : decode b_Br_hearTell 12 = .ok (.getfield 139, 3) := by decide +kernel
theorem d_Br_hearTell_15 : decode b_Br_hearTell 15 = .ok (.aload_n 2, 1) := by decide +kernel
theorem d_Br_hearTell_16 : decode b_Br_hearTell 16 = .ok (.getfield 136, 3) := by decide +kernel
theorem d_Br_hearTell_19 : decode b_Br_hearTell 19 = .ok (.invokevirtual 142, 3) := by decide +kernel
theorem d_Br_hearTell_22 : decode b_Br_hearTell 22 = .ok (.aload_n 0, 1) := by decide +kernel
theorem d_Br_hearTell_23 : decode b_Br_hearTell 23 = .ok (.invokevirtual 146, 3) := by decide +kernel
theorem d_Br_hearTell_26 : decode b_Br_hearTell 26 = .ok (.aload_n 2, 1) := by decide +kernel
theorem d_Br_hearTell_27 : decode b_Br_hearTell 27 = .ok (.getfield 149, 3) := by decide +kernel
theorem d_Br_hearTell_30 : decode b_Br_hearTell 30 = .ok (.ifCond .eq 8, 3) := by decide +kernel
theorem d_Br_hearTell_33 : decode b_Br_hearTell 33 = .ok (.aload_n 0, 1) := by decide +kernel
theorem d_Br_hearTell_34 : decode b_Br_hearTell 34 = .ok (.aload_n 1, 1) := by decide +kernel
theorem d_Br_hearTell_35 : decode b_Br_hearTell 35 = .ok (.invokevirtual 150, 3) := by decide +kernel
theorem d_Br_hearTell_38 : decode b_Br_hearTell 38 = .ok (.return_, 1) := by decide +kernel
theorem d_Po_hold_0 : decode b_Po_hold 0 = .ok (.aload_n 0, 1) := by decide +kernel
theorem d_Po_hold_1 : decode b_Po_hold 1 = .ok (.iconst 1, 1) := by decide +kernel
theorem d_Po_hold_2 : decode b_Po_hold 2 = .ok (.putfield 33, 3) := by decide +kernel
theorem d_Po_hold_5 : decode b_Po_hold 5 = .ok (.aload_n 0, 1) := by decide +kernel
theorem d_Po_hold_6 : decode b_Po_hold 6 = .ok (.lload_n 1, 1) := by decide +kernel
theorem d_Po_hold_7 : decode b_Po_hold 7 = .ok (.putfield 37, 3) := by decide +kernel
theorem d_Po_hold_10 : decode b_Po_hold 10 = .ok (.aload_n 0, 1) := by decide +kernel
theorem d_Po_hold_11 : decode b_Po_hold 11 = .ok (.iload_n 3, 1) := by decide +kernel
theorem d_Po_hold_12 : decode b_Po_hold 12 = .ok (.putfield 41, 3) := by decide +kernel
theorem d_Po_hold_15 : decode b_Po_hold 15 = .ok (.aload_n 0, 1) := by decide +kernel
theorem d_Po_hold_16 : decode b_Po_hold 16 = .ok (.bipush 6, 2) := by decide +kernel
theorem d_Po_hold_18 : decode b_Po_hold 18 = .ok (.putfield 44, 3) := by decide +kernel
theorem d_Po_hold_21 : decode b_Po_hold 21 = .ok (.return_, 1) := by decide +kernel
theorem d_Br_answerProposal_0 : decode b_Br_answerProposal 0 = .ok (.aload_n 1, 1) := by decide +kernel
theorem d_Br_answerProposal_1 : decode b_Br_answerProposal 1 = .ok (.getfield 97, 3) := by decide +kernel
theorem d_Br_answerProposal_4 : decode b_Br_answerProposal 4 = .ok (.iconst 1, 1) := by decide +kernel
theorem d_Br_answerProposal_5 : decode b_Br_answerProposal 5 = .ok (.if_icmp .ne 8, 3) := by decide +kernel
theorem d_Br_answerProposal_8 : decode b_Br_answerProposal 8 = .ok (.aload_n 0, 1) := by decide +kernel
theorem d_Br_answerProposal_9 : decode b_Br_answerProposal 9 = .ok (.aload_n 1, 1) := by decide +kernel
theorem d_Br_answerProposal_10 : decode b_Br_answerProposal 10 = .ok (.invokevirtual 153, 3) := by decide +kernel
theorem d_Br_answerProposal_13 : decode b_Br_answerProposal 13 = .ok (.aload_n 1, 1) := by decide +kernel
theorem d_Br_answerProposal_14 : decode b_Br_answerProposal 14 = .ok (.getfield 120, 3) := by decide +kernel
theorem d_Br_answerProposal_17 : decode b_Br_answerProposal 17 = .ok (.ifnull 33, 3) := by decide +kernel
theorem d_Br_answerProposal_20 : decode b_Br_answerProposal 20 = .ok (.aload_n 1, 1) := by decide +kernel
theorem d_Br_answerProposal_21 : decode b_Br_answerProposal 21 = .ok (.getfield 97, 3) := by decide +kernel
theorem d_Br_answerProposal_24 : decode b_Br_answerProposal 24 = .ok (.iconst 1, 1) := by decide +kernel
theorem d_Br_answerProposal_25 : decode b_Br_answerProposal 25 = .ok (.if_icmp .eq 11, 3) := by decide +kernel
theorem d_Br_answerProposal_28 : decode b_Br_answerProposal 28 = .ok (.aload_n 1, 1) := by decide +kernel
theorem d_Br_answerProposal_29 : decode b_Br_answerProposal 29 = .ok (.getfield 97, 3) := by decide +kernel
theorem d_Br_answerProposal_32 : decode b_Br_answerProposal 32 = .ok (.iconst 3, 1) := by decide +kernel
theorem d_Br_answerProposal_33 : decode b_Br_answerProposal 33 = .ok (.if_icmp .ne 17, 3) := by decide +kernel
theorem d_Br_answerProposal_36 : decode b_Br_answerProposal 36 = .ok (.aload_n 1, 1) := by decide +kernel
theorem d_Br_answerProposal_37 : decode b_Br_answerProposal 37 = .ok (.getfield 120, 3) := by decide +kernel
theorem d_Br_answerProposal_40 : decode b_Br_answerProposal 40 = .ok (.getfield 123, 3) := by decide +kernel
theorem d_Br_answerProposal_43 : decode b_Br_answerProposal 43 = .ok (.aload_n 0, 1) := by decide +kernel
theorem d_Br_answerProposal_44 : decode b_Br_answerProposal 44 = .ok (.getfield 41, 3) := by decide +kernel
theorem d_Br_answerProposal_47 : decode b_Br_answerProposal 47 = .ok (.invokevirtual 156, 3) := by decide +kernel
theorem d_Br_answerProposal_50 : decode b_Br_answerProposal 50 = .ok (.return_, 1) := by decide +kernel
theorem d_Br_proposeOnOthers_0 : decode b_Br_proposeOnOthers 0 = .ok (.aload_n 0, 1) := by decide +kernel
theorem d_Br_proposeOnOthers_1 : decode b_Br_proposeOnOthers 1 = .ok (.getfield 11, 3) := by decide +kernel
theorem d_Br_proposeOnOthers_4 : decode b_Br_proposeOnOthers 4 = .ok (.astore_n 2, 1) := by decide +kernel
theorem d_Br_proposeOnOthers_5 : decode b_Br_proposeOnOthers 5 = .ok (.aload_n 2, 1) := by decide +kernel
theorem d_Br_proposeOnOthers_6 : decode b_Br_proposeOnOthers 6 = .ok (.arraylength, 1) := by decide +kernel
theorem d_Br_proposeOnOthers_7 : decode b_Br_proposeOnOthers 7 = .ok (.istore_n 3, 1) := by decide +kernel
theorem d_Br_proposeOnOthers_8 : decode b_Br_proposeOnOthers 8 = .ok (.iconst 0, 1) := by decide +kernel
theorem d_Br_proposeOnOthers_9 : decode b_Br_proposeOnOthers 9 = .ok (.istore 4, 2) := by decide +kernel
theorem d_Br_proposeOnOthers_11 : decode b_Br_proposeOnOthers 11 = .ok (.iload 4, 2) := by decide +kernel
theorem d_Br_proposeOnOthers_13 : decode b_Br_proposeOnOthers 13 = .ok (.iload_n 3, 1) := by decide +kernel
theorem d_Br_proposeOnOthers_14 : decode b_Br_proposeOnOthers 14 = .ok (.if_icmp .ge 43, 3) := by decide +kernel
theorem d_Br_proposeOnOthers_17 : decode b_Br_proposeOnOthers 17 = .ok (.aload_n 2, 1) := by decide +kernel
theorem d_Br_proposeOnOthers_18 : decode b_Br_proposeOnOthers 18 = .ok (.iload 4, 2) := by decide +kernel
theorem d_Br_proposeOnOthers_20 : decode b_Br_proposeOnOthers 20 = .ok (.aaload, 1) := by decide +kernel
theorem d_Br_proposeOnOthers_21 : decode b_Br_proposeOnOthers 21 = .ok (.astore 5, 2) := by decide +kernel
theorem d_Br_proposeOnOthers_23 : decode b_Br_proposeOnOthers 23 = .ok (.aload 5, 2) := by decide +kernel
theorem d_Br_proposeOnOthers_25 : decode b_Br_proposeOnOthers 25 = .ok (.aload_n 1, 1) := by decide +kernel
theorem d_Br_proposeOnOthers_26 : decode b_Br_proposeOnOthers 26 = .ok (.if_acmp .eq 25, 3) := by decide +kernel
theorem d_Br_proposeOnOthers_29 : decode b_Br_proposeOnOthers 29 = .ok (.aload 5, 2) := by decide +kernel
theorem d_Br_proposeOnOthers_31 : decode b_Br_proposeOnOthers 31 = .ok (.invokevirtual 113, 3) := by decide +kernel
theorem d_Br_proposeOnOthers_34 : decode b_Br_proposeOnOthers 34 = .ok (.ifCond .eq 17, 3) := by decide +kernel
theorem d_Br_proposeOnOthers_37 : decode b_Br_proposeOnOthers 37 = .ok (.aload 5, 2) := by decide +kernel
theorem d_Br_proposeOnOthers_39 : decode b_Br_proposeOnOthers 39 = .ok (.invokevirtual 159, 3) := by decide +kernel
theorem d_Br_proposeOnOthers_42 : decode b_Br_proposeOnOthers 42 = .ok (.ifCond .eq 9, 3) := by decide +kernel
theorem d_Br_proposeOnOthers_45 : decode b_Br_proposeOnOthers 45 = .ok (.aload_n 0, 1) := by decide +kernel
theorem d_Br_proposeOnOthers_46 : decode b_Br_proposeOnOthers 46 = .ok (.aload 5, 2) := by decide +kernel
theorem d_Br_proposeOnOthers_48 : decode b_Br_proposeOnOthers 48 = .ok (.invokevirtual 116, 3) := by decide +kernel
theorem d_Br_proposeOnOthers_51 : decode b_Br_proposeOnOthers 51 = .ok (.iinc 4 1, 3) := by decide +kernel
theorem d_Br_proposeOnOthers_54 : decode b_Br_proposeOnOthers 54 = .ok (.goto (-43), 3) := by decide +kernel
theorem d_Br_proposeOnOthers_57 : decode b_Br_proposeOnOthers 57 = .ok (.return_, 1) := by decide +kernel
theorem d_Po_proposeUnlessAgreed_0 : decode b_Po_proposeUnlessAgreed 0 = .ok (.aload_n 0, 1) := by decide +kernel
theorem d_Po_proposeUnlessAgreed_1 : decode b_Po_proposeUnlessAgreed 1 = .ok (.getfield 56, 3) := by decide +kernel
theorem d_Po_proposeUnlessAgreed_4 : decode b_Po_proposeUnlessAgreed 4 = .ok (.ifCond .eq 5, 3) := by decide +kernel
theorem d_Po_proposeUnlessAgreed_7 : decode b_Po_proposeUnlessAgreed 7 = .ok (.iconst 0, 1) := by decide +kernel
theorem d_Po_proposeUnlessAgreed_8 : decode b_Po_proposeUnlessAgreed 8 = .ok (.ireturn, 1) := by decide +kernel
theorem d_Po_proposeUnlessAgreed_9 : decode b_Po_proposeUnlessAgreed 9 = .ok (.aload_n 0, 1) := by decide +kernel
theorem d_Po_proposeUnlessAgreed_10 : decode b_Po_proposeUnlessAgreed 10 = .ok (.invokevirtual 81, 3) := by decide +kernel
theorem d_Po_proposeUnlessAgreed_13 : decode b_Po_proposeUnlessAgreed 13 = .ok (.iconst 1, 1) := by decide +kernel
theorem d_Po_proposeUnlessAgreed_14 : decode b_Po_proposeUnlessAgreed 14 = .ok (.ireturn, 1) := by decide +kernel
theorem d_Li_putAgree_0 : decode b_Li_putAgree 0 = .ok (.aload_n 0, 1) := by decide +kernel
theorem d_Li_putAgree_1 : decode b_Li_putAgree 1 = .ok (.iconst 2, 1) := by decide +kernel
theorem d_Li_putAgree_2 : decode b_Li_putAgree 2 = .ok (.iload_n 1, 1) := by decide +kernel
theorem d_Li_putAgree_3 : decode b_Li_putAgree 3 = .ok (.aconst_null, 1) := by decide +kernel
theorem d_Li_putAgree_4 : decode b_Li_putAgree 4 = .ok (.invokevirtual 31, 3) := by decide +kernel
theorem d_Li_putAgree_7 : decode b_Li_putAgree 7 = .ok (.pop, 1) := by decide +kernel
theorem d_Li_putAgree_8 : decode b_Li_putAgree 8 = .ok (.return_, 1) := by decide +kernel
theorem d_Br_hearAgree_0 : decode b_Br_hearAgree 0 = .ok (.aload_n 1, 1) := by decide +kernel
theorem d_Br_hearAgree_1 : decode b_Br_hearAgree 1 = .ok (.getfield 97, 3) := by decide +kernel
theorem d_Br_hearAgree_4 : decode b_Br_hearAgree 4 = .ok (.iconst 2, 1) := by decide +kernel
theorem d_Br_hearAgree_5 : decode b_Br_hearAgree 5 = .ok (.if_icmp .ne 22, 3) := by decide +kernel
theorem d_Br_hearAgree_8 : decode b_Br_hearAgree 8 = .ok (.aload_n 1, 1) := by decide +kernel
theorem d_Br_hearAgree_9 : decode b_Br_hearAgree 9 = .ok (.getfield 127, 3) := by decide +kernel
theorem d_Br_hearAgree_12 : decode b_Br_hearAgree 12 = .ok (.ifCond .eq 15, 3) := by decide +kernel
theorem d_Br_hearAgree_15 : decode b_Br_hearAgree 15 = .ok (.iload_n 2, 1) := by decide +kernel
theorem d_Br_hearAgree_16 : decode b_Br_hearAgree 16 = .ok (.aload_n 0, 1) := by decide +kernel
theorem d_Br_hearAgree_17 : decode b_Br_hearAgree 17 = .ok (.getfield 41, 3) := by decide +kernel
theorem d_Br_hearAgree_20 : decode b_Br_hearAgree 20 = .ok (.if_icmp .ne 7, 3) := by decide +kernel
theorem d_Br_hearAgree_23 : decode b_Br_hearAgree 23 = .ok (.aload_n 1, 1) := by decide +kernel
theorem d_Br_hearAgree_24 : decode b_Br_hearAgree 24 = .ok (.invokevirtual 162, 3) := by decide +kernel
theorem d_Br_hearAgree_27 : decode b_Br_hearAgree 27 = .ok (.return_, 1) := by decide +kernel
theorem d_Po_takeAgreement_0 : decode b_Po_takeAgreement 0 = .ok (.aload_n 0, 1) := by decide +kernel
theorem d_Po_takeAgreement_1 : decode b_Po_takeAgreement 1 = .ok (.invokevirtual 84, 3) := by decide +kernel
theorem d_Po_takeAgreement_4 : decode b_Po_takeAgreement 4 = .ok (.aload_n 0, 1) := by decide +kernel
theorem d_Po_takeAgreement_5 : decode b_Po_takeAgreement 5 = .ok (.iconst 1, 1) := by decide +kernel
theorem d_Po_takeAgreement_6 : decode b_Po_takeAgreement 6 = .ok (.putfield 56, 3) := by decide +kernel
theorem d_Po_takeAgreement_9 : decode b_Po_takeAgreement 9 = .ok (.return_, 1) := by decide +kernel
