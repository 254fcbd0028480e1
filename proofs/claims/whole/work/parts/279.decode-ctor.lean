/-! what stands in the constructors of the class: decoded -/
theorem d_Fr_init_0 : decode b_Fr_init 0 = .ok (.aload_n 0, 1) := by decide +kernel
theorem d_Fr_init_1 : decode b_Fr_init 1 = .ok (.invokespecial 1, 3) := by decide +kernel
theorem d_Fr_init_4 : decode b_Fr_init 4 = .ok (.aload_n 0, 1) := by decide +kernel
theorem d_Fr_init_5 : decode b_Fr_init 5 = .ok (.iload_n 1, 1) := by decide +kernel
theorem d_Fr_init_6 : decode b_Fr_init 6 = .ok (.putfield 7, 3) := by decide +kernel
theorem d_Fr_init_9 : decode b_Fr_init 9 = .ok (.aload_n 0, 1) := by decide +kernel
theorem d_Fr_init_10 : decode b_Fr_init 10 = .ok (.iload_n 2, 1) := by decide +kernel
theorem d_Fr_init_11 : decode b_Fr_init 11 = .ok (.putfield 13, 3) := by decide +kernel
theorem d_Fr_init_14 : decode b_Fr_init 14 = .ok (.aload_n 0, 1) := by decide +kernel
theorem d_Fr_init_15 : decode b_Fr_init 15 = .ok (.iload_n 3, 1) := by decide +kernel
theorem d_Fr_init_16 : decode b_Fr_init 16 = .ok (.putfield 16, 3) := by decide +kernel
theorem d_Fr_init_19 : decode b_Fr_init 19 = .ok (.aload_n 0, 1) := by decide +kernel
theorem d_Fr_init_20 : decode b_Fr_init 20 = .ok (.iload 4, 2) := by decide +kernel
theorem d_Fr_init_22 : decode b_Fr_init 22 = .ok (.putfield 19, 3) := by decide +kernel
theorem d_Fr_init_25 : decode b_Fr_init 25 = .ok (.return_, 1) := by decide +kernel
theorem d_Ms_init_0 : decode b_Ms_init 0 = .ok (.aload_n 0, 1) := by decide +kernel
theorem d_Ms_init_1 : decode b_Ms_init 1 = .ok (.invokespecial 3, 3) := by decide +kernel
theorem d_Ms_init_4 : decode b_Ms_init 4 = .ok (.aload_n 0, 1) := by decide +kernel
theorem d_Ms_init_5 : decode b_Ms_init 5 = .ok (.iconst 0, 1) := by decide +kernel
theorem d_Ms_init_6 : decode b_Ms_init 6 = .ok (.putfield 9, 3) := by decide +kernel
theorem d_Ms_init_9 : decode b_Ms_init 9 = .ok (.aload_n 0, 1) := by decide +kernel
theorem d_Ms_init_10 : decode b_Ms_init 10 = .ok (.iconst 0, 1) := by decide +kernel
theorem d_Ms_init_11 : decode b_Ms_init 11 = .ok (.putfield 15, 3) := by decide +kernel
theorem d_Ms_init_14 : decode b_Ms_init 14 = .ok (.aload_n 0, 1) := by decide +kernel
theorem d_Ms_init_15 : decode b_Ms_init 15 = .ok (.lconst 0, 1) := by decide +kernel
theorem d_Ms_init_16 : decode b_Ms_init 16 = .ok (.putfield 18, 3) := by decide +kernel
theorem d_Ms_init_19 : decode b_Ms_init 19 = .ok (.aload_n 0, 1) := by decide +kernel
theorem d_Ms_init_20 : decode b_Ms_init 20 = .ok (.iconst 0, 1) := by decide +kernel
theorem d_Ms_init_21 : decode b_Ms_init 21 = .ok (.putfield 22, 3) := by decide +kernel
theorem d_Ms_init_24 : decode b_Ms_init 24 = .ok (.aload_n 0, 1) := by decide +kernel
theorem d_Ms_init_25 : decode b_Ms_init 25 = .ok (.iconst 0, 1) := by decide +kernel
theorem d_Ms_init_26 : decode b_Ms_init 26 = .ok (.putfield 25, 3) := by decide +kernel
theorem d_Ms_init_29 : decode b_Ms_init 29 = .ok (.aload_n 0, 1) := by decide +kernel
theorem d_Ms_init_30 : decode b_Ms_init 30 = .ok (.aconst_null, 1) := by decide +kernel
theorem d_Ms_init_31 : decode b_Ms_init 31 = .ok (.putfield 29, 3) := by decide +kernel
theorem d_Ms_init_34 : decode b_Ms_init 34 = .ok (.return_, 1) := by decide +kernel
theorem d_Li_init_0 : decode b_Li_init 0 = .ok (.aload_n 0, 1) := by decide +kernel
theorem d_Li_init_1 : decode b_Li_init 1 = .ok (.invokespecial 3, 3) := by decide +kernel
theorem d_Li_init_4 : decode b_Li_init 4 = .ok (.aload_n 0, 1) := by decide +kernel
theorem d_Li_init_5 : decode b_Li_init 5 = .ok (.bipush 12, 2) := by decide +kernel
theorem d_Li_init_7 : decode b_Li_init 7 = .ok (.anewarray 9, 3) := by decide +kernel
theorem d_Li_init_10 : decode b_Li_init 10 = .ok (.putfield 11, 3) := by decide +kernel
theorem d_Li_init_13 : decode b_Li_init 13 = .ok (.aload_n 0, 1) := by decide +kernel
theorem d_Li_init_14 : decode b_Li_init 14 = .ok (.iconst 0, 1) := by decide +kernel
theorem d_Li_init_15 : decode b_Li_init 15 = .ok (.putfield 17, 3) := by decide +kernel
theorem d_Li_init_18 : decode b_Li_init 18 = .ok (.aload_n 0, 1) := by decide +kernel
theorem d_Li_init_19 : decode b_Li_init 19 = .ok (.iconst 0, 1) := by decide +kernel
theorem d_Li_init_20 : decode b_Li_init 20 = .ok (.putfield 21, 3) := by decide +kernel
theorem d_Li_init_23 : decode b_Li_init 23 = .ok (.iconst 0, 1) := by decide +kernel
theorem d_Li_init_24 : decode b_Li_init 24 = .ok (.istore_n 1, 1) := by decide +kernel
theorem d_Li_init_25 : decode b_Li_init 25 = .ok (.iload_n 1, 1) := by decide +kernel
theorem d_Li_init_26 : decode b_Li_init 26 = .ok (.bipush 12, 2) := by decide +kernel
theorem d_Li_init_28 : decode b_Li_init 28 = .ok (.if_icmp .ge 22, 3) := by decide +kernel
theorem d_Li_init_31 : decode b_Li_init 31 = .ok (.aload_n 0, 1) := by decide +kernel
theorem d_Li_init_32 : decode b_Li_init 32 = .ok (.getfield 11, 3) := by decide +kernel
theorem d_Li_init_35 : decode b_Li_init 35 = .ok (.iload_n 1, 1) := by decide +kernel
theorem d_Li_init_36 : decode b_Li_init 36 = .ok (.new 9, 3) := by decide +kernel
theorem d_Li_init_39 : decode b_Li_init 39 = .ok (.dup, 1) := by decide +kernel
theorem d_Li_init_40 : decode b_Li_init 40 = .ok (.invokespecial 24, 3) := by decide +kernel
theorem d_Li_init_43 : decode b_Li_init 43 = .ok (.aastore, 1) := by decide +kernel
theorem d_Li_init_44 : decode b_Li_init 44 = .ok (.iinc 1 1, 3) := by decide +kernel
theorem d_Li_init_47 : decode b_Li_init 47 = .ok (.goto (-22), 3) := by decide +kernel
theorem d_Li_init_50 : decode b_Li_init 50 = .ok (.return_, 1) := by decide +kernel
theorem d_Po_init_0 : decode b_Po_init 0 = .ok (.aload_n 0, 1) := by decide +kernel
theorem d_Po_init_1 : decode b_Po_init 1 = .ok (.invokespecial 3, 3) := by decide +kernel
theorem d_Po_init_4 : decode b_Po_init 4 = .ok (.aload_n 0, 1) := by decide +kernel
theorem d_Po_init_5 : decode b_Po_init 5 = .ok (.new 9, 3) := by decide +kernel
theorem d_Po_init_8 : decode b_Po_init 8 = .ok (.dup, 1) := by decide +kernel
theorem d_Po_init_9 : decode b_Po_init 9 = .ok (.invokespecial 11, 3) := by decide +kernel
theorem d_Po_init_12 : decode b_Po_init 12 = .ok (.putfield 12, 3) := by decide +kernel
theorem d_Po_init_15 : decode b_Po_init 15 = .ok (.aload_n 0, 1) := by decide +kernel
theorem d_Po_init_16 : decode b_Po_init 16 = .ok (.bipush 10, 2) := by decide +kernel
theorem d_Po_init_18 : decode b_Po_init 18 = .ok (.putfield 18, 3) := by decide +kernel
theorem d_Po_init_21 : decode b_Po_init 21 = .ok (.aload_n 0, 1) := by decide +kernel
theorem d_Po_init_22 : decode b_Po_init 22 = .ok (.iconst 3, 1) := by decide +kernel
theorem d_Po_init_23 : decode b_Po_init 23 = .ok (.putfield 22, 3) := by decide +kernel
theorem d_Po_init_26 : decode b_Po_init 26 = .ok (.aload_n 0, 1) := by decide +kernel
theorem d_Po_init_27 : decode b_Po_init 27 = .ok (.aconst_null, 1) := by decide +kernel
theorem d_Po_init_28 : decode b_Po_init 28 = .ok (.putfield 25, 3) := by decide +kernel
theorem d_Po_init_31 : decode b_Po_init 31 = .ok (.aload_n 0, 1) := by decide +kernel
theorem d_Po_init_32 : decode b_Po_init 32 = .ok (.aconst_null, 1) := by decide +kernel
theorem d_Po_init_33 : decode b_Po_init 33 = .ok (.putfield 29, 3) := by decide +kernel
theorem d_Po_init_36 : decode b_Po_init 36 = .ok (.aload_n 0, 1) := by decide +kernel
theorem d_Po_init_37 : decode b_Po_init 37 = .ok (.iconst 0, 1) := by decide +kernel
theorem d_Po_init_38 : decode b_Po_init 38 = .ok (.putfield 33, 3) := by decide +kernel
theorem d_Po_init_41 : decode b_Po_init 41 = .ok (.aload_n 0, 1) := by decide +kernel
theorem d_Po_init_42 : decode b_Po_init 42 = .ok (.lconst 0, 1) := by decide +kernel
theorem d_Po_init_43 : decode b_Po_init 43 = .ok (.putfield 37, 3) := by decide +kernel
theorem d_Po_init_46 : decode b_Po_init 46 = .ok (.aload_n 0, 1) := by decide +kernel
theorem d_Po_init_47 : decode b_Po_init 47 = .ok (.iconst 0, 1) := by decide +kernel
theorem d_Po_init_48 : decode b_Po_init 48 = .ok (.putfield 41, 3) := by decide +kernel
theorem d_Po_init_51 : decode b_Po_init 51 = .ok (.aload_n 0, 1) := by decide +kernel
theorem d_Po_init_52 : decode b_Po_init 52 = .ok (.iconst 0, 1) := by decide +kernel
theorem d_Po_init_53 : decode b_Po_init 53 = .ok (.putfield 44, 3) := by decide +kernel
theorem d_Po_init_56 : decode b_Po_init 56 = .ok (.aload_n 0, 1) := by decide +kernel
theorem d_Po_init_57 : decode b_Po_init 57 = .ok (.iconst 0, 1) := by decide +kernel
theorem d_Po_init_58 : decode b_Po_init 58 = .ok (.putfield 47, 3) := by decide +kernel
theorem d_Po_init_61 : decode b_Po_init 61 = .ok (.aload_n 0, 1) := by decide +kernel
theorem d_Po_init_62 : decode b_Po_init 62 = .ok (.iconst 0, 1) := by decide +kernel
theorem d_Po_init_63 : decode b_Po_init 63 = .ok (.putfield 50, 3) := by decide +kernel
theorem d_Po_init_66 : decode b_Po_init 66 = .ok (.aload_n 0, 1) := by decide +kernel
theorem d_Po_init_67 : decode b_Po_init 67 = .ok (.iconst 0, 1) := by decide +kernel
theorem d_Po_init_68 : decode b_Po_init 68 = .ok (.putfield 53, 3) := by decide +kernel
theorem d_Po_init_71 : decode b_Po_init 71 = .ok (.aload_n 0, 1) := by decide +kernel
theorem d_Po_init_72 : decode b_Po_init 72 = .ok (.iconst 0, 1) := by decide +kernel
theorem d_Po_init_73 : decode b_Po_init 73 = .ok (.putfield 56, 3) := by decide +kernel
theorem d_Po_init_76 : decode b_Po_init 76 = .ok (.aload_n 0, 1) := by decide +kernel
theorem d_Po_init_77 : decode b_Po_init 77 = .ok (.iconst 0, 1) := by decide +kernel
theorem d_Po_init_78 : decode b_Po_init 78 = .ok (.putfield 59, 3) := by decide +kernel
theorem d_Po_init_81 : decode b_Po_init 81 = .ok (.aload_n 0, 1) := by decide +kernel
theorem d_Po_init_82 : decode b_Po_init 82 = .ok (.aload_n 1, 1) := by decide +kernel
theorem d_Po_init_83 : decode b_Po_init 83 = .ok (.putfield 62, 3) := by decide +kernel
theorem d_Po_init_86 : decode b_Po_init 86 = .ok (.aload_n 0, 1) := by decide +kernel
theorem d_Po_init_87 : decode b_Po_init 87 = .ok (.iload_n 2, 1) := by decide +kernel
theorem d_Po_init_88 : decode b_Po_init 88 = .ok (.putfield 66, 3) := by decide +kernel
theorem d_Po_init_91 : decode b_Po_init 91 = .ok (.return_, 1) := by decide +kernel
theorem d_Br_init_0 : decode b_Br_init 0 = .ok (.aload_n 0, 1) := by decide +kernel
theorem d_Br_init_1 : decode b_Br_init 1 = .ok (.invokespecial 3, 3) := by decide +kernel
theorem d_Br_init_4 : decode b_Br_init 4 = .ok (.aload_n 0, 1) := by decide +kernel
theorem d_Br_init_5 : decode b_Br_init 5 = .ok (.iconst 4, 1) := by decide +kernel
theorem d_Br_init_6 : decode b_Br_init 6 = .ok (.anewarray 9, 3) := by decide +kernel
theorem d_Br_init_9 : decode b_Br_init 9 = .ok (.putfield 11, 3) := by decide +kernel
theorem d_Br_init_12 : decode b_Br_init 12 = .ok (.aload_n 0, 1) := by decide +kernel
theorem d_Br_init_13 : decode b_Br_init 13 = .ok (.iconst 0, 1) := by decide +kernel
theorem d_Br_init_14 : decode b_Br_init 14 = .ok (.putfield 17, 3) := by decide +kernel
theorem d_Br_init_17 : decode b_Br_init 17 = .ok (.aload_n 0, 1) := by decide +kernel
theorem d_Br_init_18 : decode b_Br_init 18 = .ok (.iconst 0, 1) := by decide +kernel
theorem d_Br_init_19 : decode b_Br_init 19 = .ok (.putfield 21, 3) := by decide +kernel
theorem d_Br_init_22 : decode b_Br_init 22 = .ok (.aload_n 0, 1) := by decide +kernel
theorem d_Br_init_23 : decode b_Br_init 23 = .ok (.aconst_null, 1) := by decide +kernel
theorem d_Br_init_24 : decode b_Br_init 24 = .ok (.putfield 24, 3) := by decide +kernel
theorem d_Br_init_27 : decode b_Br_init 27 = .ok (.aload_n 0, 1) := by decide +kernel
theorem d_Br_init_28 : decode b_Br_init 28 = .ok (.bipush 16, 2) := by decide +kernel
theorem d_Br_init_30 : decode b_Br_init 30 = .ok (.newarray .int, 2) := by decide +kernel
theorem d_Br_init_32 : decode b_Br_init 32 = .ok (.putfield 28, 3) := by decide +kernel
theorem d_Br_init_35 : decode b_Br_init 35 = .ok (.aload_n 0, 1) := by decide +kernel
theorem d_Br_init_36 : decode b_Br_init 36 = .ok (.bipush 16, 2) := by decide +kernel
theorem d_Br_init_38 : decode b_Br_init 38 = .ok (.newarray .int, 2) := by decide +kernel
theorem d_Br_init_40 : decode b_Br_init 40 = .ok (.putfield 32, 3) := by decide +kernel
theorem d_Br_init_43 : decode b_Br_init 43 = .ok (.aload_n 0, 1) := by decide +kernel
theorem d_Br_init_44 : decode b_Br_init 44 = .ok (.iload_n 1, 1) := by decide +kernel
theorem d_Br_init_45 : decode b_Br_init 45 = .ok (.putfield 35, 3) := by decide +kernel
theorem d_Br_init_48 : decode b_Br_init 48 = .ok (.aload_n 0, 1) := by decide +kernel
theorem d_Br_init_49 : decode b_Br_init 49 = .ok (.bipush 64, 2) := by decide +kernel
theorem d_Br_init_51 : decode b_Br_init 51 = .ok (.iload_n 1, 1) := by decide +kernel
theorem d_Br_init_52 : decode b_Br_init 52 = .ok (.iadd, 1) := by decide +kernel
theorem d_Br_init_53 : decode b_Br_init 53 = .ok (.putfield 38, 3) := by decide +kernel
theorem d_Br_init_56 : decode b_Br_init 56 = .ok (.aload_n 0, 1) := by decide +kernel
theorem d_Br_init_57 : decode b_Br_init 57 = .ok (.aload_n 0, 1) := by decide +kernel
theorem d_Br_init_58 : decode b_Br_init 58 = .ok (.getfield 38, 3) := by decide +kernel
theorem d_Br_init_61 : decode b_Br_init 61 = .ok (.putfield 41, 3) := by decide +kernel
theorem d_Br_init_64 : decode b_Br_init 64 = .ok (.return_, 1) := by decide +kernel
theorem d_St_init_0 : decode b_St_init 0 = .ok (.aload_n 0, 1) := by decide +kernel
theorem d_St_init_1 : decode b_St_init 1 = .ok (.invokespecial 3, 3) := by decide +kernel
theorem d_St_init_4 : decode b_St_init 4 = .ok (.aload_n 0, 1) := by decide +kernel
theorem d_St_init_5 : decode b_St_init 5 = .ok (.aconst_null, 1) := by decide +kernel
theorem d_St_init_6 : decode b_St_init 6 = .ok (.putfield 9, 3) := by decide +kernel
theorem d_St_init_9 : decode b_St_init 9 = .ok (.aload_n 0, 1) := by decide +kernel
theorem d_St_init_10 : decode b_St_init 10 = .ok (.iconst 1, 1) := by decide +kernel
theorem d_St_init_11 : decode b_St_init 11 = .ok (.putfield 15, 3) := by decide +kernel
theorem d_St_init_14 : decode b_St_init 14 = .ok (.aload_n 0, 1) := by decide +kernel
theorem d_St_init_15 : decode b_St_init 15 = .ok (.bipush 40, 2) := by decide +kernel
theorem d_St_init_17 : decode b_St_init 17 = .ok (.newarray .long, 2) := by decide +kernel
theorem d_St_init_19 : decode b_St_init 19 = .ok (.putfield 19, 3) := by decide +kernel
theorem d_St_init_22 : decode b_St_init 22 = .ok (.aload_n 0, 1) := by decide +kernel
theorem d_St_init_23 : decode b_St_init 23 = .ok (.iconst 0, 1) := by decide +kernel
theorem d_St_init_24 : decode b_St_init 24 = .ok (.putfield 23, 3) := by decide +kernel
theorem d_St_init_27 : decode b_St_init 27 = .ok (.return_, 1) := by decide +kernel
theorem d_Ne_init_0 : decode b_Ne_init 0 = .ok (.aload_n 0, 1) := by decide +kernel
theorem d_Ne_init_1 : decode b_Ne_init 1 = .ok (.invokespecial 1, 3) := by decide +kernel
theorem d_Ne_init_4 : decode b_Ne_init 4 = .ok (.aload_n 0, 1) := by decide +kernel
theorem d_Ne_init_5 : decode b_Ne_init 5 = .ok (.iconst 5, 1) := by decide +kernel
theorem d_Ne_init_6 : decode b_Ne_init 6 = .ok (.anewarray 9, 3) := by decide +kernel
theorem d_Ne_init_9 : decode b_Ne_init 9 = .ok (.putfield 11, 3) := by decide +kernel
theorem d_Ne_init_12 : decode b_Ne_init 12 = .ok (.aload_n 0, 1) := by decide +kernel
theorem d_Ne_init_13 : decode b_Ne_init 13 = .ok (.bipush 8, 2) := by decide +kernel
theorem d_Ne_init_15 : decode b_Ne_init 15 = .ok (.anewarray 15, 3) := by decide +kernel
theorem d_Ne_init_18 : decode b_Ne_init 18 = .ok (.putfield 17, 3) := by decide +kernel
theorem d_Ne_init_21 : decode b_Ne_init 21 = .ok (.aload_n 0, 1) := by decide +kernel
theorem d_Ne_init_22 : decode b_Ne_init 22 = .ok (.iconst 0, 1) := by decide +kernel
theorem d_Ne_init_23 : decode b_Ne_init 23 = .ok (.putfield 21, 3) := by decide +kernel
theorem d_Ne_init_26 : decode b_Ne_init 26 = .ok (.iconst 0, 1) := by decide +kernel
theorem d_Ne_init_27 : decode b_Ne_init 27 = .ok (.istore_n 1, 1) := by decide +kernel
theorem d_Ne_init_28 : decode b_Ne_init 28 = .ok (.iload_n 1, 1) := by decide +kernel
theorem d_Ne_init_29 : decode b_Ne_init 29 = .ok (.iconst 5, 1) := by decide +kernel
theorem d_Ne_init_30 : decode b_Ne_init 30 = .ok (.if_icmp .ge 32, 3) := by decide +kernel
theorem d_Ne_init_33 : decode b_Ne_init 33 = .ok (.aload_n 0, 1) := by decide +kernel
theorem d_Ne_init_34 : decode b_Ne_init 34 = .ok (.getfield 11, 3) := by decide +kernel
theorem d_Ne_init_37 : decode b_Ne_init 37 = .ok (.iload_n 1, 1) := by decide +kernel
theorem d_Ne_init_38 : decode b_Ne_init 38 = .ok (.new 9, 3) := by decide +kernel
theorem d_Ne_init_41 : decode b_Ne_init 41 = .ok (.dup, 1) := by decide +kernel
theorem d_Ne_init_42 : decode b_Ne_init 42 = .ok (.iload_n 1, 1) := by decide +kernel
theorem d_Ne_init_43 : decode b_Ne_init 43 = .ok (.invokespecial 25, 3) := by decide +kernel
theorem d_Ne_init_46 : decode b_Ne_init 46 = .ok (.aastore, 1) := by decide +kernel
theorem d_Ne_init_47 : decode b_Ne_init 47 = .ok (.aload_n 0, 1) := by decide +kernel
theorem d_Ne_init_48 : decode b_Ne_init 48 = .ok (.getfield 11, 3) := by decide +kernel
theorem d_Ne_init_51 : decode b_Ne_init 51 = .ok (.iload_n 1, 1) := by decide +kernel
theorem d_Ne_init_52 : decode b_Ne_init 52 = .ok (.aaload, 1) := by decide +kernel
theorem d_Ne_init_53 : decode b_Ne_init 53 = .ok (.invokevirtual 28, 3) := by decide +kernel
theorem d_Ne_init_56 : decode b_Ne_init 56 = .ok (.iinc 1 1, 3) := by decide +kernel
theorem d_Ne_init_59 : decode b_Ne_init 59 = .ok (.goto (-31), 3) := by decide +kernel
theorem d_Ne_init_62 : decode b_Ne_init 62 = .ok (.iconst 0, 1) := by decide +kernel
theorem d_Ne_init_63 : decode b_Ne_init 63 = .ok (.istore_n 1, 1) := by decide +kernel
theorem d_Ne_init_64 : decode b_Ne_init 64 = .ok (.iload_n 1, 1) := by decide +kernel
theorem d_Ne_init_65 : decode b_Ne_init 65 = .ok (.bipush 8, 2) := by decide +kernel
theorem d_Ne_init_67 : decode b_Ne_init 67 = .ok (.if_icmp .ge 22, 3) := by decide +kernel
theorem d_Ne_init_70 : decode b_Ne_init 70 = .ok (.aload_n 0, 1) := by decide +kernel
theorem d_Ne_init_71 : decode b_Ne_init 71 = .ok (.getfield 17, 3) := by decide +kernel
theorem d_Ne_init_74 : decode b_Ne_init 74 = .ok (.iload_n 1, 1) := by decide +kernel
theorem d_Ne_init_75 : decode b_Ne_init 75 = .ok (.new 15, 3) := by decide +kernel
theorem d_Ne_init_78 : decode b_Ne_init 78 = .ok (.dup, 1) := by decide +kernel
theorem d_Ne_init_79 : decode b_Ne_init 79 = .ok (.invokespecial 31, 3) := by decide +kernel
theorem d_Ne_init_82 : decode b_Ne_init 82 = .ok (.aastore, 1) := by decide +kernel
theorem d_Ne_init_83 : decode b_Ne_init 83 = .ok (.iinc 1 1, 3) := by decide +kernel
theorem d_Ne_init_86 : decode b_Ne_init 86 = .ok (.goto (-22), 3) := by decide +kernel
theorem d_Ne_init_89 : decode b_Ne_init 89 = .ok (.return_, 1) := by decide +kernel
