theorem dX0_init_0 : decode cX0_init 0 = .ok (.aload_n 0, 1) := by decide +kernel
theorem dX0_init_1 : decode cX0_init 1 = .ok (.invokespecial 3, 3) := by decide +kernel
theorem dX0_init_4 : decode cX0_init 4 = .ok (.aload_n 0, 1) := by decide +kernel
theorem dX0_init_5 : decode cX0_init 5 = .ok (.new 9, 3) := by decide +kernel
theorem dX0_init_8 : decode cX0_init 8 = .ok (.dup, 1) := by decide +kernel
theorem dX0_init_9 : decode cX0_init 9 = .ok (.invokespecial 11, 3) := by decide +kernel
theorem dX0_init_12 : decode cX0_init 12 = .ok (.putfield 12, 3) := by decide +kernel
theorem dX0_init_15 : decode cX0_init 15 = .ok (.aload_n 0, 1) := by decide +kernel
theorem dX0_init_16 : decode cX0_init 16 = .ok (.iconst 5, 1) := by decide +kernel
theorem dX0_init_17 : decode cX0_init 17 = .ok (.newarray .boolean, 2) := by decide +kernel
theorem dX0_init_19 : decode cX0_init 19 = .ok (.putfield 18, 3) := by decide +kernel
theorem dX0_init_22 : decode cX0_init 22 = .ok (.aload_n 0, 1) := by decide +kernel
theorem dX0_init_23 : decode cX0_init 23 = .ok (.bipush 30, 2) := by decide +kernel
theorem dX0_init_25 : decode cX0_init 25 = .ok (.newarray .int, 2) := by decide +kernel
theorem dX0_init_27 : decode cX0_init 27 = .ok (.putfield 22, 3) := by decide +kernel
theorem dX0_init_30 : decode cX0_init 30 = .ok (.aload_n 0, 1) := by decide +kernel
theorem dX0_init_31 : decode cX0_init 31 = .ok (.iconst 5, 1) := by decide +kernel
theorem dX0_init_32 : decode cX0_init 32 = .ok (.newarray .int, 2) := by decide +kernel
theorem dX0_init_34 : decode cX0_init 34 = .ok (.putfield 26, 3) := by decide +kernel
theorem dX0_init_37 : decode cX0_init 37 = .ok (.aload_n 0, 1) := by decide +kernel
theorem dX0_init_38 : decode cX0_init 38 = .ok (.iconst 5, 1) := by decide +kernel
theorem dX0_init_39 : decode cX0_init 39 = .ok (.newarray .int, 2) := by decide +kernel
theorem dX0_init_41 : decode cX0_init 41 = .ok (.putfield 29, 3) := by decide +kernel
theorem dX0_init_44 : decode cX0_init 44 = .ok (.aload_n 0, 1) := by decide +kernel
theorem dX0_init_45 : decode cX0_init 45 = .ok (.bipush 24, 2) := by decide +kernel
theorem dX0_init_47 : decode cX0_init 47 = .ok (.newarray .int, 2) := by decide +kernel
theorem dX0_init_49 : decode cX0_init 49 = .ok (.putfield 32, 3) := by decide +kernel
theorem dX0_init_52 : decode cX0_init 52 = .ok (.aload_n 0, 1) := by decide +kernel
theorem dX0_init_53 : decode cX0_init 53 = .ok (.bipush 24, 2) := by decide +kernel
theorem dX0_init_55 : decode cX0_init 55 = .ok (.newarray .int, 2) := by decide +kernel
theorem dX0_init_57 : decode cX0_init 57 = .ok (.putfield 35, 3) := by decide +kernel
theorem dX0_init_60 : decode cX0_init 60 = .ok (.aload_n 0, 1) := by decide +kernel
theorem dX0_init_61 : decode cX0_init 61 = .ok (.aload_n 1, 1) := by decide +kernel
theorem dX0_init_62 : decode cX0_init 62 = .ok (.putfield 38, 3) := by decide +kernel
theorem dX0_init_65 : decode cX0_init 65 = .ok (.aload_n 0, 1) := by decide +kernel
theorem dX0_init_66 : decode cX0_init 66 = .ok (.aload_n 1, 1) := by decide +kernel
theorem dX0_init_67 : decode cX0_init 67 = .ok (.getfield 42, 3) := by decide +kernel
theorem dX0_init_70 : decode cX0_init 70 = .ok (.putfield 48, 3) := by decide +kernel
theorem dX0_init_73 : decode cX0_init 73 = .ok (.return_, 1) := by decide +kernel
theorem dX10_init_0 : decode cX10_init 0 = .ok (.aload_n 0, 1) := by decide +kernel
theorem dX10_init_1 : decode cX10_init 1 = .ok (.invokespecial 3, 3) := by decide +kernel
theorem dX10_init_4 : decode cX10_init 4 = .ok (.aload_n 0, 1) := by decide +kernel
theorem dX10_init_5 : decode cX10_init 5 = .ok (.iconst (-1), 1) := by decide +kernel
theorem dX10_init_6 : decode cX10_init 6 = .ok (.putfield 9, 3) := by decide +kernel
theorem dX10_init_9 : decode cX10_init 9 = .ok (.aload_n 0, 1) := by decide +kernel
theorem dX10_init_10 : decode cX10_init 10 = .ok (.iconst (-1), 1) := by decide +kernel
theorem dX10_init_11 : decode cX10_init 11 = .ok (.putfield 15, 3) := by decide +kernel
theorem dX10_init_14 : decode cX10_init 14 = .ok (.aload_n 0, 1) := by decide +kernel
theorem dX10_init_15 : decode cX10_init 15 = .ok (.iconst (-1), 1) := by decide +kernel
theorem dX10_init_16 : decode cX10_init 16 = .ok (.putfield 18, 3) := by decide +kernel
theorem dX10_init_19 : decode cX10_init 19 = .ok (.return_, 1) := by decide +kernel
theorem dX11_init_0 : decode cX11_init 0 = .ok (.aload_n 0, 1) := by decide +kernel
theorem dX11_init_1 : decode cX11_init 1 = .ok (.invokespecial 3, 3) := by decide +kernel
theorem dX11_init_4 : decode cX11_init 4 = .ok (.aload_n 0, 1) := by decide +kernel
theorem dX11_init_5 : decode cX11_init 5 = .ok (.sipush 700, 3) := by decide +kernel
theorem dX11_init_8 : decode cX11_init 8 = .ok (.newarray .byte, 2) := by decide +kernel
theorem dX11_init_10 : decode cX11_init 10 = .ok (.putfield 11, 3) := by decide +kernel
theorem dX11_init_13 : decode cX11_init 13 = .ok (.aload_n 0, 1) := by decide +kernel
theorem dX11_init_14 : decode cX11_init 14 = .ok (.new 15, 3) := by decide +kernel
theorem dX11_init_17 : decode cX11_init 17 = .ok (.dup, 1) := by decide +kernel
theorem dX11_init_18 : decode cX11_init 18 = .ok (.aload_n 0, 1) := by decide +kernel
theorem dX11_init_19 : decode cX11_init 19 = .ok (.getfield 11, 3) := by decide +kernel
theorem dX11_init_22 : decode cX11_init 22 = .ok (.invokespecial 17, 3) := by decide +kernel
theorem dX11_init_25 : decode cX11_init 25 = .ok (.putfield 20, 3) := by decide +kernel
theorem dX11_init_28 : decode cX11_init 28 = .ok (.aload_n 0, 1) := by decide +kernel
theorem dX11_init_29 : decode cX11_init 29 = .ok (.new 24, 3) := by decide +kernel
theorem dX11_init_32 : decode cX11_init 32 = .ok (.dup, 1) := by decide +kernel
theorem dX11_init_33 : decode cX11_init 33 = .ok (.invokespecial 26, 3) := by decide +kernel
theorem dX11_init_36 : decode cX11_init 36 = .ok (.putfield 27, 3) := by decide +kernel
theorem dX11_init_39 : decode cX11_init 39 = .ok (.aload_n 0, 1) := by decide +kernel
theorem dX11_init_40 : decode cX11_init 40 = .ok (.new 24, 3) := by decide +kernel
theorem dX11_init_43 : decode cX11_init 43 = .ok (.dup, 1) := by decide +kernel
theorem dX11_init_44 : decode cX11_init 44 = .ok (.invokespecial 26, 3) := by decide +kernel
theorem dX11_init_47 : decode cX11_init 47 = .ok (.putfield 31, 3) := by decide +kernel
theorem dX11_init_50 : decode cX11_init 50 = .ok (.aload_n 0, 1) := by decide +kernel
theorem dX11_init_51 : decode cX11_init 51 = .ok (.new 34, 3) := by decide +kernel
theorem dX11_init_54 : decode cX11_init 54 = .ok (.dup, 1) := by decide +kernel
theorem dX11_init_55 : decode cX11_init 55 = .ok (.aload_n 0, 1) := by decide +kernel
theorem dX11_init_56 : decode cX11_init 56 = .ok (.getfield 27, 3) := by decide +kernel
theorem dX11_init_59 : decode cX11_init 59 = .ok (.invokespecial 36, 3) := by decide +kernel
theorem dX11_init_62 : decode cX11_init 62 = .ok (.putfield 39, 3) := by decide +kernel
theorem dX11_init_65 : decode cX11_init 65 = .ok (.aload_n 0, 1) := by decide +kernel
theorem dX11_init_66 : decode cX11_init 66 = .ok (.new 34, 3) := by decide +kernel
theorem dX11_init_69 : decode cX11_init 69 = .ok (.dup, 1) := by decide +kernel
theorem dX11_init_70 : decode cX11_init 70 = .ok (.aload_n 0, 1) := by decide +kernel
theorem dX11_init_71 : decode cX11_init 71 = .ok (.getfield 27, 3) := by decide +kernel
theorem dX11_init_74 : decode cX11_init 74 = .ok (.invokespecial 36, 3) := by decide +kernel
theorem dX11_init_77 : decode cX11_init 77 = .ok (.putfield 43, 3) := by decide +kernel
theorem dX11_init_80 : decode cX11_init 80 = .ok (.aload_n 0, 1) := by decide +kernel
theorem dX11_init_81 : decode cX11_init 81 = .ok (.new 34, 3) := by decide +kernel
theorem dX11_init_84 : decode cX11_init 84 = .ok (.dup, 1) := by decide +kernel
theorem dX11_init_85 : decode cX11_init 85 = .ok (.aload_n 0, 1) := by decide +kernel
theorem dX11_init_86 : decode cX11_init 86 = .ok (.getfield 27, 3) := by decide +kernel
theorem dX11_init_89 : decode cX11_init 89 = .ok (.invokespecial 36, 3) := by decide +kernel
theorem dX11_init_92 : decode cX11_init 92 = .ok (.putfield 46, 3) := by decide +kernel
theorem dX11_init_95 : decode cX11_init 95 = .ok (.aload_n 0, 1) := by decide +kernel
theorem dX11_init_96 : decode cX11_init 96 = .ok (.new 49, 3) := by decide +kernel
theorem dX11_init_99 : decode cX11_init 99 = .ok (.dup, 1) := by decide +kernel
theorem dX11_init_100 : decode cX11_init 100 = .ok (.invokespecial 51, 3) := by decide +kernel
theorem dX11_init_103 : decode cX11_init 103 = .ok (.putfield 52, 3) := by decide +kernel
theorem dX11_init_106 : decode cX11_init 106 = .ok (.aload_n 0, 1) := by decide +kernel
theorem dX11_init_107 : decode cX11_init 107 = .ok (.new 56, 3) := by decide +kernel
theorem dX11_init_110 : decode cX11_init 110 = .ok (.dup, 1) := by decide +kernel
theorem dX11_init_111 : decode cX11_init 111 = .ok (.invokespecial 58, 3) := by decide +kernel
theorem dX11_init_114 : decode cX11_init 114 = .ok (.putfield 59, 3) := by decide +kernel
theorem dX11_init_117 : decode cX11_init 117 = .ok (.aload_n 0, 1) := by decide +kernel
theorem dX11_init_118 : decode cX11_init 118 = .ok (.iconst (-1), 1) := by decide +kernel
theorem dX11_init_119 : decode cX11_init 119 = .ok (.putfield 63, 3) := by decide +kernel
theorem dX11_init_122 : decode cX11_init 122 = .ok (.return_, 1) := by decide +kernel
theorem dX1_init_0 : decode cX1_init 0 = .ok (.aload_n 0, 1) := by decide +kernel
theorem dX1_init_1 : decode cX1_init 1 = .ok (.invokespecial 3, 3) := by decide +kernel
theorem dX1_init_4 : decode cX1_init 4 = .ok (.aload_n 0, 1) := by decide +kernel
theorem dX1_init_5 : decode cX1_init 5 = .ok (.bipush 72, 2) := by decide +kernel
theorem dX1_init_7 : decode cX1_init 7 = .ok (.newarray .int, 2) := by decide +kernel
theorem dX1_init_9 : decode cX1_init 9 = .ok (.putfield 9, 3) := by decide +kernel
theorem dX1_init_12 : decode cX1_init 12 = .ok (.aload_n 0, 1) := by decide +kernel
theorem dX1_init_13 : decode cX1_init 13 = .ok (.bipush 9, 2) := by decide +kernel
theorem dX1_init_15 : decode cX1_init 15 = .ok (.newarray .boolean, 2) := by decide +kernel
theorem dX1_init_17 : decode cX1_init 17 = .ok (.putfield 15, 3) := by decide +kernel
theorem dX1_init_20 : decode cX1_init 20 = .ok (.aload_n 0, 1) := by decide +kernel
theorem dX1_init_21 : decode cX1_init 21 = .ok (.aload_n 1, 1) := by decide +kernel
theorem dX1_init_22 : decode cX1_init 22 = .ok (.putfield 19, 3) := by decide +kernel
theorem dX1_init_25 : decode cX1_init 25 = .ok (.return_, 1) := by decide +kernel
theorem dX2_init_0 : decode cX2_init 0 = .ok (.aload_n 0, 1) := by decide +kernel
theorem dX2_init_1 : decode cX2_init 1 = .ok (.invokespecial 3, 3) := by decide +kernel
theorem dX2_init_4 : decode cX2_init 4 = .ok (.aload_n 0, 1) := by decide +kernel
theorem dX2_init_5 : decode cX2_init 5 = .ok (.new 9, 3) := by decide +kernel
theorem dX2_init_8 : decode cX2_init 8 = .ok (.dup, 1) := by decide +kernel
theorem dX2_init_9 : decode cX2_init 9 = .ok (.invokespecial 11, 3) := by decide +kernel
theorem dX2_init_12 : decode cX2_init 12 = .ok (.putfield 12, 3) := by decide +kernel
theorem dX2_init_15 : decode cX2_init 15 = .ok (.aload_n 0, 1) := by decide +kernel
theorem dX2_init_16 : decode cX2_init 16 = .ok (.new 18, 3) := by decide +kernel
theorem dX2_init_19 : decode cX2_init 19 = .ok (.dup, 1) := by decide +kernel
theorem dX2_init_20 : decode cX2_init 20 = .ok (.invokespecial 20, 3) := by decide +kernel
theorem dX2_init_23 : decode cX2_init 23 = .ok (.putfield 21, 3) := by decide +kernel
theorem dX2_init_26 : decode cX2_init 26 = .ok (.aload_n 0, 1) := by decide +kernel
theorem dX2_init_27 : decode cX2_init 27 = .ok (.new 25, 3) := by decide +kernel
theorem dX2_init_30 : decode cX2_init 30 = .ok (.dup, 1) := by decide +kernel
theorem dX2_init_31 : decode cX2_init 31 = .ok (.invokespecial 27, 3) := by decide +kernel
theorem dX2_init_34 : decode cX2_init 34 = .ok (.putfield 28, 3) := by decide +kernel
theorem dX2_init_37 : decode cX2_init 37 = .ok (.aload_n 0, 1) := by decide +kernel
theorem dX2_init_38 : decode cX2_init 38 = .ok (.iconst 4, 1) := by decide +kernel
theorem dX2_init_39 : decode cX2_init 39 = .ok (.newarray .int, 2) := by decide +kernel
theorem dX2_init_41 : decode cX2_init 41 = .ok (.putfield 32, 3) := by decide +kernel
theorem dX2_init_44 : decode cX2_init 44 = .ok (.aload_n 0, 1) := by decide +kernel
theorem dX2_init_45 : decode cX2_init 45 = .ok (.iconst 4, 1) := by decide +kernel
theorem dX2_init_46 : decode cX2_init 46 = .ok (.newarray .int, 2) := by decide +kernel
theorem dX2_init_48 : decode cX2_init 48 = .ok (.putfield 36, 3) := by decide +kernel
theorem dX2_init_51 : decode cX2_init 51 = .ok (.aload_n 0, 1) := by decide +kernel
theorem dX2_init_52 : decode cX2_init 52 = .ok (.iconst 4, 1) := by decide +kernel
theorem dX2_init_53 : decode cX2_init 53 = .ok (.newarray .int, 2) := by decide +kernel
theorem dX2_init_55 : decode cX2_init 55 = .ok (.putfield 39, 3) := by decide +kernel
theorem dX2_init_58 : decode cX2_init 58 = .ok (.aload_n 0, 1) := by decide +kernel
theorem dX2_init_59 : decode cX2_init 59 = .ok (.bipush 8, 2) := by decide +kernel
theorem dX2_init_61 : decode cX2_init 61 = .ok (.newarray .int, 2) := by decide +kernel
theorem dX2_init_63 : decode cX2_init 63 = .ok (.putfield 42, 3) := by decide +kernel
theorem dX2_init_66 : decode cX2_init 66 = .ok (.aload_n 0, 1) := by decide +kernel
theorem dX2_init_67 : decode cX2_init 67 = .ok (.bipush 20, 2) := by decide +kernel
theorem dX2_init_69 : decode cX2_init 69 = .ok (.putfield 45, 3) := by decide +kernel
theorem dX2_init_72 : decode cX2_init 72 = .ok (.aload_n 0, 1) := by decide +kernel
theorem dX2_init_73 : decode cX2_init 73 = .ok (.iconst 3, 1) := by decide +kernel
theorem dX2_init_74 : decode cX2_init 74 = .ok (.putfield 49, 3) := by decide +kernel
theorem dX2_init_77 : decode cX2_init 77 = .ok (.return_, 1) := by decide +kernel
theorem dX3_init_0 : decode cX3_init 0 = .ok (.aload_n 0, 1) := by decide +kernel
theorem dX3_init_1 : decode cX3_init 1 = .ok (.invokespecial 3, 3) := by decide +kernel
theorem dX3_init_4 : decode cX3_init 4 = .ok (.aload_n 0, 1) := by decide +kernel
theorem dX3_init_5 : decode cX3_init 5 = .ok (.bipush 64, 2) := by decide +kernel
theorem dX3_init_7 : decode cX3_init 7 = .ok (.newarray .int, 2) := by decide +kernel
theorem dX3_init_9 : decode cX3_init 9 = .ok (.putfield 9, 3) := by decide +kernel
theorem dX3_init_12 : decode cX3_init 12 = .ok (.aload_n 0, 1) := by decide +kernel
theorem dX3_init_13 : decode cX3_init 13 = .ok (.bipush 64, 2) := by decide +kernel
theorem dX3_init_15 : decode cX3_init 15 = .ok (.newarray .int, 2) := by decide +kernel
theorem dX3_init_17 : decode cX3_init 17 = .ok (.putfield 15, 3) := by decide +kernel
theorem dX3_init_20 : decode cX3_init 20 = .ok (.aload_n 0, 1) := by decide +kernel
theorem dX3_init_21 : decode cX3_init 21 = .ok (.iconst 3, 1) := by decide +kernel
theorem dX3_init_22 : decode cX3_init 22 = .ok (.newarray .int, 2) := by decide +kernel
theorem dX3_init_24 : decode cX3_init 24 = .ok (.putfield 18, 3) := by decide +kernel
theorem dX3_init_27 : decode cX3_init 27 = .ok (.aload_n 0, 1) := by decide +kernel
theorem dX3_init_28 : decode cX3_init 28 = .ok (.iconst 3, 1) := by decide +kernel
theorem dX3_init_29 : decode cX3_init 29 = .ok (.newarray .int, 2) := by decide +kernel
theorem dX3_init_31 : decode cX3_init 31 = .ok (.putfield 21, 3) := by decide +kernel
theorem dX3_init_34 : decode cX3_init 34 = .ok (.aload_n 0, 1) := by decide +kernel
theorem dX3_init_35 : decode cX3_init 35 = .ok (.bipush 64, 2) := by decide +kernel
theorem dX3_init_37 : decode cX3_init 37 = .ok (.newarray .long, 2) := by decide +kernel
theorem dX3_init_39 : decode cX3_init 39 = .ok (.putfield 24, 3) := by decide +kernel
theorem dX3_init_42 : decode cX3_init 42 = .ok (.aload_n 0, 1) := by decide +kernel
theorem dX3_init_43 : decode cX3_init 43 = .ok (.bipush 7, 2) := by decide +kernel
theorem dX3_init_45 : decode cX3_init 45 = .ok (.newarray .int, 2) := by decide +kernel
theorem dX3_init_47 : decode cX3_init 47 = .ok (.putfield 28, 3) := by decide +kernel
theorem dX3_init_50 : decode cX3_init 50 = .ok (.return_, 1) := by decide +kernel
theorem dX4_init_0 : decode cX4_init 0 = .ok (.aload_n 0, 1) := by decide +kernel
theorem dX4_init_1 : decode cX4_init 1 = .ok (.invokespecial 3, 3) := by decide +kernel
theorem dX4_init_4 : decode cX4_init 4 = .ok (.aload_n 0, 1) := by decide +kernel
theorem dX4_init_5 : decode cX4_init 5 = .ok (.iconst (-1), 1) := by decide +kernel
theorem dX4_init_6 : decode cX4_init 6 = .ok (.putfield 9, 3) := by decide +kernel
theorem dX4_init_9 : decode cX4_init 9 = .ok (.aload_n 0, 1) := by decide +kernel
theorem dX4_init_10 : decode cX4_init 10 = .ok (.bipush 24, 2) := by decide +kernel
theorem dX4_init_12 : decode cX4_init 12 = .ok (.newarray .int, 2) := by decide +kernel
theorem dX4_init_14 : decode cX4_init 14 = .ok (.putfield 15, 3) := by decide +kernel
theorem dX4_init_17 : decode cX4_init 17 = .ok (.aload_n 0, 1) := by decide +kernel
theorem dX4_init_18 : decode cX4_init 18 = .ok (.bipush 24, 2) := by decide +kernel
theorem dX4_init_20 : decode cX4_init 20 = .ok (.newarray .int, 2) := by decide +kernel
theorem dX4_init_22 : decode cX4_init 22 = .ok (.putfield 19, 3) := by decide +kernel
theorem dX4_init_25 : decode cX4_init 25 = .ok (.aload_n 0, 1) := by decide +kernel
theorem dX4_init_26 : decode cX4_init 26 = .ok (.bipush 24, 2) := by decide +kernel
theorem dX4_init_28 : decode cX4_init 28 = .ok (.newarray .boolean, 2) := by decide +kernel
theorem dX4_init_30 : decode cX4_init 30 = .ok (.putfield 22, 3) := by decide +kernel
theorem dX4_init_33 : decode cX4_init 33 = .ok (.aload_n 0, 1) := by decide +kernel
theorem dX4_init_34 : decode cX4_init 34 = .ok (.bipush 24, 2) := by decide +kernel
theorem dX4_init_36 : decode cX4_init 36 = .ok (.newarray .int, 2) := by decide +kernel
theorem dX4_init_38 : decode cX4_init 38 = .ok (.putfield 26, 3) := by decide +kernel
theorem dX4_init_41 : decode cX4_init 41 = .ok (.aload_n 0, 1) := by decide +kernel
theorem dX4_init_42 : decode cX4_init 42 = .ok (.bipush 24, 2) := by decide +kernel
theorem dX4_init_44 : decode cX4_init 44 = .ok (.newarray .boolean, 2) := by decide +kernel
theorem dX4_init_46 : decode cX4_init 46 = .ok (.putfield 29, 3) := by decide +kernel
theorem dX4_init_49 : decode cX4_init 49 = .ok (.return_, 1) := by decide +kernel
theorem dX5_init_0 : decode cX5_init 0 = .ok (.aload_n 0, 1) := by decide +kernel
theorem dX5_init_1 : decode cX5_init 1 = .ok (.invokespecial 3, 3) := by decide +kernel
theorem dX5_init_4 : decode cX5_init 4 = .ok (.aload_n 0, 1) := by decide +kernel
theorem dX5_init_5 : decode cX5_init 5 = .ok (.bipush 20, 2) := by decide +kernel
theorem dX5_init_7 : decode cX5_init 7 = .ok (.newarray .int, 2) := by decide +kernel
theorem dX5_init_9 : decode cX5_init 9 = .ok (.putfield 9, 3) := by decide +kernel
theorem dX5_init_12 : decode cX5_init 12 = .ok (.aload_n 0, 1) := by decide +kernel
theorem dX5_init_13 : decode cX5_init 13 = .ok (.bipush 20, 2) := by decide +kernel
theorem dX5_init_15 : decode cX5_init 15 = .ok (.newarray .int, 2) := by decide +kernel
theorem dX5_init_17 : decode cX5_init 17 = .ok (.putfield 15, 3) := by decide +kernel
theorem dX5_init_20 : decode cX5_init 20 = .ok (.aload_n 0, 1) := by decide +kernel
theorem dX5_init_21 : decode cX5_init 21 = .ok (.bipush 20, 2) := by decide +kernel
theorem dX5_init_23 : decode cX5_init 23 = .ok (.newarray .int, 2) := by decide +kernel
theorem dX5_init_25 : decode cX5_init 25 = .ok (.putfield 18, 3) := by decide +kernel
theorem dX5_init_28 : decode cX5_init 28 = .ok (.return_, 1) := by decide +kernel
theorem dX6_init_0 : decode cX6_init 0 = .ok (.aload_n 0, 1) := by decide +kernel
theorem dX6_init_1 : decode cX6_init 1 = .ok (.invokespecial 3, 3) := by decide +kernel
theorem dX6_init_4 : decode cX6_init 4 = .ok (.aload_n 0, 1) := by decide +kernel
theorem dX6_init_5 : decode cX6_init 5 = .ok (.iconst 5, 1) := by decide +kernel
theorem dX6_init_6 : decode cX6_init 6 = .ok (.newarray .int, 2) := by decide +kernel
theorem dX6_init_8 : decode cX6_init 8 = .ok (.putfield 9, 3) := by decide +kernel
theorem dX6_init_11 : decode cX6_init 11 = .ok (.aload_n 0, 1) := by decide +kernel
theorem dX6_init_12 : decode cX6_init 12 = .ok (.iconst 5, 1) := by decide +kernel
theorem dX6_init_13 : decode cX6_init 13 = .ok (.newarray .int, 2) := by decide +kernel
theorem dX6_init_15 : decode cX6_init 15 = .ok (.putfield 15, 3) := by decide +kernel
theorem dX6_init_18 : decode cX6_init 18 = .ok (.aload_n 0, 1) := by decide +kernel
theorem dX6_init_19 : decode cX6_init 19 = .ok (.iconst 5, 1) := by decide +kernel
theorem dX6_init_20 : decode cX6_init 20 = .ok (.newarray .int, 2) := by decide +kernel
theorem dX6_init_22 : decode cX6_init 22 = .ok (.putfield 18, 3) := by decide +kernel
theorem dX6_init_25 : decode cX6_init 25 = .ok (.aload_n 0, 1) := by decide +kernel
theorem dX6_init_26 : decode cX6_init 26 = .ok (.iconst 5, 1) := by decide +kernel
theorem dX6_init_27 : decode cX6_init 27 = .ok (.newarray .int, 2) := by decide +kernel
theorem dX6_init_29 : decode cX6_init 29 = .ok (.putfield 21, 3) := by decide +kernel
theorem dX6_init_32 : decode cX6_init 32 = .ok (.aload_n 0, 1) := by decide +kernel
theorem dX6_init_33 : decode cX6_init 33 = .ok (.iconst 5, 1) := by decide +kernel
theorem dX6_init_34 : decode cX6_init 34 = .ok (.newarray .int, 2) := by decide +kernel
theorem dX6_init_36 : decode cX6_init 36 = .ok (.putfield 24, 3) := by decide +kernel
theorem dX6_init_39 : decode cX6_init 39 = .ok (.return_, 1) := by decide +kernel
theorem dX7_init_0 : decode cX7_init 0 = .ok (.aload_n 0, 1) := by decide +kernel
theorem dX7_init_1 : decode cX7_init 1 = .ok (.invokespecial 3, 3) := by decide +kernel
theorem dX7_init_4 : decode cX7_init 4 = .ok (.aload_n 0, 1) := by decide +kernel
theorem dX7_init_5 : decode cX7_init 5 = .ok (.new 9, 3) := by decide +kernel
theorem dX7_init_8 : decode cX7_init 8 = .ok (.dup, 1) := by decide +kernel
theorem dX7_init_9 : decode cX7_init 9 = .ok (.aload_n 1, 1) := by decide +kernel
theorem dX7_init_10 : decode cX7_init 10 = .ok (.invokespecial 11, 3) := by decide +kernel
theorem dX7_init_13 : decode cX7_init 13 = .ok (.putfield 14, 3) := by decide +kernel
theorem dX7_init_16 : decode cX7_init 16 = .ok (.aload_n 0, 1) := by decide +kernel
theorem dX7_init_17 : decode cX7_init 17 = .ok (.new 20, 3) := by decide +kernel
theorem dX7_init_20 : decode cX7_init 20 = .ok (.dup, 1) := by decide +kernel
theorem dX7_init_21 : decode cX7_init 21 = .ok (.aload_n 0, 1) := by decide +kernel
theorem dX7_init_22 : decode cX7_init 22 = .ok (.getfield 14, 3) := by decide +kernel
theorem dX7_init_25 : decode cX7_init 25 = .ok (.invokespecial 22, 3) := by decide +kernel
theorem dX7_init_28 : decode cX7_init 28 = .ok (.putfield 25, 3) := by decide +kernel
theorem dX7_init_31 : decode cX7_init 31 = .ok (.return_, 1) := by decide +kernel
theorem dX8_init_0 : decode cX8_init 0 = .ok (.aload_n 0, 1) := by decide +kernel
theorem dX8_init_1 : decode cX8_init 1 = .ok (.invokespecial 3, 3) := by decide +kernel
theorem dX8_init_4 : decode cX8_init 4 = .ok (.aload_n 0, 1) := by decide +kernel
theorem dX8_init_5 : decode cX8_init 5 = .ok (.iconst 5, 1) := by decide +kernel
theorem dX8_init_6 : decode cX8_init 6 = .ok (.newarray .int, 2) := by decide +kernel
theorem dX8_init_8 : decode cX8_init 8 = .ok (.putfield 9, 3) := by decide +kernel
theorem dX8_init_11 : decode cX8_init 11 = .ok (.aload_n 0, 1) := by decide +kernel
theorem dX8_init_12 : decode cX8_init 12 = .ok (.iconst 5, 1) := by decide +kernel
theorem dX8_init_13 : decode cX8_init 13 = .ok (.newarray .int, 2) := by decide +kernel
theorem dX8_init_15 : decode cX8_init 15 = .ok (.putfield 15, 3) := by decide +kernel
theorem dX8_init_18 : decode cX8_init 18 = .ok (.aload_n 0, 1) := by decide +kernel
theorem dX8_init_19 : decode cX8_init 19 = .ok (.iconst 5, 1) := by decide +kernel
theorem dX8_init_20 : decode cX8_init 20 = .ok (.newarray .int, 2) := by decide +kernel
theorem dX8_init_22 : decode cX8_init 22 = .ok (.putfield 18, 3) := by decide +kernel
theorem dX8_init_25 : decode cX8_init 25 = .ok (.aload_n 0, 1) := by decide +kernel
theorem dX8_init_26 : decode cX8_init 26 = .ok (.iconst 5, 1) := by decide +kernel
theorem dX8_init_27 : decode cX8_init 27 = .ok (.newarray .int, 2) := by decide +kernel
theorem dX8_init_29 : decode cX8_init 29 = .ok (.putfield 21, 3) := by decide +kernel
theorem dX8_init_32 : decode cX8_init 32 = .ok (.return_, 1) := by decide +kernel
theorem wm_11_3 : Cond.methodLink RX11 3 objectInit ∈ TS := inT1 30 (by decide +kernel) (by decide +kernel)
theorem wc_11_15 : Cond.classLink RX11 15 RX7 ∈ TS := inT1 33 (by decide +kernel) (by decide +kernel)
theorem wz_7 : Cond.initialized RX7 ∈ TS := inT1 2 (by decide +kernel) (by decide +kernel)
theorem wm_7_3 : Cond.methodLink RX7 3 objectInit ∈ TS := inT1 38 (by decide +kernel) (by decide +kernel)
theorem wc_7_9 : Cond.classLink RX7 9 RX9 ∈ TS := inT1 39 (by decide +kernel) (by decide +kernel)
theorem wz_9 : Cond.initialized RX9 ∈ TS := inT1 3 (by decide +kernel) (by decide +kernel)
theorem wcd_X9_init : Cond.code yX9_init cX9_init 5 none ∈ TS := inT1 43 rfl rfl
theorem win_X9_init : Cond.instanceMethod yX9_init ∈ TS := inT1 42 (by decide +kernel) (by decide +kernel)
theorem wm_7_11 : Cond.methodLink RX7 11 yX9_init ∈ TS := inT1 41 (by decide +kernel) (by decide +kernel)
theorem wc_7_20 : Cond.classLink RX7 20 RX1 ∈ TS := inT1 126 (by decide +kernel) (by decide +kernel)
theorem wz_1 : Cond.initialized RX1 ∈ TS := inT1 8 (by decide +kernel) (by decide +kernel)
theorem wm_1_3 : Cond.methodLink RX1 3 objectInit ∈ TS := inT1 131 (by decide +kernel) (by decide +kernel)
theorem wcd_X1_init : Cond.code yX1_init cX1_init 2 none ∈ TS := inT1 130 rfl rfl
theorem win_X1_init : Cond.instanceMethod yX1_init ∈ TS := inT1 129 (by decide +kernel) (by decide +kernel)
theorem wm_7_22 : Cond.methodLink RX7 22 yX1_init ∈ TS := inT1 128 (by decide +kernel) (by decide +kernel)
theorem wcd_X7_init : Cond.code yX7_init cX7_init 2 none ∈ TS := inT1 37 rfl rfl
theorem win_X7_init : Cond.instanceMethod yX7_init ∈ TS := inT1 36 (by decide +kernel) (by decide +kernel)
theorem wm_11_17 : Cond.methodLink RX11 17 yX7_init ∈ TS := inT1 35 (by decide +kernel) (by decide +kernel)
theorem wc_11_24 : Cond.classLink RX11 24 RX2 ∈ TS := inT1 179 (by decide +kernel) (by decide +kernel)
theorem wz_2 : Cond.initialized RX2 ∈ TS := inT1 9 (by decide +kernel) (by decide +kernel)
theorem wm_2_3 : Cond.methodLink RX2 3 objectInit ∈ TS := inT1 184 (by decide +kernel) (by decide +kernel)
theorem wc_2_9 : Cond.classLink RX2 9 RX8 ∈ TS := inT1 185 (by decide +kernel) (by decide +kernel)
theorem wz_8 : Cond.initialized RX8 ∈ TS := inT1 10 (by decide +kernel) (by decide +kernel)
theorem wm_8_3 : Cond.methodLink RX8 3 objectInit ∈ TS := inT1 190 (by decide +kernel) (by decide +kernel)
theorem wf_8_9 : Cond.fieldLink RX8 9 (TX8 1).1 (TX8 1).2.1 (TX8 1).2.2.1 ∈ TS := inT1 195 (by decide +kernel) (by decide +kernel)
theorem wf_8_15 : Cond.fieldLink RX8 15 (TX8 2).1 (TX8 2).2.1 (TX8 2).2.2.1 ∈ TS := inT1 198 (by decide +kernel) (by decide +kernel)
theorem wf_8_18 : Cond.fieldLink RX8 18 (TX8 3).1 (TX8 3).2.1 (TX8 3).2.2.1 ∈ TS := inT1 201 (by decide +kernel) (by decide +kernel)
theorem wf_8_21 : Cond.fieldLink RX8 21 (TX8 4).1 (TX8 4).2.1 (TX8 4).2.2.1 ∈ TS := inT1 205 (by decide +kernel) (by decide +kernel)
theorem wcd_X8_init : Cond.code yX8_init cX8_init 1 none ∈ TS := inT1 189 rfl rfl
theorem win_X8_init : Cond.instanceMethod yX8_init ∈ TS := inT1 188 (by decide +kernel) (by decide +kernel)
theorem wn_2_11 : Cond.methodLinkNest RX2 11 yX8_init "KnobHall" ∈ TS := inT1 187 (by decide +kernel) (by decide +kernel)
theorem wc_2_18 : Cond.classLink RX2 18 RX6 ∈ TS := inT1 220 (by decide +kernel) (by decide +kernel)
theorem wz_6 : Cond.initialized RX6 ∈ TS := inT1 11 (by decide +kernel) (by decide +kernel)
theorem wm_6_3 : Cond.methodLink RX6 3 objectInit ∈ TS := inT1 225 (by decide +kernel) (by decide +kernel)
theorem wf_6_9 : Cond.fieldLink RX6 9 (TX6 1).1 (TX6 1).2.1 (TX6 1).2.2.1 ∈ TS := inT1 230 (by decide +kernel) (by decide +kernel)
theorem wf_6_15 : Cond.fieldLink RX6 15 (TX6 2).1 (TX6 2).2.1 (TX6 2).2.2.1 ∈ TS := inT1 233 (by decide +kernel) (by decide +kernel)
theorem wf_6_18 : Cond.fieldLink RX6 18 (TX6 3).1 (TX6 3).2.1 (TX6 3).2.2.1 ∈ TS := inT1 237 (by decide +kernel) (by decide +kernel)
theorem wf_6_21 : Cond.fieldLink RX6 21 (TX6 4).1 (TX6 4).2.1 (TX6 4).2.2.1 ∈ TS := inT2 1 (by decide +kernel) (by decide +kernel)
theorem wf_6_24 : Cond.fieldLink RX6 24 (TX6 5).1 (TX6 5).2.1 (TX6 5).2.2.1 ∈ TS := inT2 5 (by decide +kernel) (by decide +kernel)
theorem wcd_X6_init : Cond.code yX6_init cX6_init 1 none ∈ TS := inT1 224 rfl rfl
theorem win_X6_init : Cond.instanceMethod yX6_init ∈ TS := inT1 223 (by decide +kernel) (by decide +kernel)
theorem wn_2_20 : Cond.methodLinkNest RX2 20 yX6_init "KnobHall" ∈ TS := inT1 222 (by decide +kernel) (by decide +kernel)
theorem wc_2_25 : Cond.classLink RX2 25 RX3 ∈ TS := inT2 22 (by decide +kernel) (by decide +kernel)
theorem wz_3 : Cond.initialized RX3 ∈ TS := inT1 12 (by decide +kernel) (by decide +kernel)
theorem wm_3_3 : Cond.methodLink RX3 3 objectInit ∈ TS := inT2 27 (by decide +kernel) (by decide +kernel)
theorem wcd_X3_init : Cond.code yX3_init cX3_init 1 none ∈ TS := inT2 26 rfl rfl
theorem win_X3_init : Cond.instanceMethod yX3_init ∈ TS := inT2 25 (by decide +kernel) (by decide +kernel)
theorem wn_2_27 : Cond.methodLinkNest RX2 27 yX3_init "KnobHall" ∈ TS := inT2 24 (by decide +kernel) (by decide +kernel)
theorem wcd_X2_init : Cond.code yX2_init cX2_init 1 none ∈ TS := inT1 183 rfl rfl
theorem win_X2_init : Cond.instanceMethod yX2_init ∈ TS := inT1 182 (by decide +kernel) (by decide +kernel)
theorem wn_11_26 : Cond.methodLinkNest RX11 26 yX2_init "KnobHall" ∈ TS := inT1 181 (by decide +kernel) (by decide +kernel)
theorem wc_11_34 : Cond.classLink RX11 34 RX0 ∈ TS := inT2 128 (by decide +kernel) (by decide +kernel)
theorem wz_0 : Cond.initialized RX0 ∈ TS := inT1 13 (by decide +kernel) (by decide +kernel)
theorem wm_0_3 : Cond.methodLink RX0 3 objectInit ∈ TS := inT2 133 (by decide +kernel) (by decide +kernel)
theorem wc_0_9 : Cond.classLink RX0 9 RX10 ∈ TS := inT2 134 (by decide +kernel) (by decide +kernel)
theorem wz_10 : Cond.initialized RX10 ∈ TS := inT1 14 (by decide +kernel) (by decide +kernel)
theorem wm_10_3 : Cond.methodLink RX10 3 objectInit ∈ TS := inT2 139 (by decide +kernel) (by decide +kernel)
theorem wcd_X10_init : Cond.code yX10_init cX10_init 1 none ∈ TS := inT2 138 rfl rfl
theorem win_X10_init : Cond.instanceMethod yX10_init ∈ TS := inT2 137 (by decide +kernel) (by decide +kernel)
theorem wn_0_11 : Cond.methodLinkNest RX0 11 yX10_init "KnobHall" ∈ TS := inT2 136 (by decide +kernel) (by decide +kernel)
theorem wcd_X0_init : Cond.code yX0_init cX0_init 2 none ∈ TS := inT2 132 rfl rfl
theorem win_X0_init : Cond.instanceMethod yX0_init ∈ TS := inT2 131 (by decide +kernel) (by decide +kernel)
theorem wm_11_36 : Cond.methodLink RX11 36 yX0_init ∈ TS := inT2 130 (by decide +kernel) (by decide +kernel)
theorem wc_11_49 : Cond.classLink RX11 49 RX4 ∈ TS := inT3 25 (by decide +kernel) (by decide +kernel)
theorem wz_4 : Cond.initialized RX4 ∈ TS := inT1 15 (by decide +kernel) (by decide +kernel)
theorem wm_4_3 : Cond.methodLink RX4 3 objectInit ∈ TS := inT3 30 (by decide +kernel) (by decide +kernel)
theorem wcd_X4_init : Cond.code yX4_init cX4_init 1 none ∈ TS := inT3 29 rfl rfl
theorem win_X4_init : Cond.instanceMethod yX4_init ∈ TS := inT3 28 (by decide +kernel) (by decide +kernel)
theorem wn_11_51 : Cond.methodLinkNest RX11 51 yX4_init "KnobHall" ∈ TS := inT3 27 (by decide +kernel) (by decide +kernel)
theorem wc_11_56 : Cond.classLink RX11 56 RX5 ∈ TS := inT3 55 (by decide +kernel) (by decide +kernel)
theorem wz_5 : Cond.initialized RX5 ∈ TS := inT1 16 (by decide +kernel) (by decide +kernel)
theorem wm_5_3 : Cond.methodLink RX5 3 objectInit ∈ TS := inT3 60 (by decide +kernel) (by decide +kernel)
theorem wcd_X5_init : Cond.code yX5_init cX5_init 1 none ∈ TS := inT3 59 rfl rfl
theorem win_X5_init : Cond.instanceMethod yX5_init ∈ TS := inT3 58 (by decide +kernel) (by decide +kernel)
theorem wn_11_58 : Cond.methodLinkNest RX11 58 yX5_init "KnobHall" ∈ TS := inT3 57 (by decide +kernel) (by decide +kernel)
theorem wcd_X11_init : Cond.code yX11_init cX11_init 1 none ∈ TS := inT1 29 rfl rfl
theorem wz_11 : Cond.initialized RX11 ∈ TS := inT1 1 (by decide +kernel) (by decide +kernel)
theorem win_X11_init : Cond.instanceMethod yX11_init ∈ TS := inT1 28 (by decide +kernel) (by decide +kernel)
theorem wm_12_1 : Cond.methodLink RX12 1 objectInit ∈ TS := inT6 72 (by decide +kernel) (by decide +kernel)
theorem wcd_X12_init : Cond.code yX12_init cX12_init 1 none ∈ TS := inT6 71 rfl rfl
theorem wz_12 : Cond.initialized RX12 ∈ TS := inT1 17 (by decide +kernel) (by decide +kernel)
theorem win_X12_init : Cond.instanceMethod yX12_init ∈ TS := inT6 70 (by decide +kernel) (by decide +kernel)
theorem wo_i : Cond.instanceMethod objectInit ∈ TS := inT1 31 (by decide +kernel) (by decide +kernel)
theorem wo_c : Cond.code objectInit ⟨#[0xb1]⟩ 1 none ∈ TS := inT1 32 rfl (by decide +kernel)
def mi_X9_init_3 : MD := (yX9_init, cX9_init, 5, none, { frames := 8, cells := 1, slots := 20, locals := 300 })
theorem mm_i_X9_init_3 : MdI mi_X9_init_3 1 := ⟨⟨wcd_X9_init, wz_9, ⟨by decide, by decide⟩, by decide +kernel⟩, rfl, win_X9_init⟩
def g_X9_init_3 (M : MM) : MM := (upM (upM (upM (upM (upM (upM (upM (upM (upM (upM (upM (upM (upM (upM (upM (upM (upM (upM (upM (upM M 4 0 620213248) 4 1 542723566) 4 2 660013056) 4 3 525991936) 4 4 384272384) 4 5 556043424) 4 6 404455424) 4 7 419009536) 4 8 693712896) 4 9 120049248) 4 10 522190848) 4 11 48365568) 4 12 486146048) 4 13 773403648) 4 14 525997632) 4 15 206983168) 4 16 781819904) 4 17 643432448) 4 18 407940096) 4 19 284870656)
theorem z_X9_init_3 {M : MM} (hZ : Zf M 4) : Zf (g_X9_init_3 M) 5 := (Zf.up (Zf.up (Zf.up (Zf.up (Zf.up (Zf.up (Zf.up (Zf.up (Zf.up (Zf.up (Zf.up (Zf.up (Zf.up (Zf.up (Zf.up (Zf.up (Zf.up (Zf.up (Zf.up (Zf.up (Zf.mono hZ (Nat.le_succ _)) (by decide)) (by decide)) (by decide)) (by decide)) (by decide)) (by decide)) (by decide)) (by decide)) (by decide)) (by decide)) (by decide)) (by decide)) (by decide)) (by decide)) (by decide)) (by decide)) (by decide)) (by decide)) (by decide)) (by decide))
/-- what is owed of the Tokens constructor -/
def TokOK : Prop := ∀ (E : EE) (M : MM), Zf M 4 → MetC E mi_X9_init_3 1 20 [rV 3, rV 1] (TT 4, true, RT [(0, 0, 1)], M) (fun r w' => r = none ∧ w' = (TT 5, true, RT [(3, 1, 1), (3, 0, 4), (0, 0, 1)], g_X9_init_3 M))
def mi_X1_init_5 : MD := (yX1_init, cX1_init, 2, none, { frames := 1, cells := 2, slots := 81, locals := 20 })
theorem mm_i_X1_init_5 : MdI mi_X1_init_5 1 := ⟨⟨wcd_X1_init, wz_1, ⟨by decide, by decide⟩, by decide +kernel⟩, rfl, win_X1_init⟩
def g_X1_init_5 (M : MM) : MM := M
theorem z_X1_init_5 {M : MM} (hZ : Zf M 6) : Zf (g_X1_init_5 M) 8 := (Zf.mono (Zf.mono hZ (Nat.le_succ _)) (Nat.le_succ _))
set_option maxRecDepth 8000 in
theorem ci_X1_init_5 {E : EE} {M : MM} (hZ : Zf M 6) : MetC E mi_X1_init_5 2 81 [rV 5, rV 3] (TT 6, true, RT [(2, 0, 3), (3, 1, 1), (3, 0, 4), (0, 0, 1)], M) (fun r w' => r = none ∧ w' = (TT 8, true, RT [(5, 0, 3), (5, 2, 7), (5, 1, 6), (2, 0, 3), (3, 1, 1), (3, 0, 4), (0, 0, 1)], g_X1_init_5 M)) := by
  refine MetC.seg (o := some ()) (x := ()) (t := (fun K _ => K none (TT 8, true, RT [(5, 0, 3), (5, 2, 7), (5, 1, 6), (2, 0, 3), (3, 1, 1), (3, 0, 4), (0, 0, 1)], g_X1_init_5 M))) (L := [some (rV 5), some (rV 3)]) (by decide) rfl (Nat.le_of_ble_eq_true rfl) ?_ rfl ⟨rfl, rfl⟩
  refine Seg.step (pc' := 1) (I_aload_n (i := 0) dX1_init_0 rfl rfl) ?_
  refine Seg.step (pc' := 4) (I_oinit wm_1_3 wo_i wo_c (by decide) (Nat.le_of_ble_eq_true rfl) dX1_init_1) ?_
  refine Seg.step (pc' := 5) (I_aload_n (i := 0) dX1_init_4 rfl rfl) ?_
  refine Seg.step (pc' := 7) (I_bipush dX1_init_5 (by decide) ⟨by decide, by decide⟩) ?_
  refine Seg.step (pc' := 9) (I_newaT (q := 50) (N := 72) (a := 6) (atype := .int) rfl rfl hZ (fun j => rfl) (by decide) rfl (by decide) wa_50 (by decide) (by decide) (by decide) dX1_init_7) ?_
  refine Seg.step (pc' := 12) (I_putR cls1 (by decide) wf_1_9 rfl rfl (Or.inr ⟨rfl, rfl, rfl⟩) dX1_init_9) ?_
  refine Seg.step (pc' := 13) (I_aload_n (i := 0) dX1_init_12 rfl rfl) ?_
  refine Seg.step (pc' := 15) (I_bipush dX1_init_13 (by decide) ⟨by decide, by decide⟩) ?_
  refine Seg.step (pc' := 17) (I_newaT (q := 51) (N := 9) (a := 7) (atype := .boolean) rfl rfl (Zf.mono hZ (Nat.le_succ _)) (fun j => rfl) (by decide) rfl (by decide) wa_51 (by decide) (by decide) (by decide) dX1_init_15) ?_
  refine Seg.step (pc' := 20) (I_putR cls1 (by decide) wf_1_15 rfl rfl (Or.inr ⟨rfl, rfl, rfl⟩) dX1_init_17) ?_
  refine Seg.step (pc' := 21) (I_aload_n (i := 0) dX1_init_20 rfl rfl) ?_
  refine Seg.step (pc' := 22) (I_aload_n (i := 1) dX1_init_21 rfl rfl) ?_
  refine Seg.step (pc' := 25) (I_putR cls1 (by decide) wf_1_19 rfl rfl (Or.inr ⟨rfl, rfl, rfl⟩) dX1_init_22) ?_
  exact S_vret dX1_init_25 rfl (by decide) (by decide) (fun K hK => hK)
def mi_X7_init_2 : MD := (yX7_init, cX7_init, 2, none, { frames := 9, cells := 5, slots := 115, locals := 324 })
theorem mm_i_X7_init_2 : MdI mi_X7_init_2 1 := ⟨⟨wcd_X7_init, wz_7, ⟨by decide, by decide⟩, by decide +kernel⟩, rfl, win_X7_init⟩
def g_X7_init_2 (M : MM) : MM := (g_X1_init_5 (g_X9_init_3 M))
theorem z_X7_init_2 {M : MM} (hZ : Zf M 3) : Zf (g_X7_init_2 M) 8 := (z_X1_init_5 (Zf.mono (z_X9_init_3 (Zf.mono hZ (Nat.le_succ _))) (Nat.le_succ _)))
set_option maxRecDepth 8000 in
theorem ci_X7_init_2 {E : EE} {M : MM} (hZ : Zf M 3) (hTok : TokOK) : MetC E mi_X7_init_2 5 115 [rV 2, rV 1] (TT 3, true, RT [(0, 0, 1)], M) (fun r w' => r = none ∧ w' = (TT 8, true, RT [(2, 1, 5), (5, 0, 3), (5, 2, 7), (5, 1, 6), (2, 0, 3), (3, 1, 1), (3, 0, 4), (0, 0, 1)], g_X7_init_2 M)) := by
  refine MetC.seg (o := some ()) (x := ()) (t := (fun K _ => K none (TT 8, true, RT [(2, 1, 5), (5, 0, 3), (5, 2, 7), (5, 1, 6), (2, 0, 3), (3, 1, 1), (3, 0, 4), (0, 0, 1)], g_X7_init_2 M))) (L := [some (rV 2), some (rV 1)]) (by decide) rfl (Nat.le_of_ble_eq_true rfl) ?_ rfl ⟨rfl, rfl⟩
  refine Seg.step (pc' := 1) (I_aload_n (i := 0) dX7_init_0 rfl rfl) ?_
  refine Seg.step (pc' := 4) (I_oinit wm_7_3 wo_i wo_c (by decide) (Nat.le_of_ble_eq_true rfl) dX7_init_1) ?_
  refine Seg.step (pc' := 5) (I_aload_n (i := 0) dX7_init_4 rfl rfl) ?_
  refine Seg.step (pc' := 8) (I_newT (a := 3) rfl rfl hZ (fun j => rfl) cls9 (by decide +kernel) wc_7_9 wi_9 wz_9 (by decide) (by decide) dX7_init_5) ?_
  refine Seg.step (pc' := 9) (I_dup dX7_init_8 (fun _ h => by cases h)) ?_
  refine Seg.step (pc' := 10) (I_aload_n (i := 1) dX7_init_9 rfl rfl) ?_
  refine S_callI1 (md' := mi_X9_init_3) (o1 := some ()) (kk := fun _ => some ()) (fun _ => none) (fun _ => (TT 5, true, RT [(3, 1, 1), (3, 0, 4), (0, 0, 1)], (g_X9_init_3 M))) mm_i_X9_init_3 rfl wm_7_11 ⟨rfl, rfl, by decide, by decide, by decide, by decide⟩ (Nat.le_of_ble_eq_true rfl) dX7_init_10 (fun _ _ => hTok E _ (Zf.mono hZ (Nat.le_succ _))) (fun _ => ?_)
  refine Seg.step (pc' := 16) (I_putR cls7 (by decide) wf_7_14 rfl rfl (Or.inr ⟨rfl, rfl, rfl⟩) dX7_init_13) ?_
  refine Seg.step (pc' := 17) (I_aload_n (i := 0) dX7_init_16 rfl rfl) ?_
  refine Seg.step (pc' := 20) (I_newT (a := 5) rfl rfl (z_X9_init_3 (Zf.mono hZ (Nat.le_succ _))) (fun j => rfl) cls1 (by decide +kernel) wc_7_20 wi_1 wz_1 (by decide) (by decide) dX7_init_17) ?_
  refine Seg.step (pc' := 21) (I_dup dX7_init_20 (fun _ h => by cases h)) ?_
  refine Seg.step (pc' := 22) (I_aload_n (i := 0) dX7_init_21 rfl rfl) ?_
  refine Seg.step (pc' := 25) (I_getR (b := 3) cls7 (by decide) wf_7_14 rfl rfl rfl dX7_init_22) ?_
  refine S_callI1 (md' := mi_X1_init_5) (o1 := some ()) (kk := fun _ => some ()) (fun _ => none) (fun _ => (TT 8, true, RT [(5, 0, 3), (5, 2, 7), (5, 1, 6), (2, 0, 3), (3, 1, 1), (3, 0, 4), (0, 0, 1)], (g_X1_init_5 (g_X9_init_3 M)))) mm_i_X1_init_5 rfl wm_7_22 ⟨rfl, rfl, by decide, by decide, by decide, by decide⟩ (Nat.le_of_ble_eq_true rfl) dX7_init_25 (fun _ _ => ci_X1_init_5 (Zf.mono (z_X9_init_3 (Zf.mono hZ (Nat.le_succ _))) (Nat.le_succ _))) (fun _ => ?_)
  refine Seg.step (pc' := 31) (I_putR cls7 (by decide) wf_7_25 rfl rfl (Or.inr ⟨rfl, rfl, rfl⟩) dX7_init_28) ?_
  exact S_vret dX7_init_31 rfl (by decide) (by decide) (fun K hK => hK)
def mi_X8_init_9 : MD := (yX8_init, cX8_init, 1, none, { frames := 1, cells := 4, slots := 20, locals := 20 })
theorem mm_i_X8_init_9 : MdI mi_X8_init_9 0 := ⟨⟨wcd_X8_init, wz_8, ⟨by decide, by decide⟩, by decide +kernel⟩, rfl, win_X8_init⟩
def g_X8_init_9 (M : MM) : MM := M
theorem z_X8_init_9 {M : MM} (hZ : Zf M 10) : Zf (g_X8_init_9 M) 14 := (Zf.mono (Zf.mono (Zf.mono (Zf.mono hZ (Nat.le_succ _)) (Nat.le_succ _)) (Nat.le_succ _)) (Nat.le_succ _))
set_option maxRecDepth 8000 in
theorem ci_X8_init_9 {E : EE} {M : MM} (hZ : Zf M 10) : MetC E mi_X8_init_9 4 20 [rV 9] (TT 10, true, RT [(0, 2, 2), (2, 1, 5), (5, 0, 3), (5, 2, 7), (5, 1, 6), (2, 0, 3), (3, 1, 1), (3, 0, 4), (0, 0, 1)], M) (fun r w' => r = none ∧ w' = (TT 14, true, RT [(9, 4, 13), (9, 3, 12), (9, 2, 11), (9, 1, 10), (0, 2, 2), (2, 1, 5), (5, 0, 3), (5, 2, 7), (5, 1, 6), (2, 0, 3), (3, 1, 1), (3, 0, 4), (0, 0, 1)], g_X8_init_9 M)) := by
  refine MetC.seg (o := some ()) (x := ()) (t := (fun K _ => K none (TT 14, true, RT [(9, 4, 13), (9, 3, 12), (9, 2, 11), (9, 1, 10), (0, 2, 2), (2, 1, 5), (5, 0, 3), (5, 2, 7), (5, 1, 6), (2, 0, 3), (3, 1, 1), (3, 0, 4), (0, 0, 1)], g_X8_init_9 M))) (L := [some (rV 9)]) (by decide) rfl (Nat.le_of_ble_eq_true rfl) ?_ rfl ⟨rfl, rfl⟩
  refine Seg.step (pc' := 1) (I_aload_n (i := 0) dX8_init_0 rfl rfl) ?_
  refine Seg.step (pc' := 4) (I_oinit wm_8_3 wo_i wo_c (by decide) (Nat.le_of_ble_eq_true rfl) dX8_init_1) ?_
  refine Seg.step (pc' := 5) (I_aload_n (i := 0) dX8_init_4 rfl rfl) ?_
  refine Seg.step (pc' := 6) (I_iconst dX8_init_5 ⟨by decide, by decide⟩) ?_
  refine Seg.step (pc' := 8) (I_newaT (q := 50) (N := 5) (a := 10) (atype := .int) rfl rfl hZ (fun j => rfl) (by decide) rfl (by decide) wa_50 (by decide) (by decide) (by decide) dX8_init_6) ?_
  refine Seg.step (pc' := 11) (I_putR cls8 (by decide) wf_8_9 rfl rfl (Or.inr ⟨rfl, rfl, rfl⟩) dX8_init_8) ?_
  refine Seg.step (pc' := 12) (I_aload_n (i := 0) dX8_init_11 rfl rfl) ?_
  refine Seg.step (pc' := 13) (I_iconst dX8_init_12 ⟨by decide, by decide⟩) ?_
  refine Seg.step (pc' := 15) (I_newaT (q := 50) (N := 5) (a := 11) (atype := .int) rfl rfl (Zf.mono hZ (Nat.le_succ _)) (fun j => rfl) (by decide) rfl (by decide) wa_50 (by decide) (by decide) (by decide) dX8_init_13) ?_
  refine Seg.step (pc' := 18) (I_putR cls8 (by decide) wf_8_15 rfl rfl (Or.inr ⟨rfl, rfl, rfl⟩) dX8_init_15) ?_
  refine Seg.step (pc' := 19) (I_aload_n (i := 0) dX8_init_18 rfl rfl) ?_
  refine Seg.step (pc' := 20) (I_iconst dX8_init_19 ⟨by decide, by decide⟩) ?_
  refine Seg.step (pc' := 22) (I_newaT (q := 50) (N := 5) (a := 12) (atype := .int) rfl rfl (Zf.mono (Zf.mono hZ (Nat.le_succ _)) (Nat.le_succ _)) (fun j => rfl) (by decide) rfl (by decide) wa_50 (by decide) (by decide) (by decide) dX8_init_20) ?_
  refine Seg.step (pc' := 25) (I_putR cls8 (by decide) wf_8_18 rfl rfl (Or.inr ⟨rfl, rfl, rfl⟩) dX8_init_22) ?_
  refine Seg.step (pc' := 26) (I_aload_n (i := 0) dX8_init_25 rfl rfl) ?_
  refine Seg.step (pc' := 27) (I_iconst dX8_init_26 ⟨by decide, by decide⟩) ?_
  refine Seg.step (pc' := 29) (I_newaT (q := 50) (N := 5) (a := 13) (atype := .int) rfl rfl (Zf.mono (Zf.mono (Zf.mono hZ (Nat.le_succ _)) (Nat.le_succ _)) (Nat.le_succ _)) (fun j => rfl) (by decide) rfl (by decide) wa_50 (by decide) (by decide) (by decide) dX8_init_27) ?_
  refine Seg.step (pc' := 32) (I_putR cls8 (by decide) wf_8_21 rfl rfl (Or.inr ⟨rfl, rfl, rfl⟩) dX8_init_29) ?_
  exact S_vret dX8_init_32 rfl (by decide) (by decide) (fun K hK => hK)
def mi_X6_init_14 : MD := (yX6_init, cX6_init, 1, none, { frames := 1, cells := 5, slots := 25, locals := 20 })
theorem mm_i_X6_init_14 : MdI mi_X6_init_14 0 := ⟨⟨wcd_X6_init, wz_6, ⟨by decide, by decide⟩, by decide +kernel⟩, rfl, win_X6_init⟩
def g_X6_init_14 (M : MM) : MM := M
theorem z_X6_init_14 {M : MM} (hZ : Zf M 15) : Zf (g_X6_init_14 M) 20 := (Zf.mono (Zf.mono (Zf.mono (Zf.mono (Zf.mono hZ (Nat.le_succ _)) (Nat.le_succ _)) (Nat.le_succ _)) (Nat.le_succ _)) (Nat.le_succ _))
set_option maxRecDepth 8000 in
theorem ci_X6_init_14 {E : EE} {M : MM} (hZ : Zf M 15) : MetC E mi_X6_init_14 5 25 [rV 14] (TT 15, true, RT [(8, 0, 9), (9, 4, 13), (9, 3, 12), (9, 2, 11), (9, 1, 10), (0, 2, 2), (2, 1, 5), (5, 0, 3), (5, 2, 7), (5, 1, 6), (2, 0, 3), (3, 1, 1), (3, 0, 4), (0, 0, 1)], M) (fun r w' => r = none ∧ w' = (TT 20, true, RT [(14, 5, 19), (14, 4, 18), (14, 3, 17), (14, 2, 16), (14, 1, 15), (8, 0, 9), (9, 4, 13), (9, 3, 12), (9, 2, 11), (9, 1, 10), (0, 2, 2), (2, 1, 5), (5, 0, 3), (5, 2, 7), (5, 1, 6), (2, 0, 3), (3, 1, 1), (3, 0, 4), (0, 0, 1)], g_X6_init_14 M)) := by
  refine MetC.seg (o := some ()) (x := ()) (t := (fun K _ => K none (TT 20, true, RT [(14, 5, 19), (14, 4, 18), (14, 3, 17), (14, 2, 16), (14, 1, 15), (8, 0, 9), (9, 4, 13), (9, 3, 12), (9, 2, 11), (9, 1, 10), (0, 2, 2), (2, 1, 5), (5, 0, 3), (5, 2, 7), (5, 1, 6), (2, 0, 3), (3, 1, 1), (3, 0, 4), (0, 0, 1)], g_X6_init_14 M))) (L := [some (rV 14)]) (by decide) rfl (Nat.le_of_ble_eq_true rfl) ?_ rfl ⟨rfl, rfl⟩
  refine Seg.step (pc' := 1) (I_aload_n (i := 0) dX6_init_0 rfl rfl) ?_
  refine Seg.step (pc' := 4) (I_oinit wm_6_3 wo_i wo_c (by decide) (Nat.le_of_ble_eq_true rfl) dX6_init_1) ?_
  refine Seg.step (pc' := 5) (I_aload_n (i := 0) dX6_init_4 rfl rfl) ?_
  refine Seg.step (pc' := 6) (I_iconst dX6_init_5 ⟨by decide, by decide⟩) ?_
  refine Seg.step (pc' := 8) (I_newaT (q := 50) (N := 5) (a := 15) (atype := .int) rfl rfl hZ (fun j => rfl) (by decide) rfl (by decide) wa_50 (by decide) (by decide) (by decide) dX6_init_6) ?_
  refine Seg.step (pc' := 11) (I_putR cls6 (by decide) wf_6_9 rfl rfl (Or.inr ⟨rfl, rfl, rfl⟩) dX6_init_8) ?_
  refine Seg.step (pc' := 12) (I_aload_n (i := 0) dX6_init_11 rfl rfl) ?_
  refine Seg.step (pc' := 13) (I_iconst dX6_init_12 ⟨by decide, by decide⟩) ?_
  refine Seg.step (pc' := 15) (I_newaT (q := 50) (N := 5) (a := 16) (atype := .int) rfl rfl (Zf.mono hZ (Nat.le_succ _)) (fun j => rfl) (by decide) rfl (by decide) wa_50 (by decide) (by decide) (by decide) dX6_init_13) ?_
  refine Seg.step (pc' := 18) (I_putR cls6 (by decide) wf_6_15 rfl rfl (Or.inr ⟨rfl, rfl, rfl⟩) dX6_init_15) ?_
  refine Seg.step (pc' := 19) (I_aload_n (i := 0) dX6_init_18 rfl rfl) ?_
  refine Seg.step (pc' := 20) (I_iconst dX6_init_19 ⟨by decide, by decide⟩) ?_
  refine Seg.step (pc' := 22) (I_newaT (q := 50) (N := 5) (a := 17) (atype := .int) rfl rfl (Zf.mono (Zf.mono hZ (Nat.le_succ _)) (Nat.le_succ _)) (fun j => rfl) (by decide) rfl (by decide) wa_50 (by decide) (by decide) (by decide) dX6_init_20) ?_
  refine Seg.step (pc' := 25) (I_putR cls6 (by decide) wf_6_18 rfl rfl (Or.inr ⟨rfl, rfl, rfl⟩) dX6_init_22) ?_
  refine Seg.step (pc' := 26) (I_aload_n (i := 0) dX6_init_25 rfl rfl) ?_
  refine Seg.step (pc' := 27) (I_iconst dX6_init_26 ⟨by decide, by decide⟩) ?_
  refine Seg.step (pc' := 29) (I_newaT (q := 50) (N := 5) (a := 18) (atype := .int) rfl rfl (Zf.mono (Zf.mono (Zf.mono hZ (Nat.le_succ _)) (Nat.le_succ _)) (Nat.le_succ _)) (fun j => rfl) (by decide) rfl (by decide) wa_50 (by decide) (by decide) (by decide) dX6_init_27) ?_
  refine Seg.step (pc' := 32) (I_putR cls6 (by decide) wf_6_21 rfl rfl (Or.inr ⟨rfl, rfl, rfl⟩) dX6_init_29) ?_
  refine Seg.step (pc' := 33) (I_aload_n (i := 0) dX6_init_32 rfl rfl) ?_
  refine Seg.step (pc' := 34) (I_iconst dX6_init_33 ⟨by decide, by decide⟩) ?_
  refine Seg.step (pc' := 36) (I_newaT (q := 50) (N := 5) (a := 19) (atype := .int) rfl rfl (Zf.mono (Zf.mono (Zf.mono (Zf.mono hZ (Nat.le_succ _)) (Nat.le_succ _)) (Nat.le_succ _)) (Nat.le_succ _)) (fun j => rfl) (by decide) rfl (by decide) wa_50 (by decide) (by decide) (by decide) dX6_init_34) ?_
  refine Seg.step (pc' := 39) (I_putR cls6 (by decide) wf_6_24 rfl rfl (Or.inr ⟨rfl, rfl, rfl⟩) dX6_init_36) ?_
  exact S_vret dX6_init_39 rfl (by decide) (by decide) (fun K hK => hK)
def mi_X3_init_20 : MD := (yX3_init, cX3_init, 1, none, { frames := 1, cells := 6, slots := 205, locals := 20 })
theorem mm_i_X3_init_20 : MdI mi_X3_init_20 0 := ⟨⟨wcd_X3_init, wz_3, ⟨by decide, by decide⟩, by decide +kernel⟩, rfl, win_X3_init⟩
def g_X3_init_20 (M : MM) : MM := M
theorem z_X3_init_20 {M : MM} (hZ : Zf M 21) : Zf (g_X3_init_20 M) 27 := (Zf.mono (Zf.mono (Zf.mono (Zf.mono (Zf.mono (Zf.mono hZ (Nat.le_succ _)) (Nat.le_succ _)) (Nat.le_succ _)) (Nat.le_succ _)) (Nat.le_succ _)) (Nat.le_succ _))
set_option maxRecDepth 8000 in
theorem ci_X3_init_20 {E : EE} {M : MM} (hZ : Zf M 21) : MetC E mi_X3_init_20 6 205 [rV 20] (TT 21, true, RT [(8, 1, 14), (14, 5, 19), (14, 4, 18), (14, 3, 17), (14, 2, 16), (14, 1, 15), (8, 0, 9), (9, 4, 13), (9, 3, 12), (9, 2, 11), (9, 1, 10), (0, 2, 2), (2, 1, 5), (5, 0, 3), (5, 2, 7), (5, 1, 6), (2, 0, 3), (3, 1, 1), (3, 0, 4), (0, 0, 1)], M) (fun r w' => r = none ∧ w' = (TT 27, true, RT [(20, 5, 26), (20, 4, 25), (20, 3, 24), (20, 2, 23), (20, 1, 22), (20, 0, 21), (8, 1, 14), (14, 5, 19), (14, 4, 18), (14, 3, 17), (14, 2, 16), (14, 1, 15), (8, 0, 9), (9, 4, 13), (9, 3, 12), (9, 2, 11), (9, 1, 10), (0, 2, 2), (2, 1, 5), (5, 0, 3), (5, 2, 7), (5, 1, 6), (2, 0, 3), (3, 1, 1), (3, 0, 4), (0, 0, 1)], g_X3_init_20 M)) := by
  refine MetC.seg (o := some ()) (x := ()) (t := (fun K _ => K none (TT 27, true, RT [(20, 5, 26), (20, 4, 25), (20, 3, 24), (20, 2, 23), (20, 1, 22), (20, 0, 21), (8, 1, 14), (14, 5, 19), (14, 4, 18), (14, 3, 17), (14, 2, 16), (14, 1, 15), (8, 0, 9), (9, 4, 13), (9, 3, 12), (9, 2, 11), (9, 1, 10), (0, 2, 2), (2, 1, 5), (5, 0, 3), (5, 2, 7), (5, 1, 6), (2, 0, 3), (3, 1, 1), (3, 0, 4), (0, 0, 1)], g_X3_init_20 M))) (L := [some (rV 20)]) (by decide) rfl (Nat.le_of_ble_eq_true rfl) ?_ rfl ⟨rfl, rfl⟩
  refine Seg.step (pc' := 1) (I_aload_n (i := 0) dX3_init_0 rfl rfl) ?_
  refine Seg.step (pc' := 4) (I_oinit wm_3_3 wo_i wo_c (by decide) (Nat.le_of_ble_eq_true rfl) dX3_init_1) ?_
  refine Seg.step (pc' := 5) (I_aload_n (i := 0) dX3_init_4 rfl rfl) ?_
  refine Seg.step (pc' := 7) (I_bipush dX3_init_5 (by decide) ⟨by decide, by decide⟩) ?_
  refine Seg.step (pc' := 9) (I_newaT (q := 50) (N := 64) (a := 21) (atype := .int) rfl rfl hZ (fun j => rfl) (by decide) rfl (by decide) wa_50 (by decide) (by decide) (by decide) dX3_init_7) ?_
  refine Seg.step (pc' := 12) (I_putR cls3 (by decide) wf_3_9 rfl rfl (Or.inr ⟨rfl, rfl, rfl⟩) dX3_init_9) ?_
  refine Seg.step (pc' := 13) (I_aload_n (i := 0) dX3_init_12 rfl rfl) ?_
  refine Seg.step (pc' := 15) (I_bipush dX3_init_13 (by decide) ⟨by decide, by decide⟩) ?_
  refine Seg.step (pc' := 17) (I_newaT (q := 50) (N := 64) (a := 22) (atype := .int) rfl rfl (Zf.mono hZ (Nat.le_succ _)) (fun j => rfl) (by decide) rfl (by decide) wa_50 (by decide) (by decide) (by decide) dX3_init_15) ?_
  refine Seg.step (pc' := 20) (I_putR cls3 (by decide) wf_3_15 rfl rfl (Or.inr ⟨rfl, rfl, rfl⟩) dX3_init_17) ?_
  refine Seg.step (pc' := 21) (I_aload_n (i := 0) dX3_init_20 rfl rfl) ?_
  refine Seg.step (pc' := 22) (I_iconst dX3_init_21 ⟨by decide, by decide⟩) ?_
  refine Seg.step (pc' := 24) (I_newaT (q := 50) (N := 3) (a := 23) (atype := .int) rfl rfl (Zf.mono (Zf.mono hZ (Nat.le_succ _)) (Nat.le_succ _)) (fun j => rfl) (by decide) rfl (by decide) wa_50 (by decide) (by decide) (by decide) dX3_init_22) ?_
  refine Seg.step (pc' := 27) (I_putR cls3 (by decide) wf_3_18 rfl rfl (Or.inr ⟨rfl, rfl, rfl⟩) dX3_init_24) ?_
  refine Seg.step (pc' := 28) (I_aload_n (i := 0) dX3_init_27 rfl rfl) ?_
  refine Seg.step (pc' := 29) (I_iconst dX3_init_28 ⟨by decide, by decide⟩) ?_
  refine Seg.step (pc' := 31) (I_newaT (q := 50) (N := 3) (a := 24) (atype := .int) rfl rfl (Zf.mono (Zf.mono (Zf.mono hZ (Nat.le_succ _)) (Nat.le_succ _)) (Nat.le_succ _)) (fun j => rfl) (by decide) rfl (by decide) wa_50 (by decide) (by decide) (by decide) dX3_init_29) ?_
  refine Seg.step (pc' := 34) (I_putR cls3 (by decide) wf_3_21 rfl rfl (Or.inr ⟨rfl, rfl, rfl⟩) dX3_init_31) ?_
  refine Seg.step (pc' := 35) (I_aload_n (i := 0) dX3_init_34 rfl rfl) ?_
  refine Seg.step (pc' := 37) (I_bipush dX3_init_35 (by decide) ⟨by decide, by decide⟩) ?_
  refine Seg.step (pc' := 39) (I_newaT (q := 53) (N := 64) (a := 25) (atype := .long) rfl rfl (Zf.mono (Zf.mono (Zf.mono (Zf.mono hZ (Nat.le_succ _)) (Nat.le_succ _)) (Nat.le_succ _)) (Nat.le_succ _)) (fun j => rfl) (by decide) rfl (by decide) wa_53 (by decide) (by decide) (by decide) dX3_init_37) ?_
  refine Seg.step (pc' := 42) (I_putR cls3 (by decide) wf_3_24 rfl rfl (Or.inr ⟨rfl, rfl, rfl⟩) dX3_init_39) ?_
  refine Seg.step (pc' := 43) (I_aload_n (i := 0) dX3_init_42 rfl rfl) ?_
  refine Seg.step (pc' := 45) (I_bipush dX3_init_43 (by decide) ⟨by decide, by decide⟩) ?_
  refine Seg.step (pc' := 47) (I_newaT (q := 50) (N := 7) (a := 26) (atype := .int) rfl rfl (Zf.mono (Zf.mono (Zf.mono (Zf.mono (Zf.mono hZ (Nat.le_succ _)) (Nat.le_succ _)) (Nat.le_succ _)) (Nat.le_succ _)) (Nat.le_succ _)) (fun j => rfl) (by decide) rfl (by decide) wa_50 (by decide) (by decide) (by decide) dX3_init_45) ?_
  refine Seg.step (pc' := 50) (I_putR cls3 (by decide) wf_3_28 rfl rfl (Or.inr ⟨rfl, rfl, rfl⟩) dX3_init_47) ?_
  exact S_vret dX3_init_50 rfl (by decide) (by decide) (fun K hK => hK)
def mi_X2_init_8 : MD := (yX2_init, cX2_init, 1, none, { frames := 2, cells := 22, slots := 289, locals := 40 })
theorem mm_i_X2_init_8 : MdI mi_X2_init_8 0 := ⟨⟨wcd_X2_init, wz_2, ⟨by decide, by decide⟩, by decide +kernel⟩, rfl, win_X2_init⟩
def g_X2_init_8 (M : MM) : MM := (upM (upM (g_X3_init_20 (g_X6_init_14 (g_X8_init_9 M))) 8 9 20) 8 11 3)
theorem z_X2_init_8 {M : MM} (hZ : Zf M 9) : Zf (g_X2_init_8 M) 31 := (Zf.up (Zf.up (Zf.mono (Zf.mono (Zf.mono (Zf.mono (z_X3_init_20 (Zf.mono (z_X6_init_14 (Zf.mono (z_X8_init_9 (Zf.mono hZ (Nat.le_succ _))) (Nat.le_succ _))) (Nat.le_succ _))) (Nat.le_succ _)) (Nat.le_succ _)) (Nat.le_succ _)) (Nat.le_succ _)) (by decide)) (by decide))
set_option maxRecDepth 8000 in
theorem ci_X2_init_8 {E : EE} {M : MM} (hZ : Zf M 9) : MetC E mi_X2_init_8 22 289 [rV 8] (TT 9, true, RT [(0, 2, 2), (2, 1, 5), (5, 0, 3), (5, 2, 7), (5, 1, 6), (2, 0, 3), (3, 1, 1), (3, 0, 4), (0, 0, 1)], M) (fun r w' => r = none ∧ w' = (TT 31, true, RT [(8, 8, 30), (8, 6, 29), (8, 5, 28), (8, 4, 27), (8, 2, 20), (20, 5, 26), (20, 4, 25), (20, 3, 24), (20, 2, 23), (20, 1, 22), (20, 0, 21), (8, 1, 14), (14, 5, 19), (14, 4, 18), (14, 3, 17), (14, 2, 16), (14, 1, 15), (8, 0, 9), (9, 4, 13), (9, 3, 12), (9, 2, 11), (9, 1, 10), (0, 2, 2), (2, 1, 5), (5, 0, 3), (5, 2, 7), (5, 1, 6), (2, 0, 3), (3, 1, 1), (3, 0, 4), (0, 0, 1)], g_X2_init_8 M)) := by
  refine MetC.seg (o := some ()) (x := ()) (t := (fun K _ => K none (TT 31, true, RT [(8, 8, 30), (8, 6, 29), (8, 5, 28), (8, 4, 27), (8, 2, 20), (20, 5, 26), (20, 4, 25), (20, 3, 24), (20, 2, 23), (20, 1, 22), (20, 0, 21), (8, 1, 14), (14, 5, 19), (14, 4, 18), (14, 3, 17), (14, 2, 16), (14, 1, 15), (8, 0, 9), (9, 4, 13), (9, 3, 12), (9, 2, 11), (9, 1, 10), (0, 2, 2), (2, 1, 5), (5, 0, 3), (5, 2, 7), (5, 1, 6), (2, 0, 3), (3, 1, 1), (3, 0, 4), (0, 0, 1)], g_X2_init_8 M))) (L := [some (rV 8)]) (by decide) rfl (Nat.le_of_ble_eq_true rfl) ?_ rfl ⟨rfl, rfl⟩
  refine Seg.step (pc' := 1) (I_aload_n (i := 0) dX2_init_0 rfl rfl) ?_
  refine Seg.step (pc' := 4) (I_oinit wm_2_3 wo_i wo_c (by decide) (Nat.le_of_ble_eq_true rfl) dX2_init_1) ?_
  refine Seg.step (pc' := 5) (I_aload_n (i := 0) dX2_init_4 rfl rfl) ?_
  refine Seg.step (pc' := 8) (I_newT (a := 9) rfl rfl hZ (fun j => rfl) cls8 (by decide +kernel) wc_2_9 wi_8 wz_8 (by decide) (by decide) dX2_init_5) ?_
  refine Seg.step (pc' := 9) (I_dup dX2_init_8 (fun _ h => by cases h)) ?_
  refine S_callJ0 (md' := mi_X8_init_9) (o1 := some ()) (kk := fun _ => some ()) (fun _ => none) (fun _ => (TT 14, true, RT [(9, 4, 13), (9, 3, 12), (9, 2, 11), (9, 1, 10), (0, 2, 2), (2, 1, 5), (5, 0, 3), (5, 2, 7), (5, 1, 6), (2, 0, 3), (3, 1, 1), (3, 0, 4), (0, 0, 1)], (g_X8_init_9 M))) mm_i_X8_init_9 rfl wn_2_11 ⟨rfl, rfl, by decide, by decide, by decide, by decide⟩ (Nat.le_of_ble_eq_true rfl) dX2_init_9 (fun _ _ => ci_X8_init_9 (Zf.mono hZ (Nat.le_succ _))) (fun _ => ?_)
  refine Seg.step (pc' := 15) (I_putR cls2 (by decide) wf_2_12 rfl rfl (Or.inr ⟨rfl, rfl, rfl⟩) dX2_init_12) ?_
  refine Seg.step (pc' := 16) (I_aload_n (i := 0) dX2_init_15 rfl rfl) ?_
  refine Seg.step (pc' := 19) (I_newT (a := 14) rfl rfl (z_X8_init_9 (Zf.mono hZ (Nat.le_succ _))) (fun j => rfl) cls6 (by decide +kernel) wc_2_18 wi_6 wz_6 (by decide) (by decide) dX2_init_16) ?_
  refine Seg.step (pc' := 20) (I_dup dX2_init_19 (fun _ h => by cases h)) ?_
  refine S_callJ0 (md' := mi_X6_init_14) (o1 := some ()) (kk := fun _ => some ()) (fun _ => none) (fun _ => (TT 20, true, RT [(14, 5, 19), (14, 4, 18), (14, 3, 17), (14, 2, 16), (14, 1, 15), (8, 0, 9), (9, 4, 13), (9, 3, 12), (9, 2, 11), (9, 1, 10), (0, 2, 2), (2, 1, 5), (5, 0, 3), (5, 2, 7), (5, 1, 6), (2, 0, 3), (3, 1, 1), (3, 0, 4), (0, 0, 1)], (g_X6_init_14 (g_X8_init_9 M)))) mm_i_X6_init_14 rfl wn_2_20 ⟨rfl, rfl, by decide, by decide, by decide, by decide⟩ (Nat.le_of_ble_eq_true rfl) dX2_init_20 (fun _ _ => ci_X6_init_14 (Zf.mono (z_X8_init_9 (Zf.mono hZ (Nat.le_succ _))) (Nat.le_succ _))) (fun _ => ?_)
  refine Seg.step (pc' := 26) (I_putR cls2 (by decide) wf_2_21 rfl rfl (Or.inr ⟨rfl, rfl, rfl⟩) dX2_init_23) ?_
  refine Seg.step (pc' := 27) (I_aload_n (i := 0) dX2_init_26 rfl rfl) ?_
  refine Seg.step (pc' := 30) (I_newT (a := 20) rfl rfl (z_X6_init_14 (Zf.mono (z_X8_init_9 (Zf.mono hZ (Nat.le_succ _))) (Nat.le_succ _))) (fun j => rfl) cls3 (by decide +kernel) wc_2_25 wi_3 wz_3 (by decide) (by decide) dX2_init_27) ?_
  refine Seg.step (pc' := 31) (I_dup dX2_init_30 (fun _ h => by cases h)) ?_
  refine S_callJ0 (md' := mi_X3_init_20) (o1 := some ()) (kk := fun _ => some ()) (fun _ => none) (fun _ => (TT 27, true, RT [(20, 5, 26), (20, 4, 25), (20, 3, 24), (20, 2, 23), (20, 1, 22), (20, 0, 21), (8, 1, 14), (14, 5, 19), (14, 4, 18), (14, 3, 17), (14, 2, 16), (14, 1, 15), (8, 0, 9), (9, 4, 13), (9, 3, 12), (9, 2, 11), (9, 1, 10), (0, 2, 2), (2, 1, 5), (5, 0, 3), (5, 2, 7), (5, 1, 6), (2, 0, 3), (3, 1, 1), (3, 0, 4), (0, 0, 1)], (g_X3_init_20 (g_X6_init_14 (g_X8_init_9 M))))) mm_i_X3_init_20 rfl wn_2_27 ⟨rfl, rfl, by decide, by decide, by decide, by decide⟩ (Nat.le_of_ble_eq_true rfl) dX2_init_31 (fun _ _ => ci_X3_init_20 (Zf.mono (z_X6_init_14 (Zf.mono (z_X8_init_9 (Zf.mono hZ (Nat.le_succ _))) (Nat.le_succ _))) (Nat.le_succ _))) (fun _ => ?_)
  refine Seg.step (pc' := 37) (I_putR cls2 (by decide) wf_2_28 rfl rfl (Or.inr ⟨rfl, rfl, rfl⟩) dX2_init_34) ?_
  refine Seg.step (pc' := 38) (I_aload_n (i := 0) dX2_init_37 rfl rfl) ?_
  refine Seg.step (pc' := 39) (I_iconst dX2_init_38 ⟨by decide, by decide⟩) ?_
  refine Seg.step (pc' := 41) (I_newaT (q := 50) (N := 4) (a := 27) (atype := .int) rfl rfl (z_X3_init_20 (Zf.mono (z_X6_init_14 (Zf.mono (z_X8_init_9 (Zf.mono hZ (Nat.le_succ _))) (Nat.le_succ _))) (Nat.le_succ _))) (fun j => rfl) (by decide) rfl (by decide) wa_50 (by decide) (by decide) (by decide) dX2_init_39) ?_
  refine Seg.step (pc' := 44) (I_putR cls2 (by decide) wf_2_32 rfl rfl (Or.inr ⟨rfl, rfl, rfl⟩) dX2_init_41) ?_
  refine Seg.step (pc' := 45) (I_aload_n (i := 0) dX2_init_44 rfl rfl) ?_
  refine Seg.step (pc' := 46) (I_iconst dX2_init_45 ⟨by decide, by decide⟩) ?_
  refine Seg.step (pc' := 48) (I_newaT (q := 50) (N := 4) (a := 28) (atype := .int) rfl rfl (Zf.mono (z_X3_init_20 (Zf.mono (z_X6_init_14 (Zf.mono (z_X8_init_9 (Zf.mono hZ (Nat.le_succ _))) (Nat.le_succ _))) (Nat.le_succ _))) (Nat.le_succ _)) (fun j => rfl) (by decide) rfl (by decide) wa_50 (by decide) (by decide) (by decide) dX2_init_46) ?_
  refine Seg.step (pc' := 51) (I_putR cls2 (by decide) wf_2_36 rfl rfl (Or.inr ⟨rfl, rfl, rfl⟩) dX2_init_48) ?_
  refine Seg.step (pc' := 52) (I_aload_n (i := 0) dX2_init_51 rfl rfl) ?_
  refine Seg.step (pc' := 53) (I_iconst dX2_init_52 ⟨by decide, by decide⟩) ?_
  refine Seg.step (pc' := 55) (I_newaT (q := 50) (N := 4) (a := 29) (atype := .int) rfl rfl (Zf.mono (Zf.mono (z_X3_init_20 (Zf.mono (z_X6_init_14 (Zf.mono (z_X8_init_9 (Zf.mono hZ (Nat.le_succ _))) (Nat.le_succ _))) (Nat.le_succ _))) (Nat.le_succ _)) (Nat.le_succ _)) (fun j => rfl) (by decide) rfl (by decide) wa_50 (by decide) (by decide) (by decide) dX2_init_53) ?_
  refine Seg.step (pc' := 58) (I_putR cls2 (by decide) wf_2_39 rfl rfl (Or.inr ⟨rfl, rfl, rfl⟩) dX2_init_55) ?_
  refine Seg.step (pc' := 59) (I_aload_n (i := 0) dX2_init_58 rfl rfl) ?_
  refine Seg.step (pc' := 61) (I_bipush dX2_init_59 (by decide) ⟨by decide, by decide⟩) ?_
  refine Seg.step (pc' := 63) (I_newaT (q := 50) (N := 8) (a := 30) (atype := .int) rfl rfl (Zf.mono (Zf.mono (Zf.mono (z_X3_init_20 (Zf.mono (z_X6_init_14 (Zf.mono (z_X8_init_9 (Zf.mono hZ (Nat.le_succ _))) (Nat.le_succ _))) (Nat.le_succ _))) (Nat.le_succ _)) (Nat.le_succ _)) (Nat.le_succ _)) (fun j => rfl) (by decide) rfl (by decide) wa_50 (by decide) (by decide) (by decide) dX2_init_61) ?_
  refine Seg.step (pc' := 66) (I_putR cls2 (by decide) wf_2_42 rfl rfl (Or.inr ⟨rfl, rfl, rfl⟩) dX2_init_63) ?_
  refine Seg.step (pc' := 67) (I_aload_n (i := 0) dX2_init_66 rfl rfl) ?_
  refine Seg.step (pc' := 69) (I_bipush dX2_init_67 (by decide) ⟨by decide, by decide⟩) ?_
  refine Seg.step (pc' := 72) (I_putI cls2 (by decide) wf_2_45 rfl rfl rfl dX2_init_69) ?_
  refine Seg.step (pc' := 73) (I_aload_n (i := 0) dX2_init_72 rfl rfl) ?_
  refine Seg.step (pc' := 74) (I_iconst dX2_init_73 ⟨by decide, by decide⟩) ?_
  refine Seg.step (pc' := 77) (I_putI cls2 (by decide) wf_2_49 rfl rfl rfl dX2_init_74) ?_
  exact S_vret dX2_init_77 rfl (by decide) (by decide) (fun K hK => hK)
def mi_X8_init_32 : MD := (yX8_init, cX8_init, 1, none, { frames := 1, cells := 4, slots := 20, locals := 20 })
theorem mm_i_X8_init_32 : MdI mi_X8_init_32 0 := ⟨⟨wcd_X8_init, wz_8, ⟨by decide, by decide⟩, by decide +kernel⟩, rfl, win_X8_init⟩
def g_X8_init_32 (M : MM) : MM := M
theorem z_X8_init_32 {M : MM} (hZ : Zf M 33) : Zf (g_X8_init_32 M) 37 := (Zf.mono (Zf.mono (Zf.mono (Zf.mono hZ (Nat.le_succ _)) (Nat.le_succ _)) (Nat.le_succ _)) (Nat.le_succ _))
set_option maxRecDepth 8000 in
theorem ci_X8_init_32 {E : EE} {M : MM} (hZ : Zf M 33) : MetC E mi_X8_init_32 4 20 [rV 32] (TT 33, true, RT [(8, 8, 30), (8, 6, 29), (8, 5, 28), (8, 4, 27), (8, 2, 20), (20, 5, 26), (20, 4, 25), (20, 3, 24), (20, 2, 23), (20, 1, 22), (20, 0, 21), (8, 1, 14), (14, 5, 19), (14, 4, 18), (14, 3, 17), (14, 2, 16), (14, 1, 15), (8, 0, 9), (9, 4, 13), (9, 3, 12), (9, 2, 11), (9, 1, 10), (0, 2, 2), (2, 1, 5), (5, 0, 3), (5, 2, 7), (5, 1, 6), (2, 0, 3), (3, 1, 1), (3, 0, 4), (0, 0, 1)], M) (fun r w' => r = none ∧ w' = (TT 37, true, RT [(32, 4, 36), (32, 3, 35), (32, 2, 34), (32, 1, 33), (8, 8, 30), (8, 6, 29), (8, 5, 28), (8, 4, 27), (8, 2, 20), (20, 5, 26), (20, 4, 25), (20, 3, 24), (20, 2, 23), (20, 1, 22), (20, 0, 21), (8, 1, 14), (14, 5, 19), (14, 4, 18), (14, 3, 17), (14, 2, 16), (14, 1, 15), (8, 0, 9), (9, 4, 13), (9, 3, 12), (9, 2, 11), (9, 1, 10), (0, 2, 2), (2, 1, 5), (5, 0, 3), (5, 2, 7), (5, 1, 6), (2, 0, 3), (3, 1, 1), (3, 0, 4), (0, 0, 1)], g_X8_init_32 M)) := by
  refine MetC.seg (o := some ()) (x := ()) (t := (fun K _ => K none (TT 37, true, RT [(32, 4, 36), (32, 3, 35), (32, 2, 34), (32, 1, 33), (8, 8, 30), (8, 6, 29), (8, 5, 28), (8, 4, 27), (8, 2, 20), (20, 5, 26), (20, 4, 25), (20, 3, 24), (20, 2, 23), (20, 1, 22), (20, 0, 21), (8, 1, 14), (14, 5, 19), (14, 4, 18), (14, 3, 17), (14, 2, 16), (14, 1, 15), (8, 0, 9), (9, 4, 13), (9, 3, 12), (9, 2, 11), (9, 1, 10), (0, 2, 2), (2, 1, 5), (5, 0, 3), (5, 2, 7), (5, 1, 6), (2, 0, 3), (3, 1, 1), (3, 0, 4), (0, 0, 1)], g_X8_init_32 M))) (L := [some (rV 32)]) (by decide) rfl (Nat.le_of_ble_eq_true rfl) ?_ rfl ⟨rfl, rfl⟩
  refine Seg.step (pc' := 1) (I_aload_n (i := 0) dX8_init_0 rfl rfl) ?_
  refine Seg.step (pc' := 4) (I_oinit wm_8_3 wo_i wo_c (by decide) (Nat.le_of_ble_eq_true rfl) dX8_init_1) ?_
  refine Seg.step (pc' := 5) (I_aload_n (i := 0) dX8_init_4 rfl rfl) ?_
  refine Seg.step (pc' := 6) (I_iconst dX8_init_5 ⟨by decide, by decide⟩) ?_
  refine Seg.step (pc' := 8) (I_newaT (q := 50) (N := 5) (a := 33) (atype := .int) rfl rfl hZ (fun j => rfl) (by decide) rfl (by decide) wa_50 (by decide) (by decide) (by decide) dX8_init_6) ?_
  refine Seg.step (pc' := 11) (I_putR cls8 (by decide) wf_8_9 rfl rfl (Or.inr ⟨rfl, rfl, rfl⟩) dX8_init_8) ?_
  refine Seg.step (pc' := 12) (I_aload_n (i := 0) dX8_init_11 rfl rfl) ?_
  refine Seg.step (pc' := 13) (I_iconst dX8_init_12 ⟨by decide, by decide⟩) ?_
  refine Seg.step (pc' := 15) (I_newaT (q := 50) (N := 5) (a := 34) (atype := .int) rfl rfl (Zf.mono hZ (Nat.le_succ _)) (fun j => rfl) (by decide) rfl (by decide) wa_50 (by decide) (by decide) (by decide) dX8_init_13) ?_
  refine Seg.step (pc' := 18) (I_putR cls8 (by decide) wf_8_15 rfl rfl (Or.inr ⟨rfl, rfl, rfl⟩) dX8_init_15) ?_
  refine Seg.step (pc' := 19) (I_aload_n (i := 0) dX8_init_18 rfl rfl) ?_
  refine Seg.step (pc' := 20) (I_iconst dX8_init_19 ⟨by decide, by decide⟩) ?_
  refine Seg.step (pc' := 22) (I_newaT (q := 50) (N := 5) (a := 35) (atype := .int) rfl rfl (Zf.mono (Zf.mono hZ (Nat.le_succ _)) (Nat.le_succ _)) (fun j => rfl) (by decide) rfl (by decide) wa_50 (by decide) (by decide) (by decide) dX8_init_20) ?_
  refine Seg.step (pc' := 25) (I_putR cls8 (by decide) wf_8_18 rfl rfl (Or.inr ⟨rfl, rfl, rfl⟩) dX8_init_22) ?_
  refine Seg.step (pc' := 26) (I_aload_n (i := 0) dX8_init_25 rfl rfl) ?_
  refine Seg.step (pc' := 27) (I_iconst dX8_init_26 ⟨by decide, by decide⟩) ?_
  refine Seg.step (pc' := 29) (I_newaT (q := 50) (N := 5) (a := 36) (atype := .int) rfl rfl (Zf.mono (Zf.mono (Zf.mono hZ (Nat.le_succ _)) (Nat.le_succ _)) (Nat.le_succ _)) (fun j => rfl) (by decide) rfl (by decide) wa_50 (by decide) (by decide) (by decide) dX8_init_27) ?_
  refine Seg.step (pc' := 32) (I_putR cls8 (by decide) wf_8_21 rfl rfl (Or.inr ⟨rfl, rfl, rfl⟩) dX8_init_29) ?_
  exact S_vret dX8_init_32 rfl (by decide) (by decide) (fun K hK => hK)
def mi_X6_init_37 : MD := (yX6_init, cX6_init, 1, none, { frames := 1, cells := 5, slots := 25, locals := 20 })
theorem mm_i_X6_init_37 : MdI mi_X6_init_37 0 := ⟨⟨wcd_X6_init, wz_6, ⟨by decide, by decide⟩, by decide +kernel⟩, rfl, win_X6_init⟩
def g_X6_init_37 (M : MM) : MM := M
theorem z_X6_init_37 {M : MM} (hZ : Zf M 38) : Zf (g_X6_init_37 M) 43 := (Zf.mono (Zf.mono (Zf.mono (Zf.mono (Zf.mono hZ (Nat.le_succ _)) (Nat.le_succ _)) (Nat.le_succ _)) (Nat.le_succ _)) (Nat.le_succ _))
set_option maxRecDepth 8000 in
theorem ci_X6_init_37 {E : EE} {M : MM} (hZ : Zf M 38) : MetC E mi_X6_init_37 5 25 [rV 37] (TT 38, true, RT [(31, 0, 32), (32, 4, 36), (32, 3, 35), (32, 2, 34), (32, 1, 33), (8, 8, 30), (8, 6, 29), (8, 5, 28), (8, 4, 27), (8, 2, 20), (20, 5, 26), (20, 4, 25), (20, 3, 24), (20, 2, 23), (20, 1, 22), (20, 0, 21), (8, 1, 14), (14, 5, 19), (14, 4, 18), (14, 3, 17), (14, 2, 16), (14, 1, 15), (8, 0, 9), (9, 4, 13), (9, 3, 12), (9, 2, 11), (9, 1, 10), (0, 2, 2), (2, 1, 5), (5, 0, 3), (5, 2, 7), (5, 1, 6), (2, 0, 3), (3, 1, 1), (3, 0, 4), (0, 0, 1)], M) (fun r w' => r = none ∧ w' = (TT 43, true, RT [(37, 5, 42), (37, 4, 41), (37, 3, 40), (37, 2, 39), (37, 1, 38), (31, 0, 32), (32, 4, 36), (32, 3, 35), (32, 2, 34), (32, 1, 33), (8, 8, 30), (8, 6, 29), (8, 5, 28), (8, 4, 27), (8, 2, 20), (20, 5, 26), (20, 4, 25), (20, 3, 24), (20, 2, 23), (20, 1, 22), (20, 0, 21), (8, 1, 14), (14, 5, 19), (14, 4, 18), (14, 3, 17), (14, 2, 16), (14, 1, 15), (8, 0, 9), (9, 4, 13), (9, 3, 12), (9, 2, 11), (9, 1, 10), (0, 2, 2), (2, 1, 5), (5, 0, 3), (5, 2, 7), (5, 1, 6), (2, 0, 3), (3, 1, 1), (3, 0, 4), (0, 0, 1)], g_X6_init_37 M)) := by
  refine MetC.seg (o := some ()) (x := ()) (t := (fun K _ => K none (TT 43, true, RT [(37, 5, 42), (37, 4, 41), (37, 3, 40), (37, 2, 39), (37, 1, 38), (31, 0, 32), (32, 4, 36), (32, 3, 35), (32, 2, 34), (32, 1, 33), (8, 8, 30), (8, 6, 29), (8, 5, 28), (8, 4, 27), (8, 2, 20), (20, 5, 26), (20, 4, 25), (20, 3, 24), (20, 2, 23), (20, 1, 22), (20, 0, 21), (8, 1, 14), (14, 5, 19), (14, 4, 18), (14, 3, 17), (14, 2, 16), (14, 1, 15), (8, 0, 9), (9, 4, 13), (9, 3, 12), (9, 2, 11), (9, 1, 10), (0, 2, 2), (2, 1, 5), (5, 0, 3), (5, 2, 7), (5, 1, 6), (2, 0, 3), (3, 1, 1), (3, 0, 4), (0, 0, 1)], g_X6_init_37 M))) (L := [some (rV 37)]) (by decide) rfl (Nat.le_of_ble_eq_true rfl) ?_ rfl ⟨rfl, rfl⟩
  refine Seg.step (pc' := 1) (I_aload_n (i := 0) dX6_init_0 rfl rfl) ?_
  refine Seg.step (pc' := 4) (I_oinit wm_6_3 wo_i wo_c (by decide) (Nat.le_of_ble_eq_true rfl) dX6_init_1) ?_
  refine Seg.step (pc' := 5) (I_aload_n (i := 0) dX6_init_4 rfl rfl) ?_
  refine Seg.step (pc' := 6) (I_iconst dX6_init_5 ⟨by decide, by decide⟩) ?_
  refine Seg.step (pc' := 8) (I_newaT (q := 50) (N := 5) (a := 38) (atype := .int) rfl rfl hZ (fun j => rfl) (by decide) rfl (by decide) wa_50 (by decide) (by decide) (by decide) dX6_init_6) ?_
  refine Seg.step (pc' := 11) (I_putR cls6 (by decide) wf_6_9 rfl rfl (Or.inr ⟨rfl, rfl, rfl⟩) dX6_init_8) ?_
  refine Seg.step (pc' := 12) (I_aload_n (i := 0) dX6_init_11 rfl rfl) ?_
  refine Seg.step (pc' := 13) (I_iconst dX6_init_12 ⟨by decide, by decide⟩) ?_
  refine Seg.step (pc' := 15) (I_newaT (q := 50) (N := 5) (a := 39) (atype := .int) rfl rfl (Zf.mono hZ (Nat.le_succ _)) (fun j => rfl) (by decide) rfl (by decide) wa_50 (by decide) (by decide) (by decide) dX6_init_13) ?_
  refine Seg.step (pc' := 18) (I_putR cls6 (by decide) wf_6_15 rfl rfl (Or.inr ⟨rfl, rfl, rfl⟩) dX6_init_15) ?_
  refine Seg.step (pc' := 19) (I_aload_n (i := 0) dX6_init_18 rfl rfl) ?_
  refine Seg.step (pc' := 20) (I_iconst dX6_init_19 ⟨by decide, by decide⟩) ?_
  refine Seg.step (pc' := 22) (I_newaT (q := 50) (N := 5) (a := 40) (atype := .int) rfl rfl (Zf.mono (Zf.mono hZ (Nat.le_succ _)) (Nat.le_succ _)) (fun j => rfl) (by decide) rfl (by decide) wa_50 (by decide) (by decide) (by decide) dX6_init_20) ?_
  refine Seg.step (pc' := 25) (I_putR cls6 (by decide) wf_6_18 rfl rfl (Or.inr ⟨rfl, rfl, rfl⟩) dX6_init_22) ?_
  refine Seg.step (pc' := 26) (I_aload_n (i := 0) dX6_init_25 rfl rfl) ?_
  refine Seg.step (pc' := 27) (I_iconst dX6_init_26 ⟨by decide, by decide⟩) ?_
  refine Seg.step (pc' := 29) (I_newaT (q := 50) (N := 5) (a := 41) (atype := .int) rfl rfl (Zf.mono (Zf.mono (Zf.mono hZ (Nat.le_succ _)) (Nat.le_succ _)) (Nat.le_succ _)) (fun j => rfl) (by decide) rfl (by decide) wa_50 (by decide) (by decide) (by decide) dX6_init_27) ?_
  refine Seg.step (pc' := 32) (I_putR cls6 (by decide) wf_6_21 rfl rfl (Or.inr ⟨rfl, rfl, rfl⟩) dX6_init_29) ?_
  refine Seg.step (pc' := 33) (I_aload_n (i := 0) dX6_init_32 rfl rfl) ?_
  refine Seg.step (pc' := 34) (I_iconst dX6_init_33 ⟨by decide, by decide⟩) ?_
  refine Seg.step (pc' := 36) (I_newaT (q := 50) (N := 5) (a := 42) (atype := .int) rfl rfl (Zf.mono (Zf.mono (Zf.mono (Zf.mono hZ (Nat.le_succ _)) (Nat.le_succ _)) (Nat.le_succ _)) (Nat.le_succ _)) (fun j => rfl) (by decide) rfl (by decide) wa_50 (by decide) (by decide) (by decide) dX6_init_34) ?_
  refine Seg.step (pc' := 39) (I_putR cls6 (by decide) wf_6_24 rfl rfl (Or.inr ⟨rfl, rfl, rfl⟩) dX6_init_36) ?_
  exact S_vret dX6_init_39 rfl (by decide) (by decide) (fun K hK => hK)
def mi_X3_init_43 : MD := (yX3_init, cX3_init, 1, none, { frames := 1, cells := 6, slots := 205, locals := 20 })
theorem mm_i_X3_init_43 : MdI mi_X3_init_43 0 := ⟨⟨wcd_X3_init, wz_3, ⟨by decide, by decide⟩, by decide +kernel⟩, rfl, win_X3_init⟩
def g_X3_init_43 (M : MM) : MM := M
theorem z_X3_init_43 {M : MM} (hZ : Zf M 44) : Zf (g_X3_init_43 M) 50 := (Zf.mono (Zf.mono (Zf.mono (Zf.mono (Zf.mono (Zf.mono hZ (Nat.le_succ _)) (Nat.le_succ _)) (Nat.le_succ _)) (Nat.le_succ _)) (Nat.le_succ _)) (Nat.le_succ _))
set_option maxRecDepth 8000 in
theorem ci_X3_init_43 {E : EE} {M : MM} (hZ : Zf M 44) : MetC E mi_X3_init_43 6 205 [rV 43] (TT 44, true, RT [(31, 1, 37), (37, 5, 42), (37, 4, 41), (37, 3, 40), (37, 2, 39), (37, 1, 38), (31, 0, 32), (32, 4, 36), (32, 3, 35), (32, 2, 34), (32, 1, 33), (8, 8, 30), (8, 6, 29), (8, 5, 28), (8, 4, 27), (8, 2, 20), (20, 5, 26), (20, 4, 25), (20, 3, 24), (20, 2, 23), (20, 1, 22), (20, 0, 21), (8, 1, 14), (14, 5, 19), (14, 4, 18), (14, 3, 17), (14, 2, 16), (14, 1, 15), (8, 0, 9), (9, 4, 13), (9, 3, 12), (9, 2, 11), (9, 1, 10), (0, 2, 2), (2, 1, 5), (5, 0, 3), (5, 2, 7), (5, 1, 6), (2, 0, 3), (3, 1, 1), (3, 0, 4), (0, 0, 1)], M) (fun r w' => r = none ∧ w' = (TT 50, true, RT [(43, 5, 49), (43, 4, 48), (43, 3, 47), (43, 2, 46), (43, 1, 45), (43, 0, 44), (31, 1, 37), (37, 5, 42), (37, 4, 41), (37, 3, 40), (37, 2, 39), (37, 1, 38), (31, 0, 32), (32, 4, 36), (32, 3, 35), (32, 2, 34), (32, 1, 33), (8, 8, 30), (8, 6, 29), (8, 5, 28), (8, 4, 27), (8, 2, 20), (20, 5, 26), (20, 4, 25), (20, 3, 24), (20, 2, 23), (20, 1, 22), (20, 0, 21), (8, 1, 14), (14, 5, 19), (14, 4, 18), (14, 3, 17), (14, 2, 16), (14, 1, 15), (8, 0, 9), (9, 4, 13), (9, 3, 12), (9, 2, 11), (9, 1, 10), (0, 2, 2), (2, 1, 5), (5, 0, 3), (5, 2, 7), (5, 1, 6), (2, 0, 3), (3, 1, 1), (3, 0, 4), (0, 0, 1)], g_X3_init_43 M)) := by
  refine MetC.seg (o := some ()) (x := ()) (t := (fun K _ => K none (TT 50, true, RT [(43, 5, 49), (43, 4, 48), (43, 3, 47), (43, 2, 46), (43, 1, 45), (43, 0, 44), (31, 1, 37), (37, 5, 42), (37, 4, 41), (37, 3, 40), (37, 2, 39), (37, 1, 38), (31, 0, 32), (32, 4, 36), (32, 3, 35), (32, 2, 34), (32, 1, 33), (8, 8, 30), (8, 6, 29), (8, 5, 28), (8, 4, 27), (8, 2, 20), (20, 5, 26), (20, 4, 25), (20, 3, 24), (20, 2, 23), (20, 1, 22), (20, 0, 21), (8, 1, 14), (14, 5, 19), (14, 4, 18), (14, 3, 17), (14, 2, 16), (14, 1, 15), (8, 0, 9), (9, 4, 13), (9, 3, 12), (9, 2, 11), (9, 1, 10), (0, 2, 2), (2, 1, 5), (5, 0, 3), (5, 2, 7), (5, 1, 6), (2, 0, 3), (3, 1, 1), (3, 0, 4), (0, 0, 1)], g_X3_init_43 M))) (L := [some (rV 43)]) (by decide) rfl (Nat.le_of_ble_eq_true rfl) ?_ rfl ⟨rfl, rfl⟩
  refine Seg.step (pc' := 1) (I_aload_n (i := 0) dX3_init_0 rfl rfl) ?_
  refine Seg.step (pc' := 4) (I_oinit wm_3_3 wo_i wo_c (by decide) (Nat.le_of_ble_eq_true rfl) dX3_init_1) ?_
  refine Seg.step (pc' := 5) (I_aload_n (i := 0) dX3_init_4 rfl rfl) ?_
  refine Seg.step (pc' := 7) (I_bipush dX3_init_5 (by decide) ⟨by decide, by decide⟩) ?_
  refine Seg.step (pc' := 9) (I_newaT (q := 50) (N := 64) (a := 44) (atype := .int) rfl rfl hZ (fun j => rfl) (by decide) rfl (by decide) wa_50 (by decide) (by decide) (by decide) dX3_init_7) ?_
  refine Seg.step (pc' := 12) (I_putR cls3 (by decide) wf_3_9 rfl rfl (Or.inr ⟨rfl, rfl, rfl⟩) dX3_init_9) ?_
  refine Seg.step (pc' := 13) (I_aload_n (i := 0) dX3_init_12 rfl rfl) ?_
  refine Seg.step (pc' := 15) (I_bipush dX3_init_13 (by decide) ⟨by decide, by decide⟩) ?_
  refine Seg.step (pc' := 17) (I_newaT (q := 50) (N := 64) (a := 45) (atype := .int) rfl rfl (Zf.mono hZ (Nat.le_succ _)) (fun j => rfl) (by decide) rfl (by decide) wa_50 (by decide) (by decide) (by decide) dX3_init_15) ?_
  refine Seg.step (pc' := 20) (I_putR cls3 (by decide) wf_3_15 rfl rfl (Or.inr ⟨rfl, rfl, rfl⟩) dX3_init_17) ?_
  refine Seg.step (pc' := 21) (I_aload_n (i := 0) dX3_init_20 rfl rfl) ?_
  refine Seg.step (pc' := 22) (I_iconst dX3_init_21 ⟨by decide, by decide⟩) ?_
  refine Seg.step (pc' := 24) (I_newaT (q := 50) (N := 3) (a := 46) (atype := .int) rfl rfl (Zf.mono (Zf.mono hZ (Nat.le_succ _)) (Nat.le_succ _)) (fun j => rfl) (by decide) rfl (by decide) wa_50 (by decide) (by decide) (by decide) dX3_init_22) ?_
  refine Seg.step (pc' := 27) (I_putR cls3 (by decide) wf_3_18 rfl rfl (Or.inr ⟨rfl, rfl, rfl⟩) dX3_init_24) ?_
  refine Seg.step (pc' := 28) (I_aload_n (i := 0) dX3_init_27 rfl rfl) ?_
  refine Seg.step (pc' := 29) (I_iconst dX3_init_28 ⟨by decide, by decide⟩) ?_
  refine Seg.step (pc' := 31) (I_newaT (q := 50) (N := 3) (a := 47) (atype := .int) rfl rfl (Zf.mono (Zf.mono (Zf.mono hZ (Nat.le_succ _)) (Nat.le_succ _)) (Nat.le_succ _)) (fun j => rfl) (by decide) rfl (by decide) wa_50 (by decide) (by decide) (by decide) dX3_init_29) ?_
  refine Seg.step (pc' := 34) (I_putR cls3 (by decide) wf_3_21 rfl rfl (Or.inr ⟨rfl, rfl, rfl⟩) dX3_init_31) ?_
  refine Seg.step (pc' := 35) (I_aload_n (i := 0) dX3_init_34 rfl rfl) ?_
  refine Seg.step (pc' := 37) (I_bipush dX3_init_35 (by decide) ⟨by decide, by decide⟩) ?_
  refine Seg.step (pc' := 39) (I_newaT (q := 53) (N := 64) (a := 48) (atype := .long) rfl rfl (Zf.mono (Zf.mono (Zf.mono (Zf.mono hZ (Nat.le_succ _)) (Nat.le_succ _)) (Nat.le_succ _)) (Nat.le_succ _)) (fun j => rfl) (by decide) rfl (by decide) wa_53 (by decide) (by decide) (by decide) dX3_init_37) ?_
  refine Seg.step (pc' := 42) (I_putR cls3 (by decide) wf_3_24 rfl rfl (Or.inr ⟨rfl, rfl, rfl⟩) dX3_init_39) ?_
  refine Seg.step (pc' := 43) (I_aload_n (i := 0) dX3_init_42 rfl rfl) ?_
  refine Seg.step (pc' := 45) (I_bipush dX3_init_43 (by decide) ⟨by decide, by decide⟩) ?_
  refine Seg.step (pc' := 47) (I_newaT (q := 50) (N := 7) (a := 49) (atype := .int) rfl rfl (Zf.mono (Zf.mono (Zf.mono (Zf.mono (Zf.mono hZ (Nat.le_succ _)) (Nat.le_succ _)) (Nat.le_succ _)) (Nat.le_succ _)) (Nat.le_succ _)) (fun j => rfl) (by decide) rfl (by decide) wa_50 (by decide) (by decide) (by decide) dX3_init_45) ?_
  refine Seg.step (pc' := 50) (I_putR cls3 (by decide) wf_3_28 rfl rfl (Or.inr ⟨rfl, rfl, rfl⟩) dX3_init_47) ?_
  exact S_vret dX3_init_50 rfl (by decide) (by decide) (fun K hK => hK)
def mi_X2_init_31 : MD := (yX2_init, cX2_init, 1, none, { frames := 2, cells := 22, slots := 289, locals := 40 })
theorem mm_i_X2_init_31 : MdI mi_X2_init_31 0 := ⟨⟨wcd_X2_init, wz_2, ⟨by decide, by decide⟩, by decide +kernel⟩, rfl, win_X2_init⟩
def g_X2_init_31 (M : MM) : MM := (upM (upM (g_X3_init_43 (g_X6_init_37 (g_X8_init_32 M))) 31 9 20) 31 11 3)
theorem z_X2_init_31 {M : MM} (hZ : Zf M 32) : Zf (g_X2_init_31 M) 54 := (Zf.up (Zf.up (Zf.mono (Zf.mono (Zf.mono (Zf.mono (z_X3_init_43 (Zf.mono (z_X6_init_37 (Zf.mono (z_X8_init_32 (Zf.mono hZ (Nat.le_succ _))) (Nat.le_succ _))) (Nat.le_succ _))) (Nat.le_succ _)) (Nat.le_succ _)) (Nat.le_succ _)) (Nat.le_succ _)) (by decide)) (by decide))
set_option maxRecDepth 8000 in
theorem ci_X2_init_31 {E : EE} {M : MM} (hZ : Zf M 32) : MetC E mi_X2_init_31 22 289 [rV 31] (TT 32, true, RT [(8, 8, 30), (8, 6, 29), (8, 5, 28), (8, 4, 27), (8, 2, 20), (20, 5, 26), (20, 4, 25), (20, 3, 24), (20, 2, 23), (20, 1, 22), (20, 0, 21), (8, 1, 14), (14, 5, 19), (14, 4, 18), (14, 3, 17), (14, 2, 16), (14, 1, 15), (8, 0, 9), (9, 4, 13), (9, 3, 12), (9, 2, 11), (9, 1, 10), (0, 2, 2), (2, 1, 5), (5, 0, 3), (5, 2, 7), (5, 1, 6), (2, 0, 3), (3, 1, 1), (3, 0, 4), (0, 0, 1)], M) (fun r w' => r = none ∧ w' = (TT 54, true, RT [(31, 8, 53), (31, 6, 52), (31, 5, 51), (31, 4, 50), (31, 2, 43), (43, 5, 49), (43, 4, 48), (43, 3, 47), (43, 2, 46), (43, 1, 45), (43, 0, 44), (31, 1, 37), (37, 5, 42), (37, 4, 41), (37, 3, 40), (37, 2, 39), (37, 1, 38), (31, 0, 32), (32, 4, 36), (32, 3, 35), (32, 2, 34), (32, 1, 33), (8, 8, 30), (8, 6, 29), (8, 5, 28), (8, 4, 27), (8, 2, 20), (20, 5, 26), (20, 4, 25), (20, 3, 24), (20, 2, 23), (20, 1, 22), (20, 0, 21), (8, 1, 14), (14, 5, 19), (14, 4, 18), (14, 3, 17), (14, 2, 16), (14, 1, 15), (8, 0, 9), (9, 4, 13), (9, 3, 12), (9, 2, 11), (9, 1, 10), (0, 2, 2), (2, 1, 5), (5, 0, 3), (5, 2, 7), (5, 1, 6), (2, 0, 3), (3, 1, 1), (3, 0, 4), (0, 0, 1)], g_X2_init_31 M)) := by
  refine MetC.seg (o := some ()) (x := ()) (t := (fun K _ => K none (TT 54, true, RT [(31, 8, 53), (31, 6, 52), (31, 5, 51), (31, 4, 50), (31, 2, 43), (43, 5, 49), (43, 4, 48), (43, 3, 47), (43, 2, 46), (43, 1, 45), (43, 0, 44), (31, 1, 37), (37, 5, 42), (37, 4, 41), (37, 3, 40), (37, 2, 39), (37, 1, 38), (31, 0, 32), (32, 4, 36), (32, 3, 35), (32, 2, 34), (32, 1, 33), (8, 8, 30), (8, 6, 29), (8, 5, 28), (8, 4, 27), (8, 2, 20), (20, 5, 26), (20, 4, 25), (20, 3, 24), (20, 2, 23), (20, 1, 22), (20, 0, 21), (8, 1, 14), (14, 5, 19), (14, 4, 18), (14, 3, 17), (14, 2, 16), (14, 1, 15), (8, 0, 9), (9, 4, 13), (9, 3, 12), (9, 2, 11), (9, 1, 10), (0, 2, 2), (2, 1, 5), (5, 0, 3), (5, 2, 7), (5, 1, 6), (2, 0, 3), (3, 1, 1), (3, 0, 4), (0, 0, 1)], g_X2_init_31 M))) (L := [some (rV 31)]) (by decide) rfl (Nat.le_of_ble_eq_true rfl) ?_ rfl ⟨rfl, rfl⟩
  refine Seg.step (pc' := 1) (I_aload_n (i := 0) dX2_init_0 rfl rfl) ?_
  refine Seg.step (pc' := 4) (I_oinit wm_2_3 wo_i wo_c (by decide) (Nat.le_of_ble_eq_true rfl) dX2_init_1) ?_
  refine Seg.step (pc' := 5) (I_aload_n (i := 0) dX2_init_4 rfl rfl) ?_
  refine Seg.step (pc' := 8) (I_newT (a := 32) rfl rfl hZ (fun j => rfl) cls8 (by decide +kernel) wc_2_9 wi_8 wz_8 (by decide) (by decide) dX2_init_5) ?_
  refine Seg.step (pc' := 9) (I_dup dX2_init_8 (fun _ h => by cases h)) ?_
  refine S_callJ0 (md' := mi_X8_init_32) (o1 := some ()) (kk := fun _ => some ()) (fun _ => none) (fun _ => (TT 37, true, RT [(32, 4, 36), (32, 3, 35), (32, 2, 34), (32, 1, 33), (8, 8, 30), (8, 6, 29), (8, 5, 28), (8, 4, 27), (8, 2, 20), (20, 5, 26), (20, 4, 25), (20, 3, 24), (20, 2, 23), (20, 1, 22), (20, 0, 21), (8, 1, 14), (14, 5, 19), (14, 4, 18), (14, 3, 17), (14, 2, 16), (14, 1, 15), (8, 0, 9), (9, 4, 13), (9, 3, 12), (9, 2, 11), (9, 1, 10), (0, 2, 2), (2, 1, 5), (5, 0, 3), (5, 2, 7), (5, 1, 6), (2, 0, 3), (3, 1, 1), (3, 0, 4), (0, 0, 1)], (g_X8_init_32 M))) mm_i_X8_init_32 rfl wn_2_11 ⟨rfl, rfl, by decide, by decide, by decide, by decide⟩ (Nat.le_of_ble_eq_true rfl) dX2_init_9 (fun _ _ => ci_X8_init_32 (Zf.mono hZ (Nat.le_succ _))) (fun _ => ?_)
  refine Seg.step (pc' := 15) (I_putR cls2 (by decide) wf_2_12 rfl rfl (Or.inr ⟨rfl, rfl, rfl⟩) dX2_init_12) ?_
  refine Seg.step (pc' := 16) (I_aload_n (i := 0) dX2_init_15 rfl rfl) ?_
  refine Seg.step (pc' := 19) (I_newT (a := 37) rfl rfl (z_X8_init_32 (Zf.mono hZ (Nat.le_succ _))) (fun j => rfl) cls6 (by decide +kernel) wc_2_18 wi_6 wz_6 (by decide) (by decide) dX2_init_16) ?_
  refine Seg.step (pc' := 20) (I_dup dX2_init_19 (fun _ h => by cases h)) ?_
  refine S_callJ0 (md' := mi_X6_init_37) (o1 := some ()) (kk := fun _ => some ()) (fun _ => none) (fun _ => (TT 43, true, RT [(37, 5, 42), (37, 4, 41), (37, 3, 40), (37, 2, 39), (37, 1, 38), (31, 0, 32), (32, 4, 36), (32, 3, 35), (32, 2, 34), (32, 1, 33), (8, 8, 30), (8, 6, 29), (8, 5, 28), (8, 4, 27), (8, 2, 20), (20, 5, 26), (20, 4, 25), (20, 3, 24), (20, 2, 23), (20, 1, 22), (20, 0, 21), (8, 1, 14), (14, 5, 19), (14, 4, 18), (14, 3, 17), (14, 2, 16), (14, 1, 15), (8, 0, 9), (9, 4, 13), (9, 3, 12), (9, 2, 11), (9, 1, 10), (0, 2, 2), (2, 1, 5), (5, 0, 3), (5, 2, 7), (5, 1, 6), (2, 0, 3), (3, 1, 1), (3, 0, 4), (0, 0, 1)], (g_X6_init_37 (g_X8_init_32 M)))) mm_i_X6_init_37 rfl wn_2_20 ⟨rfl, rfl, by decide, by decide, by decide, by decide⟩ (Nat.le_of_ble_eq_true rfl) dX2_init_20 (fun _ _ => ci_X6_init_37 (Zf.mono (z_X8_init_32 (Zf.mono hZ (Nat.le_succ _))) (Nat.le_succ _))) (fun _ => ?_)
  refine Seg.step (pc' := 26) (I_putR cls2 (by decide) wf_2_21 rfl rfl (Or.inr ⟨rfl, rfl, rfl⟩) dX2_init_23) ?_
  refine Seg.step (pc' := 27) (I_aload_n (i := 0) dX2_init_26 rfl rfl) ?_
  refine Seg.step (pc' := 30) (I_newT (a := 43) rfl rfl (z_X6_init_37 (Zf.mono (z_X8_init_32 (Zf.mono hZ (Nat.le_succ _))) (Nat.le_succ _))) (fun j => rfl) cls3 (by decide +kernel) wc_2_25 wi_3 wz_3 (by decide) (by decide) dX2_init_27) ?_
  refine Seg.step (pc' := 31) (I_dup dX2_init_30 (fun _ h => by cases h)) ?_
  refine S_callJ0 (md' := mi_X3_init_43) (o1 := some ()) (kk := fun _ => some ()) (fun _ => none) (fun _ => (TT 50, true, RT [(43, 5, 49), (43, 4, 48), (43, 3, 47), (43, 2, 46), (43, 1, 45), (43, 0, 44), (31, 1, 37), (37, 5, 42), (37, 4, 41), (37, 3, 40), (37, 2, 39), (37, 1, 38), (31, 0, 32), (32, 4, 36), (32, 3, 35), (32, 2, 34), (32, 1, 33), (8, 8, 30), (8, 6, 29), (8, 5, 28), (8, 4, 27), (8, 2, 20), (20, 5, 26), (20, 4, 25), (20, 3, 24), (20, 2, 23), (20, 1, 22), (20, 0, 21), (8, 1, 14), (14, 5, 19), (14, 4, 18), (14, 3, 17), (14, 2, 16), (14, 1, 15), (8, 0, 9), (9, 4, 13), (9, 3, 12), (9, 2, 11), (9, 1, 10), (0, 2, 2), (2, 1, 5), (5, 0, 3), (5, 2, 7), (5, 1, 6), (2, 0, 3), (3, 1, 1), (3, 0, 4), (0, 0, 1)], (g_X3_init_43 (g_X6_init_37 (g_X8_init_32 M))))) mm_i_X3_init_43 rfl wn_2_27 ⟨rfl, rfl, by decide, by decide, by decide, by decide⟩ (Nat.le_of_ble_eq_true rfl) dX2_init_31 (fun _ _ => ci_X3_init_43 (Zf.mono (z_X6_init_37 (Zf.mono (z_X8_init_32 (Zf.mono hZ (Nat.le_succ _))) (Nat.le_succ _))) (Nat.le_succ _))) (fun _ => ?_)
  refine Seg.step (pc' := 37) (I_putR cls2 (by decide) wf_2_28 rfl rfl (Or.inr ⟨rfl, rfl, rfl⟩) dX2_init_34) ?_
  refine Seg.step (pc' := 38) (I_aload_n (i := 0) dX2_init_37 rfl rfl) ?_
  refine Seg.step (pc' := 39) (I_iconst dX2_init_38 ⟨by decide, by decide⟩) ?_
  refine Seg.step (pc' := 41) (I_newaT (q := 50) (N := 4) (a := 50) (atype := .int) rfl rfl (z_X3_init_43 (Zf.mono (z_X6_init_37 (Zf.mono (z_X8_init_32 (Zf.mono hZ (Nat.le_succ _))) (Nat.le_succ _))) (Nat.le_succ _))) (fun j => rfl) (by decide) rfl (by decide) wa_50 (by decide) (by decide) (by decide) dX2_init_39) ?_
  refine Seg.step (pc' := 44) (I_putR cls2 (by decide) wf_2_32 rfl rfl (Or.inr ⟨rfl, rfl, rfl⟩) dX2_init_41) ?_
  refine Seg.step (pc' := 45) (I_aload_n (i := 0) dX2_init_44 rfl rfl) ?_
  refine Seg.step (pc' := 46) (I_iconst dX2_init_45 ⟨by decide, by decide⟩) ?_
  refine Seg.step (pc' := 48) (I_newaT (q := 50) (N := 4) (a := 51) (atype := .int) rfl rfl (Zf.mono (z_X3_init_43 (Zf.mono (z_X6_init_37 (Zf.mono (z_X8_init_32 (Zf.mono hZ (Nat.le_succ _))) (Nat.le_succ _))) (Nat.le_succ _))) (Nat.le_succ _)) (fun j => rfl) (by decide) rfl (by decide) wa_50 (by decide) (by decide) (by decide) dX2_init_46) ?_
  refine Seg.step (pc' := 51) (I_putR cls2 (by decide) wf_2_36 rfl rfl (Or.inr ⟨rfl, rfl, rfl⟩) dX2_init_48) ?_
  refine Seg.step (pc' := 52) (I_aload_n (i := 0) dX2_init_51 rfl rfl) ?_
  refine Seg.step (pc' := 53) (I_iconst dX2_init_52 ⟨by decide, by decide⟩) ?_
  refine Seg.step (pc' := 55) (I_newaT (q := 50) (N := 4) (a := 52) (atype := .int) rfl rfl (Zf.mono (Zf.mono (z_X3_init_43 (Zf.mono (z_X6_init_37 (Zf.mono (z_X8_init_32 (Zf.mono hZ (Nat.le_succ _))) (Nat.le_succ _))) (Nat.le_succ _))) (Nat.le_succ _)) (Nat.le_succ _)) (fun j => rfl) (by decide) rfl (by decide) wa_50 (by decide) (by decide) (by decide) dX2_init_53) ?_
  refine Seg.step (pc' := 58) (I_putR cls2 (by decide) wf_2_39 rfl rfl (Or.inr ⟨rfl, rfl, rfl⟩) dX2_init_55) ?_
  refine Seg.step (pc' := 59) (I_aload_n (i := 0) dX2_init_58 rfl rfl) ?_
  refine Seg.step (pc' := 61) (I_bipush dX2_init_59 (by decide) ⟨by decide, by decide⟩) ?_
  refine Seg.step (pc' := 63) (I_newaT (q := 50) (N := 8) (a := 53) (atype := .int) rfl rfl (Zf.mono (Zf.mono (Zf.mono (z_X3_init_43 (Zf.mono (z_X6_init_37 (Zf.mono (z_X8_init_32 (Zf.mono hZ (Nat.le_succ _))) (Nat.le_succ _))) (Nat.le_succ _))) (Nat.le_succ _)) (Nat.le_succ _)) (Nat.le_succ _)) (fun j => rfl) (by decide) rfl (by decide) wa_50 (by decide) (by decide) (by decide) dX2_init_61) ?_
  refine Seg.step (pc' := 66) (I_putR cls2 (by decide) wf_2_42 rfl rfl (Or.inr ⟨rfl, rfl, rfl⟩) dX2_init_63) ?_
  refine Seg.step (pc' := 67) (I_aload_n (i := 0) dX2_init_66 rfl rfl) ?_
  refine Seg.step (pc' := 69) (I_bipush dX2_init_67 (by decide) ⟨by decide, by decide⟩) ?_
  refine Seg.step (pc' := 72) (I_putI cls2 (by decide) wf_2_45 rfl rfl rfl dX2_init_69) ?_
  refine Seg.step (pc' := 73) (I_aload_n (i := 0) dX2_init_72 rfl rfl) ?_
  refine Seg.step (pc' := 74) (I_iconst dX2_init_73 ⟨by decide, by decide⟩) ?_
  refine Seg.step (pc' := 77) (I_putI cls2 (by decide) wf_2_49 rfl rfl rfl dX2_init_74) ?_
  exact S_vret dX2_init_77 rfl (by decide) (by decide) (fun K hK => hK)
def mi_X10_init_55 : MD := (yX10_init, cX10_init, 1, none, { frames := 1, cells := 0, slots := 0, locals := 20 })
theorem mm_i_X10_init_55 : MdI mi_X10_init_55 0 := ⟨⟨wcd_X10_init, wz_10, ⟨by decide, by decide⟩, by decide +kernel⟩, rfl, win_X10_init⟩
def g_X10_init_55 (M : MM) : MM := (upM (upM (upM M 55 5 (-1)) 55 6 (-1)) 55 7 (-1))
theorem z_X10_init_55 {M : MM} (hZ : Zf M 56) : Zf (g_X10_init_55 M) 56 := (Zf.up (Zf.up (Zf.up hZ (by decide)) (by decide)) (by decide))
set_option maxRecDepth 8000 in
theorem ci_X10_init_55 {E : EE} {M : MM} (hZ : Zf M 56) : MetC E mi_X10_init_55 0 0 [rV 55] (TT 56, true, RT [(31, 8, 53), (31, 6, 52), (31, 5, 51), (31, 4, 50), (31, 2, 43), (43, 5, 49), (43, 4, 48), (43, 3, 47), (43, 2, 46), (43, 1, 45), (43, 0, 44), (31, 1, 37), (37, 5, 42), (37, 4, 41), (37, 3, 40), (37, 2, 39), (37, 1, 38), (31, 0, 32), (32, 4, 36), (32, 3, 35), (32, 2, 34), (32, 1, 33), (8, 8, 30), (8, 6, 29), (8, 5, 28), (8, 4, 27), (8, 2, 20), (20, 5, 26), (20, 4, 25), (20, 3, 24), (20, 2, 23), (20, 1, 22), (20, 0, 21), (8, 1, 14), (14, 5, 19), (14, 4, 18), (14, 3, 17), (14, 2, 16), (14, 1, 15), (8, 0, 9), (9, 4, 13), (9, 3, 12), (9, 2, 11), (9, 1, 10), (0, 2, 2), (2, 1, 5), (5, 0, 3), (5, 2, 7), (5, 1, 6), (2, 0, 3), (3, 1, 1), (3, 0, 4), (0, 0, 1)], M) (fun r w' => r = none ∧ w' = (TT 56, true, RT [(31, 8, 53), (31, 6, 52), (31, 5, 51), (31, 4, 50), (31, 2, 43), (43, 5, 49), (43, 4, 48), (43, 3, 47), (43, 2, 46), (43, 1, 45), (43, 0, 44), (31, 1, 37), (37, 5, 42), (37, 4, 41), (37, 3, 40), (37, 2, 39), (37, 1, 38), (31, 0, 32), (32, 4, 36), (32, 3, 35), (32, 2, 34), (32, 1, 33), (8, 8, 30), (8, 6, 29), (8, 5, 28), (8, 4, 27), (8, 2, 20), (20, 5, 26), (20, 4, 25), (20, 3, 24), (20, 2, 23), (20, 1, 22), (20, 0, 21), (8, 1, 14), (14, 5, 19), (14, 4, 18), (14, 3, 17), (14, 2, 16), (14, 1, 15), (8, 0, 9), (9, 4, 13), (9, 3, 12), (9, 2, 11), (9, 1, 10), (0, 2, 2), (2, 1, 5), (5, 0, 3), (5, 2, 7), (5, 1, 6), (2, 0, 3), (3, 1, 1), (3, 0, 4), (0, 0, 1)], g_X10_init_55 M)) := by
  refine MetC.seg (o := some ()) (x := ()) (t := (fun K _ => K none (TT 56, true, RT [(31, 8, 53), (31, 6, 52), (31, 5, 51), (31, 4, 50), (31, 2, 43), (43, 5, 49), (43, 4, 48), (43, 3, 47), (43, 2, 46), (43, 1, 45), (43, 0, 44), (31, 1, 37), (37, 5, 42), (37, 4, 41), (37, 3, 40), (37, 2, 39), (37, 1, 38), (31, 0, 32), (32, 4, 36), (32, 3, 35), (32, 2, 34), (32, 1, 33), (8, 8, 30), (8, 6, 29), (8, 5, 28), (8, 4, 27), (8, 2, 20), (20, 5, 26), (20, 4, 25), (20, 3, 24), (20, 2, 23), (20, 1, 22), (20, 0, 21), (8, 1, 14), (14, 5, 19), (14, 4, 18), (14, 3, 17), (14, 2, 16), (14, 1, 15), (8, 0, 9), (9, 4, 13), (9, 3, 12), (9, 2, 11), (9, 1, 10), (0, 2, 2), (2, 1, 5), (5, 0, 3), (5, 2, 7), (5, 1, 6), (2, 0, 3), (3, 1, 1), (3, 0, 4), (0, 0, 1)], g_X10_init_55 M))) (L := [some (rV 55)]) (by decide) rfl (Nat.le_of_ble_eq_true rfl) ?_ rfl ⟨rfl, rfl⟩
  refine Seg.step (pc' := 1) (I_aload_n (i := 0) dX10_init_0 rfl rfl) ?_
  refine Seg.step (pc' := 4) (I_oinit wm_10_3 wo_i wo_c (by decide) (Nat.le_of_ble_eq_true rfl) dX10_init_1) ?_
  refine Seg.step (pc' := 5) (I_aload_n (i := 0) dX10_init_4 rfl rfl) ?_
  refine Seg.step (pc' := 6) (I_iconst dX10_init_5 ⟨by decide, by decide⟩) ?_
  refine Seg.step (pc' := 9) (I_putI cls10 (by decide) wf_10_9 rfl rfl rfl dX10_init_6) ?_
  refine Seg.step (pc' := 10) (I_aload_n (i := 0) dX10_init_9 rfl rfl) ?_
  refine Seg.step (pc' := 11) (I_iconst dX10_init_10 ⟨by decide, by decide⟩) ?_
  refine Seg.step (pc' := 14) (I_putI cls10 (by decide) wf_10_15 rfl rfl rfl dX10_init_11) ?_
  refine Seg.step (pc' := 15) (I_aload_n (i := 0) dX10_init_14 rfl rfl) ?_
  refine Seg.step (pc' := 16) (I_iconst dX10_init_15 ⟨by decide, by decide⟩) ?_
  refine Seg.step (pc' := 19) (I_putI cls10 (by decide) wf_10_18 rfl rfl rfl dX10_init_16) ?_
  exact S_vret dX10_init_19 rfl (by decide) (by decide) (fun K hK => hK)
def mi_X0_init_54 : MD := (yX0_init, cX0_init, 2, none, { frames := 2, cells := 7, slots := 104, locals := 40 })
theorem mm_i_X0_init_54 : MdI mi_X0_init_54 1 := ⟨⟨wcd_X0_init, wz_0, ⟨by decide, by decide⟩, by decide +kernel⟩, rfl, win_X0_init⟩
def g_X0_init_54 (M : MM) : MM := (upM (upM (g_X10_init_55 M) 54 1 8) 54 3 ((upM (g_X10_init_55 M) 54 1 8) 8 9))
theorem z_X0_init_54 {M : MM} (hZ : Zf M 55) : Zf (g_X0_init_54 M) 62 := (Zf.up (Zf.up (Zf.mono (Zf.mono (Zf.mono (Zf.mono (Zf.mono (Zf.mono (z_X10_init_55 (Zf.mono hZ (Nat.le_succ _))) (Nat.le_succ _)) (Nat.le_succ _)) (Nat.le_succ _)) (Nat.le_succ _)) (Nat.le_succ _)) (Nat.le_succ _)) (by decide)) (by decide))
set_option maxRecDepth 8000 in
theorem ci_X0_init_54 {E : EE} {M : MM} (hZ : Zf M 55) : MetC E mi_X0_init_54 7 104 [rV 54, rV 8] (TT 55, true, RT [(31, 8, 53), (31, 6, 52), (31, 5, 51), (31, 4, 50), (31, 2, 43), (43, 5, 49), (43, 4, 48), (43, 3, 47), (43, 2, 46), (43, 1, 45), (43, 0, 44), (31, 1, 37), (37, 5, 42), (37, 4, 41), (37, 3, 40), (37, 2, 39), (37, 1, 38), (31, 0, 32), (32, 4, 36), (32, 3, 35), (32, 2, 34), (32, 1, 33), (8, 8, 30), (8, 6, 29), (8, 5, 28), (8, 4, 27), (8, 2, 20), (20, 5, 26), (20, 4, 25), (20, 3, 24), (20, 2, 23), (20, 1, 22), (20, 0, 21), (8, 1, 14), (14, 5, 19), (14, 4, 18), (14, 3, 17), (14, 2, 16), (14, 1, 15), (8, 0, 9), (9, 4, 13), (9, 3, 12), (9, 2, 11), (9, 1, 10), (0, 2, 2), (2, 1, 5), (5, 0, 3), (5, 2, 7), (5, 1, 6), (2, 0, 3), (3, 1, 1), (3, 0, 4), (0, 0, 1)], M) (fun r w' => r = none ∧ w' = (TT 62, true, RT [(54, 12, 61), (54, 11, 60), (54, 10, 59), (54, 9, 58), (54, 8, 57), (54, 7, 56), (54, 0, 55), (31, 8, 53), (31, 6, 52), (31, 5, 51), (31, 4, 50), (31, 2, 43), (43, 5, 49), (43, 4, 48), (43, 3, 47), (43, 2, 46), (43, 1, 45), (43, 0, 44), (31, 1, 37), (37, 5, 42), (37, 4, 41), (37, 3, 40), (37, 2, 39), (37, 1, 38), (31, 0, 32), (32, 4, 36), (32, 3, 35), (32, 2, 34), (32, 1, 33), (8, 8, 30), (8, 6, 29), (8, 5, 28), (8, 4, 27), (8, 2, 20), (20, 5, 26), (20, 4, 25), (20, 3, 24), (20, 2, 23), (20, 1, 22), (20, 0, 21), (8, 1, 14), (14, 5, 19), (14, 4, 18), (14, 3, 17), (14, 2, 16), (14, 1, 15), (8, 0, 9), (9, 4, 13), (9, 3, 12), (9, 2, 11), (9, 1, 10), (0, 2, 2), (2, 1, 5), (5, 0, 3), (5, 2, 7), (5, 1, 6), (2, 0, 3), (3, 1, 1), (3, 0, 4), (0, 0, 1)], g_X0_init_54 M)) := by
  refine MetC.seg (o := some ()) (x := ()) (t := (fun K _ => K none (TT 62, true, RT [(54, 12, 61), (54, 11, 60), (54, 10, 59), (54, 9, 58), (54, 8, 57), (54, 7, 56), (54, 0, 55), (31, 8, 53), (31, 6, 52), (31, 5, 51), (31, 4, 50), (31, 2, 43), (43, 5, 49), (43, 4, 48), (43, 3, 47), (43, 2, 46), (43, 1, 45), (43, 0, 44), (31, 1, 37), (37, 5, 42), (37, 4, 41), (37, 3, 40), (37, 2, 39), (37, 1, 38), (31, 0, 32), (32, 4, 36), (32, 3, 35), (32, 2, 34), (32, 1, 33), (8, 8, 30), (8, 6, 29), (8, 5, 28), (8, 4, 27), (8, 2, 20), (20, 5, 26), (20, 4, 25), (20, 3, 24), (20, 2, 23), (20, 1, 22), (20, 0, 21), (8, 1, 14), (14, 5, 19), (14, 4, 18), (14, 3, 17), (14, 2, 16), (14, 1, 15), (8, 0, 9), (9, 4, 13), (9, 3, 12), (9, 2, 11), (9, 1, 10), (0, 2, 2), (2, 1, 5), (5, 0, 3), (5, 2, 7), (5, 1, 6), (2, 0, 3), (3, 1, 1), (3, 0, 4), (0, 0, 1)], g_X0_init_54 M))) (L := [some (rV 54), some (rV 8)]) (by decide) rfl (Nat.le_of_ble_eq_true rfl) ?_ rfl ⟨rfl, rfl⟩
  refine Seg.step (pc' := 1) (I_aload_n (i := 0) dX0_init_0 rfl rfl) ?_
  refine Seg.step (pc' := 4) (I_oinit wm_0_3 wo_i wo_c (by decide) (Nat.le_of_ble_eq_true rfl) dX0_init_1) ?_
  refine Seg.step (pc' := 5) (I_aload_n (i := 0) dX0_init_4 rfl rfl) ?_
  refine Seg.step (pc' := 8) (I_newT (a := 55) rfl rfl hZ (fun j => rfl) cls10 (by decide +kernel) wc_0_9 wi_10 wz_10 (by decide) (by decide) dX0_init_5) ?_
  refine Seg.step (pc' := 9) (I_dup dX0_init_8 (fun _ h => by cases h)) ?_
  refine S_callJ0 (md' := mi_X10_init_55) (o1 := some ()) (kk := fun _ => some ()) (fun _ => none) (fun _ => (TT 56, true, RT [(31, 8, 53), (31, 6, 52), (31, 5, 51), (31, 4, 50), (31, 2, 43), (43, 5, 49), (43, 4, 48), (43, 3, 47), (43, 2, 46), (43, 1, 45), (43, 0, 44), (31, 1, 37), (37, 5, 42), (37, 4, 41), (37, 3, 40), (37, 2, 39), (37, 1, 38), (31, 0, 32), (32, 4, 36), (32, 3, 35), (32, 2, 34), (32, 1, 33), (8, 8, 30), (8, 6, 29), (8, 5, 28), (8, 4, 27), (8, 2, 20), (20, 5, 26), (20, 4, 25), (20, 3, 24), (20, 2, 23), (20, 1, 22), (20, 0, 21), (8, 1, 14), (14, 5, 19), (14, 4, 18), (14, 3, 17), (14, 2, 16), (14, 1, 15), (8, 0, 9), (9, 4, 13), (9, 3, 12), (9, 2, 11), (9, 1, 10), (0, 2, 2), (2, 1, 5), (5, 0, 3), (5, 2, 7), (5, 1, 6), (2, 0, 3), (3, 1, 1), (3, 0, 4), (0, 0, 1)], (g_X10_init_55 M))) mm_i_X10_init_55 rfl wn_0_11 ⟨rfl, rfl, by decide, by decide, by decide, by decide⟩ (Nat.le_of_ble_eq_true rfl) dX0_init_9 (fun _ _ => ci_X10_init_55 (Zf.mono hZ (Nat.le_succ _))) (fun _ => ?_)
  refine Seg.step (pc' := 15) (I_putR cls0 (by decide) wf_0_12 rfl rfl (Or.inr ⟨rfl, rfl, rfl⟩) dX0_init_12) ?_
  refine Seg.step (pc' := 16) (I_aload_n (i := 0) dX0_init_15 rfl rfl) ?_
  refine Seg.step (pc' := 17) (I_iconst dX0_init_16 ⟨by decide, by decide⟩) ?_
  refine Seg.step (pc' := 19) (I_newaT (q := 51) (N := 5) (a := 56) (atype := .boolean) rfl rfl (z_X10_init_55 (Zf.mono hZ (Nat.le_succ _))) (fun j => rfl) (by decide) rfl (by decide) wa_51 (by decide) (by decide) (by decide) dX0_init_17) ?_
  refine Seg.step (pc' := 22) (I_putR cls0 (by decide) wf_0_18 rfl rfl (Or.inr ⟨rfl, rfl, rfl⟩) dX0_init_19) ?_
  refine Seg.step (pc' := 23) (I_aload_n (i := 0) dX0_init_22 rfl rfl) ?_
  refine Seg.step (pc' := 25) (I_bipush dX0_init_23 (by decide) ⟨by decide, by decide⟩) ?_
  refine Seg.step (pc' := 27) (I_newaT (q := 50) (N := 30) (a := 57) (atype := .int) rfl rfl (Zf.mono (z_X10_init_55 (Zf.mono hZ (Nat.le_succ _))) (Nat.le_succ _)) (fun j => rfl) (by decide) rfl (by decide) wa_50 (by decide) (by decide) (by decide) dX0_init_25) ?_
  refine Seg.step (pc' := 30) (I_putR cls0 (by decide) wf_0_22 rfl rfl (Or.inr ⟨rfl, rfl, rfl⟩) dX0_init_27) ?_
  refine Seg.step (pc' := 31) (I_aload_n (i := 0) dX0_init_30 rfl rfl) ?_
  refine Seg.step (pc' := 32) (I_iconst dX0_init_31 ⟨by decide, by decide⟩) ?_
  refine Seg.step (pc' := 34) (I_newaT (q := 50) (N := 5) (a := 58) (atype := .int) rfl rfl (Zf.mono (Zf.mono (z_X10_init_55 (Zf.mono hZ (Nat.le_succ _))) (Nat.le_succ _)) (Nat.le_succ _)) (fun j => rfl) (by decide) rfl (by decide) wa_50 (by decide) (by decide) (by decide) dX0_init_32) ?_
  refine Seg.step (pc' := 37) (I_putR cls0 (by decide) wf_0_26 rfl rfl (Or.inr ⟨rfl, rfl, rfl⟩) dX0_init_34) ?_
  refine Seg.step (pc' := 38) (I_aload_n (i := 0) dX0_init_37 rfl rfl) ?_
  refine Seg.step (pc' := 39) (I_iconst dX0_init_38 ⟨by decide, by decide⟩) ?_
  refine Seg.step (pc' := 41) (I_newaT (q := 50) (N := 5) (a := 59) (atype := .int) rfl rfl (Zf.mono (Zf.mono (Zf.mono (z_X10_init_55 (Zf.mono hZ (Nat.le_succ _))) (Nat.le_succ _)) (Nat.le_succ _)) (Nat.le_succ _)) (fun j => rfl) (by decide) rfl (by decide) wa_50 (by decide) (by decide) (by decide) dX0_init_39) ?_
  refine Seg.step (pc' := 44) (I_putR cls0 (by decide) wf_0_29 rfl rfl (Or.inr ⟨rfl, rfl, rfl⟩) dX0_init_41) ?_
  refine Seg.step (pc' := 45) (I_aload_n (i := 0) dX0_init_44 rfl rfl) ?_
  refine Seg.step (pc' := 47) (I_bipush dX0_init_45 (by decide) ⟨by decide, by decide⟩) ?_
  refine Seg.step (pc' := 49) (I_newaT (q := 50) (N := 24) (a := 60) (atype := .int) rfl rfl (Zf.mono (Zf.mono (Zf.mono (Zf.mono (z_X10_init_55 (Zf.mono hZ (Nat.le_succ _))) (Nat.le_succ _)) (Nat.le_succ _)) (Nat.le_succ _)) (Nat.le_succ _)) (fun j => rfl) (by decide) rfl (by decide) wa_50 (by decide) (by decide) (by decide) dX0_init_47) ?_
  refine Seg.step (pc' := 52) (I_putR cls0 (by decide) wf_0_32 rfl rfl (Or.inr ⟨rfl, rfl, rfl⟩) dX0_init_49) ?_
  refine Seg.step (pc' := 53) (I_aload_n (i := 0) dX0_init_52 rfl rfl) ?_
  refine Seg.step (pc' := 55) (I_bipush dX0_init_53 (by decide) ⟨by decide, by decide⟩) ?_
  refine Seg.step (pc' := 57) (I_newaT (q := 50) (N := 24) (a := 61) (atype := .int) rfl rfl (Zf.mono (Zf.mono (Zf.mono (Zf.mono (Zf.mono (z_X10_init_55 (Zf.mono hZ (Nat.le_succ _))) (Nat.le_succ _)) (Nat.le_succ _)) (Nat.le_succ _)) (Nat.le_succ _)) (Nat.le_succ _)) (fun j => rfl) (by decide) rfl (by decide) wa_50 (by decide) (by decide) (by decide) dX0_init_55) ?_
  refine Seg.step (pc' := 60) (I_putR cls0 (by decide) wf_0_35 rfl rfl (Or.inr ⟨rfl, rfl, rfl⟩) dX0_init_57) ?_
  refine Seg.step (pc' := 61) (I_aload_n (i := 0) dX0_init_60 rfl rfl) ?_
  refine Seg.step (pc' := 62) (I_aload_n (i := 1) dX0_init_61 rfl rfl) ?_
  refine Seg.step (pc' := 65) (I_putH cls0 (by decide) wf_0_38 rfl rfl (by decide) rfl dX0_init_62) ?_
  refine Seg.step (pc' := 66) (I_aload_n (i := 0) dX0_init_65 rfl rfl) ?_
  refine Seg.step (pc' := 67) (I_aload_n (i := 1) dX0_init_66 rfl rfl) ?_
  refine Seg.step (pc' := 70) (I_getI cls2 (by decide) wf_0_42 rfl rfl dX0_init_67) ?_
  refine Seg.step (pc' := 73) (I_putI cls0 (by decide) wf_0_48 rfl rfl rfl dX0_init_70) ?_
  exact S_vret dX0_init_73 rfl (by decide) (by decide) (fun K hK => hK)
def mi_X10_init_63 : MD := (yX10_init, cX10_init, 1, none, { frames := 1, cells := 0, slots := 0, locals := 20 })
theorem mm_i_X10_init_63 : MdI mi_X10_init_63 0 := ⟨⟨wcd_X10_init, wz_10, ⟨by decide, by decide⟩, by decide +kernel⟩, rfl, win_X10_init⟩
def g_X10_init_63 (M : MM) : MM := (upM (upM (upM M 63 5 (-1)) 63 6 (-1)) 63 7 (-1))
theorem z_X10_init_63 {M : MM} (hZ : Zf M 64) : Zf (g_X10_init_63 M) 64 := (Zf.up (Zf.up (Zf.up hZ (by decide)) (by decide)) (by decide))
set_option maxRecDepth 8000 in
theorem ci_X10_init_63 {E : EE} {M : MM} (hZ : Zf M 64) : MetC E mi_X10_init_63 0 0 [rV 63] (TT 64, true, RT [(0, 5, 54), (54, 12, 61), (54, 11, 60), (54, 10, 59), (54, 9, 58), (54, 8, 57), (54, 7, 56), (54, 0, 55), (31, 8, 53), (31, 6, 52), (31, 5, 51), (31, 4, 50), (31, 2, 43), (43, 5, 49), (43, 4, 48), (43, 3, 47), (43, 2, 46), (43, 1, 45), (43, 0, 44), (31, 1, 37), (37, 5, 42), (37, 4, 41), (37, 3, 40), (37, 2, 39), (37, 1, 38), (31, 0, 32), (32, 4, 36), (32, 3, 35), (32, 2, 34), (32, 1, 33), (8, 8, 30), (8, 6, 29), (8, 5, 28), (8, 4, 27), (8, 2, 20), (20, 5, 26), (20, 4, 25), (20, 3, 24), (20, 2, 23), (20, 1, 22), (20, 0, 21), (8, 1, 14), (14, 5, 19), (14, 4, 18), (14, 3, 17), (14, 2, 16), (14, 1, 15), (8, 0, 9), (9, 4, 13), (9, 3, 12), (9, 2, 11), (9, 1, 10), (0, 2, 2), (2, 1, 5), (5, 0, 3), (5, 2, 7), (5, 1, 6), (2, 0, 3), (3, 1, 1), (3, 0, 4), (0, 0, 1)], M) (fun r w' => r = none ∧ w' = (TT 64, true, RT [(0, 5, 54), (54, 12, 61), (54, 11, 60), (54, 10, 59), (54, 9, 58), (54, 8, 57), (54, 7, 56), (54, 0, 55), (31, 8, 53), (31, 6, 52), (31, 5, 51), (31, 4, 50), (31, 2, 43), (43, 5, 49), (43, 4, 48), (43, 3, 47), (43, 2, 46), (43, 1, 45), (43, 0, 44), (31, 1, 37), (37, 5, 42), (37, 4, 41), (37, 3, 40), (37, 2, 39), (37, 1, 38), (31, 0, 32), (32, 4, 36), (32, 3, 35), (32, 2, 34), (32, 1, 33), (8, 8, 30), (8, 6, 29), (8, 5, 28), (8, 4, 27), (8, 2, 20), (20, 5, 26), (20, 4, 25), (20, 3, 24), (20, 2, 23), (20, 1, 22), (20, 0, 21), (8, 1, 14), (14, 5, 19), (14, 4, 18), (14, 3, 17), (14, 2, 16), (14, 1, 15), (8, 0, 9), (9, 4, 13), (9, 3, 12), (9, 2, 11), (9, 1, 10), (0, 2, 2), (2, 1, 5), (5, 0, 3), (5, 2, 7), (5, 1, 6), (2, 0, 3), (3, 1, 1), (3, 0, 4), (0, 0, 1)], g_X10_init_63 M)) := by
  refine MetC.seg (o := some ()) (x := ()) (t := (fun K _ => K none (TT 64, true, RT [(0, 5, 54), (54, 12, 61), (54, 11, 60), (54, 10, 59), (54, 9, 58), (54, 8, 57), (54, 7, 56), (54, 0, 55), (31, 8, 53), (31, 6, 52), (31, 5, 51), (31, 4, 50), (31, 2, 43), (43, 5, 49), (43, 4, 48), (43, 3, 47), (43, 2, 46), (43, 1, 45), (43, 0, 44), (31, 1, 37), (37, 5, 42), (37, 4, 41), (37, 3, 40), (37, 2, 39), (37, 1, 38), (31, 0, 32), (32, 4, 36), (32, 3, 35), (32, 2, 34), (32, 1, 33), (8, 8, 30), (8, 6, 29), (8, 5, 28), (8, 4, 27), (8, 2, 20), (20, 5, 26), (20, 4, 25), (20, 3, 24), (20, 2, 23), (20, 1, 22), (20, 0, 21), (8, 1, 14), (14, 5, 19), (14, 4, 18), (14, 3, 17), (14, 2, 16), (14, 1, 15), (8, 0, 9), (9, 4, 13), (9, 3, 12), (9, 2, 11), (9, 1, 10), (0, 2, 2), (2, 1, 5), (5, 0, 3), (5, 2, 7), (5, 1, 6), (2, 0, 3), (3, 1, 1), (3, 0, 4), (0, 0, 1)], g_X10_init_63 M))) (L := [some (rV 63)]) (by decide) rfl (Nat.le_of_ble_eq_true rfl) ?_ rfl ⟨rfl, rfl⟩
  refine Seg.step (pc' := 1) (I_aload_n (i := 0) dX10_init_0 rfl rfl) ?_
  refine Seg.step (pc' := 4) (I_oinit wm_10_3 wo_i wo_c (by decide) (Nat.le_of_ble_eq_true rfl) dX10_init_1) ?_
  refine Seg.step (pc' := 5) (I_aload_n (i := 0) dX10_init_4 rfl rfl) ?_
  refine Seg.step (pc' := 6) (I_iconst dX10_init_5 ⟨by decide, by decide⟩) ?_
  refine Seg.step (pc' := 9) (I_putI cls10 (by decide) wf_10_9 rfl rfl rfl dX10_init_6) ?_
  refine Seg.step (pc' := 10) (I_aload_n (i := 0) dX10_init_9 rfl rfl) ?_
  refine Seg.step (pc' := 11) (I_iconst dX10_init_10 ⟨by decide, by decide⟩) ?_
  refine Seg.step (pc' := 14) (I_putI cls10 (by decide) wf_10_15 rfl rfl rfl dX10_init_11) ?_
  refine Seg.step (pc' := 15) (I_aload_n (i := 0) dX10_init_14 rfl rfl) ?_
  refine Seg.step (pc' := 16) (I_iconst dX10_init_15 ⟨by decide, by decide⟩) ?_
  refine Seg.step (pc' := 19) (I_putI cls10 (by decide) wf_10_18 rfl rfl rfl dX10_init_16) ?_
  exact S_vret dX10_init_19 rfl (by decide) (by decide) (fun K hK => hK)
def mi_X0_init_62 : MD := (yX0_init, cX0_init, 2, none, { frames := 2, cells := 7, slots := 104, locals := 40 })
theorem mm_i_X0_init_62 : MdI mi_X0_init_62 1 := ⟨⟨wcd_X0_init, wz_0, ⟨by decide, by decide⟩, by decide +kernel⟩, rfl, win_X0_init⟩
def g_X0_init_62 (M : MM) : MM := (upM (upM (g_X10_init_63 M) 62 1 8) 62 3 ((upM (g_X10_init_63 M) 62 1 8) 8 9))
theorem z_X0_init_62 {M : MM} (hZ : Zf M 63) : Zf (g_X0_init_62 M) 70 := (Zf.up (Zf.up (Zf.mono (Zf.mono (Zf.mono (Zf.mono (Zf.mono (Zf.mono (z_X10_init_63 (Zf.mono hZ (Nat.le_succ _))) (Nat.le_succ _)) (Nat.le_succ _)) (Nat.le_succ _)) (Nat.le_succ _)) (Nat.le_succ _)) (Nat.le_succ _)) (by decide)) (by decide))
set_option maxRecDepth 8000 in
theorem ci_X0_init_62 {E : EE} {M : MM} (hZ : Zf M 63) : MetC E mi_X0_init_62 7 104 [rV 62, rV 8] (TT 63, true, RT [(0, 5, 54), (54, 12, 61), (54, 11, 60), (54, 10, 59), (54, 9, 58), (54, 8, 57), (54, 7, 56), (54, 0, 55), (31, 8, 53), (31, 6, 52), (31, 5, 51), (31, 4, 50), (31, 2, 43), (43, 5, 49), (43, 4, 48), (43, 3, 47), (43, 2, 46), (43, 1, 45), (43, 0, 44), (31, 1, 37), (37, 5, 42), (37, 4, 41), (37, 3, 40), (37, 2, 39), (37, 1, 38), (31, 0, 32), (32, 4, 36), (32, 3, 35), (32, 2, 34), (32, 1, 33), (8, 8, 30), (8, 6, 29), (8, 5, 28), (8, 4, 27), (8, 2, 20), (20, 5, 26), (20, 4, 25), (20, 3, 24), (20, 2, 23), (20, 1, 22), (20, 0, 21), (8, 1, 14), (14, 5, 19), (14, 4, 18), (14, 3, 17), (14, 2, 16), (14, 1, 15), (8, 0, 9), (9, 4, 13), (9, 3, 12), (9, 2, 11), (9, 1, 10), (0, 2, 2), (2, 1, 5), (5, 0, 3), (5, 2, 7), (5, 1, 6), (2, 0, 3), (3, 1, 1), (3, 0, 4), (0, 0, 1)], M) (fun r w' => r = none ∧ w' = (TT 70, true, RT [(62, 12, 69), (62, 11, 68), (62, 10, 67), (62, 9, 66), (62, 8, 65), (62, 7, 64), (62, 0, 63), (0, 5, 54), (54, 12, 61), (54, 11, 60), (54, 10, 59), (54, 9, 58), (54, 8, 57), (54, 7, 56), (54, 0, 55), (31, 8, 53), (31, 6, 52), (31, 5, 51), (31, 4, 50), (31, 2, 43), (43, 5, 49), (43, 4, 48), (43, 3, 47), (43, 2, 46), (43, 1, 45), (43, 0, 44), (31, 1, 37), (37, 5, 42), (37, 4, 41), (37, 3, 40), (37, 2, 39), (37, 1, 38), (31, 0, 32), (32, 4, 36), (32, 3, 35), (32, 2, 34), (32, 1, 33), (8, 8, 30), (8, 6, 29), (8, 5, 28), (8, 4, 27), (8, 2, 20), (20, 5, 26), (20, 4, 25), (20, 3, 24), (20, 2, 23), (20, 1, 22), (20, 0, 21), (8, 1, 14), (14, 5, 19), (14, 4, 18), (14, 3, 17), (14, 2, 16), (14, 1, 15), (8, 0, 9), (9, 4, 13), (9, 3, 12), (9, 2, 11), (9, 1, 10), (0, 2, 2), (2, 1, 5), (5, 0, 3), (5, 2, 7), (5, 1, 6), (2, 0, 3), (3, 1, 1), (3, 0, 4), (0, 0, 1)], g_X0_init_62 M)) := by
  refine MetC.seg (o := some ()) (x := ()) (t := (fun K _ => K none (TT 70, true, RT [(62, 12, 69), (62, 11, 68), (62, 10, 67), (62, 9, 66), (62, 8, 65), (62, 7, 64), (62, 0, 63), (0, 5, 54), (54, 12, 61), (54, 11, 60), (54, 10, 59), (54, 9, 58), (54, 8, 57), (54, 7, 56), (54, 0, 55), (31, 8, 53), (31, 6, 52), (31, 5, 51), (31, 4, 50), (31, 2, 43), (43, 5, 49), (43, 4, 48), (43, 3, 47), (43, 2, 46), (43, 1, 45), (43, 0, 44), (31, 1, 37), (37, 5, 42), (37, 4, 41), (37, 3, 40), (37, 2, 39), (37, 1, 38), (31, 0, 32), (32, 4, 36), (32, 3, 35), (32, 2, 34), (32, 1, 33), (8, 8, 30), (8, 6, 29), (8, 5, 28), (8, 4, 27), (8, 2, 20), (20, 5, 26), (20, 4, 25), (20, 3, 24), (20, 2, 23), (20, 1, 22), (20, 0, 21), (8, 1, 14), (14, 5, 19), (14, 4, 18), (14, 3, 17), (14, 2, 16), (14, 1, 15), (8, 0, 9), (9, 4, 13), (9, 3, 12), (9, 2, 11), (9, 1, 10), (0, 2, 2), (2, 1, 5), (5, 0, 3), (5, 2, 7), (5, 1, 6), (2, 0, 3), (3, 1, 1), (3, 0, 4), (0, 0, 1)], g_X0_init_62 M))) (L := [some (rV 62), some (rV 8)]) (by decide) rfl (Nat.le_of_ble_eq_true rfl) ?_ rfl ⟨rfl, rfl⟩
  refine Seg.step (pc' := 1) (I_aload_n (i := 0) dX0_init_0 rfl rfl) ?_
  refine Seg.step (pc' := 4) (I_oinit wm_0_3 wo_i wo_c (by decide) (Nat.le_of_ble_eq_true rfl) dX0_init_1) ?_
  refine Seg.step (pc' := 5) (I_aload_n (i := 0) dX0_init_4 rfl rfl) ?_
  refine Seg.step (pc' := 8) (I_newT (a := 63) rfl rfl hZ (fun j => rfl) cls10 (by decide +kernel) wc_0_9 wi_10 wz_10 (by decide) (by decide) dX0_init_5) ?_
  refine Seg.step (pc' := 9) (I_dup dX0_init_8 (fun _ h => by cases h)) ?_
  refine S_callJ0 (md' := mi_X10_init_63) (o1 := some ()) (kk := fun _ => some ()) (fun _ => none) (fun _ => (TT 64, true, RT [(0, 5, 54), (54, 12, 61), (54, 11, 60), (54, 10, 59), (54, 9, 58), (54, 8, 57), (54, 7, 56), (54, 0, 55), (31, 8, 53), (31, 6, 52), (31, 5, 51), (31, 4, 50), (31, 2, 43), (43, 5, 49), (43, 4, 48), (43, 3, 47), (43, 2, 46), (43, 1, 45), (43, 0, 44), (31, 1, 37), (37, 5, 42), (37, 4, 41), (37, 3, 40), (37, 2, 39), (37, 1, 38), (31, 0, 32), (32, 4, 36), (32, 3, 35), (32, 2, 34), (32, 1, 33), (8, 8, 30), (8, 6, 29), (8, 5, 28), (8, 4, 27), (8, 2, 20), (20, 5, 26), (20, 4, 25), (20, 3, 24), (20, 2, 23), (20, 1, 22), (20, 0, 21), (8, 1, 14), (14, 5, 19), (14, 4, 18), (14, 3, 17), (14, 2, 16), (14, 1, 15), (8, 0, 9), (9, 4, 13), (9, 3, 12), (9, 2, 11), (9, 1, 10), (0, 2, 2), (2, 1, 5), (5, 0, 3), (5, 2, 7), (5, 1, 6), (2, 0, 3), (3, 1, 1), (3, 0, 4), (0, 0, 1)], (g_X10_init_63 M))) mm_i_X10_init_63 rfl wn_0_11 ⟨rfl, rfl, by decide, by decide, by decide, by decide⟩ (Nat.le_of_ble_eq_true rfl) dX0_init_9 (fun _ _ => ci_X10_init_63 (Zf.mono hZ (Nat.le_succ _))) (fun _ => ?_)
  refine Seg.step (pc' := 15) (I_putR cls0 (by decide) wf_0_12 rfl rfl (Or.inr ⟨rfl, rfl, rfl⟩) dX0_init_12) ?_
  refine Seg.step (pc' := 16) (I_aload_n (i := 0) dX0_init_15 rfl rfl) ?_
  refine Seg.step (pc' := 17) (I_iconst dX0_init_16 ⟨by decide, by decide⟩) ?_
  refine Seg.step (pc' := 19) (I_newaT (q := 51) (N := 5) (a := 64) (atype := .boolean) rfl rfl (z_X10_init_63 (Zf.mono hZ (Nat.le_succ _))) (fun j => rfl) (by decide) rfl (by decide) wa_51 (by decide) (by decide) (by decide) dX0_init_17) ?_
  refine Seg.step (pc' := 22) (I_putR cls0 (by decide) wf_0_18 rfl rfl (Or.inr ⟨rfl, rfl, rfl⟩) dX0_init_19) ?_
  refine Seg.step (pc' := 23) (I_aload_n (i := 0) dX0_init_22 rfl rfl) ?_
  refine Seg.step (pc' := 25) (I_bipush dX0_init_23 (by decide) ⟨by decide, by decide⟩) ?_
  refine Seg.step (pc' := 27) (I_newaT (q := 50) (N := 30) (a := 65) (atype := .int) rfl rfl (Zf.mono (z_X10_init_63 (Zf.mono hZ (Nat.le_succ _))) (Nat.le_succ _)) (fun j => rfl) (by decide) rfl (by decide) wa_50 (by decide) (by decide) (by decide) dX0_init_25) ?_
  refine Seg.step (pc' := 30) (I_putR cls0 (by decide) wf_0_22 rfl rfl (Or.inr ⟨rfl, rfl, rfl⟩) dX0_init_27) ?_
  refine Seg.step (pc' := 31) (I_aload_n (i := 0) dX0_init_30 rfl rfl) ?_
  refine Seg.step (pc' := 32) (I_iconst dX0_init_31 ⟨by decide, by decide⟩) ?_
  refine Seg.step (pc' := 34) (I_newaT (q := 50) (N := 5) (a := 66) (atype := .int) rfl rfl (Zf.mono (Zf.mono (z_X10_init_63 (Zf.mono hZ (Nat.le_succ _))) (Nat.le_succ _)) (Nat.le_succ _)) (fun j => rfl) (by decide) rfl (by decide) wa_50 (by decide) (by decide) (by decide) dX0_init_32) ?_
  refine Seg.step (pc' := 37) (I_putR cls0 (by decide) wf_0_26 rfl rfl (Or.inr ⟨rfl, rfl, rfl⟩) dX0_init_34) ?_
  refine Seg.step (pc' := 38) (I_aload_n (i := 0) dX0_init_37 rfl rfl) ?_
  refine Seg.step (pc' := 39) (I_iconst dX0_init_38 ⟨by decide, by decide⟩) ?_
  refine Seg.step (pc' := 41) (I_newaT (q := 50) (N := 5) (a := 67) (atype := .int) rfl rfl (Zf.mono (Zf.mono (Zf.mono (z_X10_init_63 (Zf.mono hZ (Nat.le_succ _))) (Nat.le_succ _)) (Nat.le_succ _)) (Nat.le_succ _)) (fun j => rfl) (by decide) rfl (by decide) wa_50 (by decide) (by decide) (by decide) dX0_init_39) ?_
  refine Seg.step (pc' := 44) (I_putR cls0 (by decide) wf_0_29 rfl rfl (Or.inr ⟨rfl, rfl, rfl⟩) dX0_init_41) ?_
  refine Seg.step (pc' := 45) (I_aload_n (i := 0) dX0_init_44 rfl rfl) ?_
  refine Seg.step (pc' := 47) (I_bipush dX0_init_45 (by decide) ⟨by decide, by decide⟩) ?_
  refine Seg.step (pc' := 49) (I_newaT (q := 50) (N := 24) (a := 68) (atype := .int) rfl rfl (Zf.mono (Zf.mono (Zf.mono (Zf.mono (z_X10_init_63 (Zf.mono hZ (Nat.le_succ _))) (Nat.le_succ _)) (Nat.le_succ _)) (Nat.le_succ _)) (Nat.le_succ _)) (fun j => rfl) (by decide) rfl (by decide) wa_50 (by decide) (by decide) (by decide) dX0_init_47) ?_
  refine Seg.step (pc' := 52) (I_putR cls0 (by decide) wf_0_32 rfl rfl (Or.inr ⟨rfl, rfl, rfl⟩) dX0_init_49) ?_
  refine Seg.step (pc' := 53) (I_aload_n (i := 0) dX0_init_52 rfl rfl) ?_
  refine Seg.step (pc' := 55) (I_bipush dX0_init_53 (by decide) ⟨by decide, by decide⟩) ?_
  refine Seg.step (pc' := 57) (I_newaT (q := 50) (N := 24) (a := 69) (atype := .int) rfl rfl (Zf.mono (Zf.mono (Zf.mono (Zf.mono (Zf.mono (z_X10_init_63 (Zf.mono hZ (Nat.le_succ _))) (Nat.le_succ _)) (Nat.le_succ _)) (Nat.le_succ _)) (Nat.le_succ _)) (Nat.le_succ _)) (fun j => rfl) (by decide) rfl (by decide) wa_50 (by decide) (by decide) (by decide) dX0_init_55) ?_
  refine Seg.step (pc' := 60) (I_putR cls0 (by decide) wf_0_35 rfl rfl (Or.inr ⟨rfl, rfl, rfl⟩) dX0_init_57) ?_
  refine Seg.step (pc' := 61) (I_aload_n (i := 0) dX0_init_60 rfl rfl) ?_
  refine Seg.step (pc' := 62) (I_aload_n (i := 1) dX0_init_61 rfl rfl) ?_
  refine Seg.step (pc' := 65) (I_putH cls0 (by decide) wf_0_38 rfl rfl (by decide) rfl dX0_init_62) ?_
  refine Seg.step (pc' := 66) (I_aload_n (i := 0) dX0_init_65 rfl rfl) ?_
  refine Seg.step (pc' := 67) (I_aload_n (i := 1) dX0_init_66 rfl rfl) ?_
  refine Seg.step (pc' := 70) (I_getI cls2 (by decide) wf_0_42 rfl rfl dX0_init_67) ?_
  refine Seg.step (pc' := 73) (I_putI cls0 (by decide) wf_0_48 rfl rfl rfl dX0_init_70) ?_
  exact S_vret dX0_init_73 rfl (by decide) (by decide) (fun K hK => hK)
def mi_X10_init_71 : MD := (yX10_init, cX10_init, 1, none, { frames := 1, cells := 0, slots := 0, locals := 20 })
theorem mm_i_X10_init_71 : MdI mi_X10_init_71 0 := ⟨⟨wcd_X10_init, wz_10, ⟨by decide, by decide⟩, by decide +kernel⟩, rfl, win_X10_init⟩
def g_X10_init_71 (M : MM) : MM := (upM (upM (upM M 71 5 (-1)) 71 6 (-1)) 71 7 (-1))
theorem z_X10_init_71 {M : MM} (hZ : Zf M 72) : Zf (g_X10_init_71 M) 72 := (Zf.up (Zf.up (Zf.up hZ (by decide)) (by decide)) (by decide))
set_option maxRecDepth 8000 in
theorem ci_X10_init_71 {E : EE} {M : MM} (hZ : Zf M 72) : MetC E mi_X10_init_71 0 0 [rV 71] (TT 72, true, RT [(0, 6, 62), (62, 12, 69), (62, 11, 68), (62, 10, 67), (62, 9, 66), (62, 8, 65), (62, 7, 64), (62, 0, 63), (0, 5, 54), (54, 12, 61), (54, 11, 60), (54, 10, 59), (54, 9, 58), (54, 8, 57), (54, 7, 56), (54, 0, 55), (31, 8, 53), (31, 6, 52), (31, 5, 51), (31, 4, 50), (31, 2, 43), (43, 5, 49), (43, 4, 48), (43, 3, 47), (43, 2, 46), (43, 1, 45), (43, 0, 44), (31, 1, 37), (37, 5, 42), (37, 4, 41), (37, 3, 40), (37, 2, 39), (37, 1, 38), (31, 0, 32), (32, 4, 36), (32, 3, 35), (32, 2, 34), (32, 1, 33), (8, 8, 30), (8, 6, 29), (8, 5, 28), (8, 4, 27), (8, 2, 20), (20, 5, 26), (20, 4, 25), (20, 3, 24), (20, 2, 23), (20, 1, 22), (20, 0, 21), (8, 1, 14), (14, 5, 19), (14, 4, 18), (14, 3, 17), (14, 2, 16), (14, 1, 15), (8, 0, 9), (9, 4, 13), (9, 3, 12), (9, 2, 11), (9, 1, 10), (0, 2, 2), (2, 1, 5), (5, 0, 3), (5, 2, 7), (5, 1, 6), (2, 0, 3), (3, 1, 1), (3, 0, 4), (0, 0, 1)], M) (fun r w' => r = none ∧ w' = (TT 72, true, RT [(0, 6, 62), (62, 12, 69), (62, 11, 68), (62, 10, 67), (62, 9, 66), (62, 8, 65), (62, 7, 64), (62, 0, 63), (0, 5, 54), (54, 12, 61), (54, 11, 60), (54, 10, 59), (54, 9, 58), (54, 8, 57), (54, 7, 56), (54, 0, 55), (31, 8, 53), (31, 6, 52), (31, 5, 51), (31, 4, 50), (31, 2, 43), (43, 5, 49), (43, 4, 48), (43, 3, 47), (43, 2, 46), (43, 1, 45), (43, 0, 44), (31, 1, 37), (37, 5, 42), (37, 4, 41), (37, 3, 40), (37, 2, 39), (37, 1, 38), (31, 0, 32), (32, 4, 36), (32, 3, 35), (32, 2, 34), (32, 1, 33), (8, 8, 30), (8, 6, 29), (8, 5, 28), (8, 4, 27), (8, 2, 20), (20, 5, 26), (20, 4, 25), (20, 3, 24), (20, 2, 23), (20, 1, 22), (20, 0, 21), (8, 1, 14), (14, 5, 19), (14, 4, 18), (14, 3, 17), (14, 2, 16), (14, 1, 15), (8, 0, 9), (9, 4, 13), (9, 3, 12), (9, 2, 11), (9, 1, 10), (0, 2, 2), (2, 1, 5), (5, 0, 3), (5, 2, 7), (5, 1, 6), (2, 0, 3), (3, 1, 1), (3, 0, 4), (0, 0, 1)], g_X10_init_71 M)) := by
  refine MetC.seg (o := some ()) (x := ()) (t := (fun K _ => K none (TT 72, true, RT [(0, 6, 62), (62, 12, 69), (62, 11, 68), (62, 10, 67), (62, 9, 66), (62, 8, 65), (62, 7, 64), (62, 0, 63), (0, 5, 54), (54, 12, 61), (54, 11, 60), (54, 10, 59), (54, 9, 58), (54, 8, 57), (54, 7, 56), (54, 0, 55), (31, 8, 53), (31, 6, 52), (31, 5, 51), (31, 4, 50), (31, 2, 43), (43, 5, 49), (43, 4, 48), (43, 3, 47), (43, 2, 46), (43, 1, 45), (43, 0, 44), (31, 1, 37), (37, 5, 42), (37, 4, 41), (37, 3, 40), (37, 2, 39), (37, 1, 38), (31, 0, 32), (32, 4, 36), (32, 3, 35), (32, 2, 34), (32, 1, 33), (8, 8, 30), (8, 6, 29), (8, 5, 28), (8, 4, 27), (8, 2, 20), (20, 5, 26), (20, 4, 25), (20, 3, 24), (20, 2, 23), (20, 1, 22), (20, 0, 21), (8, 1, 14), (14, 5, 19), (14, 4, 18), (14, 3, 17), (14, 2, 16), (14, 1, 15), (8, 0, 9), (9, 4, 13), (9, 3, 12), (9, 2, 11), (9, 1, 10), (0, 2, 2), (2, 1, 5), (5, 0, 3), (5, 2, 7), (5, 1, 6), (2, 0, 3), (3, 1, 1), (3, 0, 4), (0, 0, 1)], g_X10_init_71 M))) (L := [some (rV 71)]) (by decide) rfl (Nat.le_of_ble_eq_true rfl) ?_ rfl ⟨rfl, rfl⟩
  refine Seg.step (pc' := 1) (I_aload_n (i := 0) dX10_init_0 rfl rfl) ?_
  refine Seg.step (pc' := 4) (I_oinit wm_10_3 wo_i wo_c (by decide) (Nat.le_of_ble_eq_true rfl) dX10_init_1) ?_
  refine Seg.step (pc' := 5) (I_aload_n (i := 0) dX10_init_4 rfl rfl) ?_
  refine Seg.step (pc' := 6) (I_iconst dX10_init_5 ⟨by decide, by decide⟩) ?_
  refine Seg.step (pc' := 9) (I_putI cls10 (by decide) wf_10_9 rfl rfl rfl dX10_init_6) ?_
  refine Seg.step (pc' := 10) (I_aload_n (i := 0) dX10_init_9 rfl rfl) ?_
  refine Seg.step (pc' := 11) (I_iconst dX10_init_10 ⟨by decide, by decide⟩) ?_
  refine Seg.step (pc' := 14) (I_putI cls10 (by decide) wf_10_15 rfl rfl rfl dX10_init_11) ?_
  refine Seg.step (pc' := 15) (I_aload_n (i := 0) dX10_init_14 rfl rfl) ?_
  refine Seg.step (pc' := 16) (I_iconst dX10_init_15 ⟨by decide, by decide⟩) ?_
  refine Seg.step (pc' := 19) (I_putI cls10 (by decide) wf_10_18 rfl rfl rfl dX10_init_16) ?_
  exact S_vret dX10_init_19 rfl (by decide) (by decide) (fun K hK => hK)
def mi_X0_init_70 : MD := (yX0_init, cX0_init, 2, none, { frames := 2, cells := 7, slots := 104, locals := 40 })
theorem mm_i_X0_init_70 : MdI mi_X0_init_70 1 := ⟨⟨wcd_X0_init, wz_0, ⟨by decide, by decide⟩, by decide +kernel⟩, rfl, win_X0_init⟩
def g_X0_init_70 (M : MM) : MM := (upM (upM (g_X10_init_71 M) 70 1 8) 70 3 ((upM (g_X10_init_71 M) 70 1 8) 8 9))
theorem z_X0_init_70 {M : MM} (hZ : Zf M 71) : Zf (g_X0_init_70 M) 78 := (Zf.up (Zf.up (Zf.mono (Zf.mono (Zf.mono (Zf.mono (Zf.mono (Zf.mono (z_X10_init_71 (Zf.mono hZ (Nat.le_succ _))) (Nat.le_succ _)) (Nat.le_succ _)) (Nat.le_succ _)) (Nat.le_succ _)) (Nat.le_succ _)) (Nat.le_succ _)) (by decide)) (by decide))
set_option maxRecDepth 8000 in
theorem ci_X0_init_70 {E : EE} {M : MM} (hZ : Zf M 71) : MetC E mi_X0_init_70 7 104 [rV 70, rV 8] (TT 71, true, RT [(0, 6, 62), (62, 12, 69), (62, 11, 68), (62, 10, 67), (62, 9, 66), (62, 8, 65), (62, 7, 64), (62, 0, 63), (0, 5, 54), (54, 12, 61), (54, 11, 60), (54, 10, 59), (54, 9, 58), (54, 8, 57), (54, 7, 56), (54, 0, 55), (31, 8, 53), (31, 6, 52), (31, 5, 51), (31, 4, 50), (31, 2, 43), (43, 5, 49), (43, 4, 48), (43, 3, 47), (43, 2, 46), (43, 1, 45), (43, 0, 44), (31, 1, 37), (37, 5, 42), (37, 4, 41), (37, 3, 40), (37, 2, 39), (37, 1, 38), (31, 0, 32), (32, 4, 36), (32, 3, 35), (32, 2, 34), (32, 1, 33), (8, 8, 30), (8, 6, 29), (8, 5, 28), (8, 4, 27), (8, 2, 20), (20, 5, 26), (20, 4, 25), (20, 3, 24), (20, 2, 23), (20, 1, 22), (20, 0, 21), (8, 1, 14), (14, 5, 19), (14, 4, 18), (14, 3, 17), (14, 2, 16), (14, 1, 15), (8, 0, 9), (9, 4, 13), (9, 3, 12), (9, 2, 11), (9, 1, 10), (0, 2, 2), (2, 1, 5), (5, 0, 3), (5, 2, 7), (5, 1, 6), (2, 0, 3), (3, 1, 1), (3, 0, 4), (0, 0, 1)], M) (fun r w' => r = none ∧ w' = (TT 78, true, RT [(70, 12, 77), (70, 11, 76), (70, 10, 75), (70, 9, 74), (70, 8, 73), (70, 7, 72), (70, 0, 71), (0, 6, 62), (62, 12, 69), (62, 11, 68), (62, 10, 67), (62, 9, 66), (62, 8, 65), (62, 7, 64), (62, 0, 63), (0, 5, 54), (54, 12, 61), (54, 11, 60), (54, 10, 59), (54, 9, 58), (54, 8, 57), (54, 7, 56), (54, 0, 55), (31, 8, 53), (31, 6, 52), (31, 5, 51), (31, 4, 50), (31, 2, 43), (43, 5, 49), (43, 4, 48), (43, 3, 47), (43, 2, 46), (43, 1, 45), (43, 0, 44), (31, 1, 37), (37, 5, 42), (37, 4, 41), (37, 3, 40), (37, 2, 39), (37, 1, 38), (31, 0, 32), (32, 4, 36), (32, 3, 35), (32, 2, 34), (32, 1, 33), (8, 8, 30), (8, 6, 29), (8, 5, 28), (8, 4, 27), (8, 2, 20), (20, 5, 26), (20, 4, 25), (20, 3, 24), (20, 2, 23), (20, 1, 22), (20, 0, 21), (8, 1, 14), (14, 5, 19), (14, 4, 18), (14, 3, 17), (14, 2, 16), (14, 1, 15), (8, 0, 9), (9, 4, 13), (9, 3, 12), (9, 2, 11), (9, 1, 10), (0, 2, 2), (2, 1, 5), (5, 0, 3), (5, 2, 7), (5, 1, 6), (2, 0, 3), (3, 1, 1), (3, 0, 4), (0, 0, 1)], g_X0_init_70 M)) := by
  refine MetC.seg (o := some ()) (x := ()) (t := (fun K _ => K none (TT 78, true, RT [(70, 12, 77), (70, 11, 76), (70, 10, 75), (70, 9, 74), (70, 8, 73), (70, 7, 72), (70, 0, 71), (0, 6, 62), (62, 12, 69), (62, 11, 68), (62, 10, 67), (62, 9, 66), (62, 8, 65), (62, 7, 64), (62, 0, 63), (0, 5, 54), (54, 12, 61), (54, 11, 60), (54, 10, 59), (54, 9, 58), (54, 8, 57), (54, 7, 56), (54, 0, 55), (31, 8, 53), (31, 6, 52), (31, 5, 51), (31, 4, 50), (31, 2, 43), (43, 5, 49), (43, 4, 48), (43, 3, 47), (43, 2, 46), (43, 1, 45), (43, 0, 44), (31, 1, 37), (37, 5, 42), (37, 4, 41), (37, 3, 40), (37, 2, 39), (37, 1, 38), (31, 0, 32), (32, 4, 36), (32, 3, 35), (32, 2, 34), (32, 1, 33), (8, 8, 30), (8, 6, 29), (8, 5, 28), (8, 4, 27), (8, 2, 20), (20, 5, 26), (20, 4, 25), (20, 3, 24), (20, 2, 23), (20, 1, 22), (20, 0, 21), (8, 1, 14), (14, 5, 19), (14, 4, 18), (14, 3, 17), (14, 2, 16), (14, 1, 15), (8, 0, 9), (9, 4, 13), (9, 3, 12), (9, 2, 11), (9, 1, 10), (0, 2, 2), (2, 1, 5), (5, 0, 3), (5, 2, 7), (5, 1, 6), (2, 0, 3), (3, 1, 1), (3, 0, 4), (0, 0, 1)], g_X0_init_70 M))) (L := [some (rV 70), some (rV 8)]) (by decide) rfl (Nat.le_of_ble_eq_true rfl) ?_ rfl ⟨rfl, rfl⟩
  refine Seg.step (pc' := 1) (I_aload_n (i := 0) dX0_init_0 rfl rfl) ?_
  refine Seg.step (pc' := 4) (I_oinit wm_0_3 wo_i wo_c (by decide) (Nat.le_of_ble_eq_true rfl) dX0_init_1) ?_
  refine Seg.step (pc' := 5) (I_aload_n (i := 0) dX0_init_4 rfl rfl) ?_
  refine Seg.step (pc' := 8) (I_newT (a := 71) rfl rfl hZ (fun j => rfl) cls10 (by decide +kernel) wc_0_9 wi_10 wz_10 (by decide) (by decide) dX0_init_5) ?_
  refine Seg.step (pc' := 9) (I_dup dX0_init_8 (fun _ h => by cases h)) ?_
  refine S_callJ0 (md' := mi_X10_init_71) (o1 := some ()) (kk := fun _ => some ()) (fun _ => none) (fun _ => (TT 72, true, RT [(0, 6, 62), (62, 12, 69), (62, 11, 68), (62, 10, 67), (62, 9, 66), (62, 8, 65), (62, 7, 64), (62, 0, 63), (0, 5, 54), (54, 12, 61), (54, 11, 60), (54, 10, 59), (54, 9, 58), (54, 8, 57), (54, 7, 56), (54, 0, 55), (31, 8, 53), (31, 6, 52), (31, 5, 51), (31, 4, 50), (31, 2, 43), (43, 5, 49), (43, 4, 48), (43, 3, 47), (43, 2, 46), (43, 1, 45), (43, 0, 44), (31, 1, 37), (37, 5, 42), (37, 4, 41), (37, 3, 40), (37, 2, 39), (37, 1, 38), (31, 0, 32), (32, 4, 36), (32, 3, 35), (32, 2, 34), (32, 1, 33), (8, 8, 30), (8, 6, 29), (8, 5, 28), (8, 4, 27), (8, 2, 20), (20, 5, 26), (20, 4, 25), (20, 3, 24), (20, 2, 23), (20, 1, 22), (20, 0, 21), (8, 1, 14), (14, 5, 19), (14, 4, 18), (14, 3, 17), (14, 2, 16), (14, 1, 15), (8, 0, 9), (9, 4, 13), (9, 3, 12), (9, 2, 11), (9, 1, 10), (0, 2, 2), (2, 1, 5), (5, 0, 3), (5, 2, 7), (5, 1, 6), (2, 0, 3), (3, 1, 1), (3, 0, 4), (0, 0, 1)], (g_X10_init_71 M))) mm_i_X10_init_71 rfl wn_0_11 ⟨rfl, rfl, by decide, by decide, by decide, by decide⟩ (Nat.le_of_ble_eq_true rfl) dX0_init_9 (fun _ _ => ci_X10_init_71 (Zf.mono hZ (Nat.le_succ _))) (fun _ => ?_)
  refine Seg.step (pc' := 15) (I_putR cls0 (by decide) wf_0_12 rfl rfl (Or.inr ⟨rfl, rfl, rfl⟩) dX0_init_12) ?_
  refine Seg.step (pc' := 16) (I_aload_n (i := 0) dX0_init_15 rfl rfl) ?_
  refine Seg.step (pc' := 17) (I_iconst dX0_init_16 ⟨by decide, by decide⟩) ?_
  refine Seg.step (pc' := 19) (I_newaT (q := 51) (N := 5) (a := 72) (atype := .boolean) rfl rfl (z_X10_init_71 (Zf.mono hZ (Nat.le_succ _))) (fun j => rfl) (by decide) rfl (by decide) wa_51 (by decide) (by decide) (by decide) dX0_init_17) ?_
  refine Seg.step (pc' := 22) (I_putR cls0 (by decide) wf_0_18 rfl rfl (Or.inr ⟨rfl, rfl, rfl⟩) dX0_init_19) ?_
  refine Seg.step (pc' := 23) (I_aload_n (i := 0) dX0_init_22 rfl rfl) ?_
  refine Seg.step (pc' := 25) (I_bipush dX0_init_23 (by decide) ⟨by decide, by decide⟩) ?_
  refine Seg.step (pc' := 27) (I_newaT (q := 50) (N := 30) (a := 73) (atype := .int) rfl rfl (Zf.mono (z_X10_init_71 (Zf.mono hZ (Nat.le_succ _))) (Nat.le_succ _)) (fun j => rfl) (by decide) rfl (by decide) wa_50 (by decide) (by decide) (by decide) dX0_init_25) ?_
  refine Seg.step (pc' := 30) (I_putR cls0 (by decide) wf_0_22 rfl rfl (Or.inr ⟨rfl, rfl, rfl⟩) dX0_init_27) ?_
  refine Seg.step (pc' := 31) (I_aload_n (i := 0) dX0_init_30 rfl rfl) ?_
  refine Seg.step (pc' := 32) (I_iconst dX0_init_31 ⟨by decide, by decide⟩) ?_
  refine Seg.step (pc' := 34) (I_newaT (q := 50) (N := 5) (a := 74) (atype := .int) rfl rfl (Zf.mono (Zf.mono (z_X10_init_71 (Zf.mono hZ (Nat.le_succ _))) (Nat.le_succ _)) (Nat.le_succ _)) (fun j => rfl) (by decide) rfl (by decide) wa_50 (by decide) (by decide) (by decide) dX0_init_32) ?_
  refine Seg.step (pc' := 37) (I_putR cls0 (by decide) wf_0_26 rfl rfl (Or.inr ⟨rfl, rfl, rfl⟩) dX0_init_34) ?_
  refine Seg.step (pc' := 38) (I_aload_n (i := 0) dX0_init_37 rfl rfl) ?_
  refine Seg.step (pc' := 39) (I_iconst dX0_init_38 ⟨by decide, by decide⟩) ?_
  refine Seg.step (pc' := 41) (I_newaT (q := 50) (N := 5) (a := 75) (atype := .int) rfl rfl (Zf.mono (Zf.mono (Zf.mono (z_X10_init_71 (Zf.mono hZ (Nat.le_succ _))) (Nat.le_succ _)) (Nat.le_succ _)) (Nat.le_succ _)) (fun j => rfl) (by decide) rfl (by decide) wa_50 (by decide) (by decide) (by decide) dX0_init_39) ?_
  refine Seg.step (pc' := 44) (I_putR cls0 (by decide) wf_0_29 rfl rfl (Or.inr ⟨rfl, rfl, rfl⟩) dX0_init_41) ?_
  refine Seg.step (pc' := 45) (I_aload_n (i := 0) dX0_init_44 rfl rfl) ?_
  refine Seg.step (pc' := 47) (I_bipush dX0_init_45 (by decide) ⟨by decide, by decide⟩) ?_
  refine Seg.step (pc' := 49) (I_newaT (q := 50) (N := 24) (a := 76) (atype := .int) rfl rfl (Zf.mono (Zf.mono (Zf.mono (Zf.mono (z_X10_init_71 (Zf.mono hZ (Nat.le_succ _))) (Nat.le_succ _)) (Nat.le_succ _)) (Nat.le_succ _)) (Nat.le_succ _)) (fun j => rfl) (by decide) rfl (by decide) wa_50 (by decide) (by decide) (by decide) dX0_init_47) ?_
  refine Seg.step (pc' := 52) (I_putR cls0 (by decide) wf_0_32 rfl rfl (Or.inr ⟨rfl, rfl, rfl⟩) dX0_init_49) ?_
  refine Seg.step (pc' := 53) (I_aload_n (i := 0) dX0_init_52 rfl rfl) ?_
  refine Seg.step (pc' := 55) (I_bipush dX0_init_53 (by decide) ⟨by decide, by decide⟩) ?_
  refine Seg.step (pc' := 57) (I_newaT (q := 50) (N := 24) (a := 77) (atype := .int) rfl rfl (Zf.mono (Zf.mono (Zf.mono (Zf.mono (Zf.mono (z_X10_init_71 (Zf.mono hZ (Nat.le_succ _))) (Nat.le_succ _)) (Nat.le_succ _)) (Nat.le_succ _)) (Nat.le_succ _)) (Nat.le_succ _)) (fun j => rfl) (by decide) rfl (by decide) wa_50 (by decide) (by decide) (by decide) dX0_init_55) ?_
  refine Seg.step (pc' := 60) (I_putR cls0 (by decide) wf_0_35 rfl rfl (Or.inr ⟨rfl, rfl, rfl⟩) dX0_init_57) ?_
  refine Seg.step (pc' := 61) (I_aload_n (i := 0) dX0_init_60 rfl rfl) ?_
  refine Seg.step (pc' := 62) (I_aload_n (i := 1) dX0_init_61 rfl rfl) ?_
  refine Seg.step (pc' := 65) (I_putH cls0 (by decide) wf_0_38 rfl rfl (by decide) rfl dX0_init_62) ?_
  refine Seg.step (pc' := 66) (I_aload_n (i := 0) dX0_init_65 rfl rfl) ?_
  refine Seg.step (pc' := 67) (I_aload_n (i := 1) dX0_init_66 rfl rfl) ?_
  refine Seg.step (pc' := 70) (I_getI cls2 (by decide) wf_0_42 rfl rfl dX0_init_67) ?_
  refine Seg.step (pc' := 73) (I_putI cls0 (by decide) wf_0_48 rfl rfl rfl dX0_init_70) ?_
  exact S_vret dX0_init_73 rfl (by decide) (by decide) (fun K hK => hK)
def mi_X4_init_78 : MD := (yX4_init, cX4_init, 1, none, { frames := 1, cells := 5, slots := 120, locals := 20 })
theorem mm_i_X4_init_78 : MdI mi_X4_init_78 0 := ⟨⟨wcd_X4_init, wz_4, ⟨by decide, by decide⟩, by decide +kernel⟩, rfl, win_X4_init⟩
def g_X4_init_78 (M : MM) : MM := (upM M 78 1 (-1))
theorem z_X4_init_78 {M : MM} (hZ : Zf M 79) : Zf (g_X4_init_78 M) 84 := (Zf.mono (Zf.mono (Zf.mono (Zf.mono (Zf.mono (Zf.up hZ (by decide)) (Nat.le_succ _)) (Nat.le_succ _)) (Nat.le_succ _)) (Nat.le_succ _)) (Nat.le_succ _))
set_option maxRecDepth 8000 in
theorem ci_X4_init_78 {E : EE} {M : MM} (hZ : Zf M 79) : MetC E mi_X4_init_78 5 120 [rV 78] (TT 79, true, RT [(0, 8, 70), (70, 12, 77), (70, 11, 76), (70, 10, 75), (70, 9, 74), (70, 8, 73), (70, 7, 72), (70, 0, 71), (0, 6, 62), (62, 12, 69), (62, 11, 68), (62, 10, 67), (62, 9, 66), (62, 8, 65), (62, 7, 64), (62, 0, 63), (0, 5, 54), (54, 12, 61), (54, 11, 60), (54, 10, 59), (54, 9, 58), (54, 8, 57), (54, 7, 56), (54, 0, 55), (31, 8, 53), (31, 6, 52), (31, 5, 51), (31, 4, 50), (31, 2, 43), (43, 5, 49), (43, 4, 48), (43, 3, 47), (43, 2, 46), (43, 1, 45), (43, 0, 44), (31, 1, 37), (37, 5, 42), (37, 4, 41), (37, 3, 40), (37, 2, 39), (37, 1, 38), (31, 0, 32), (32, 4, 36), (32, 3, 35), (32, 2, 34), (32, 1, 33), (8, 8, 30), (8, 6, 29), (8, 5, 28), (8, 4, 27), (8, 2, 20), (20, 5, 26), (20, 4, 25), (20, 3, 24), (20, 2, 23), (20, 1, 22), (20, 0, 21), (8, 1, 14), (14, 5, 19), (14, 4, 18), (14, 3, 17), (14, 2, 16), (14, 1, 15), (8, 0, 9), (9, 4, 13), (9, 3, 12), (9, 2, 11), (9, 1, 10), (0, 2, 2), (2, 1, 5), (5, 0, 3), (5, 2, 7), (5, 1, 6), (2, 0, 3), (3, 1, 1), (3, 0, 4), (0, 0, 1)], M) (fun r w' => r = none ∧ w' = (TT 84, true, RT [(78, 6, 83), (78, 5, 82), (78, 4, 81), (78, 3, 80), (78, 2, 79), (0, 8, 70), (70, 12, 77), (70, 11, 76), (70, 10, 75), (70, 9, 74), (70, 8, 73), (70, 7, 72), (70, 0, 71), (0, 6, 62), (62, 12, 69), (62, 11, 68), (62, 10, 67), (62, 9, 66), (62, 8, 65), (62, 7, 64), (62, 0, 63), (0, 5, 54), (54, 12, 61), (54, 11, 60), (54, 10, 59), (54, 9, 58), (54, 8, 57), (54, 7, 56), (54, 0, 55), (31, 8, 53), (31, 6, 52), (31, 5, 51), (31, 4, 50), (31, 2, 43), (43, 5, 49), (43, 4, 48), (43, 3, 47), (43, 2, 46), (43, 1, 45), (43, 0, 44), (31, 1, 37), (37, 5, 42), (37, 4, 41), (37, 3, 40), (37, 2, 39), (37, 1, 38), (31, 0, 32), (32, 4, 36), (32, 3, 35), (32, 2, 34), (32, 1, 33), (8, 8, 30), (8, 6, 29), (8, 5, 28), (8, 4, 27), (8, 2, 20), (20, 5, 26), (20, 4, 25), (20, 3, 24), (20, 2, 23), (20, 1, 22), (20, 0, 21), (8, 1, 14), (14, 5, 19), (14, 4, 18), (14, 3, 17), (14, 2, 16), (14, 1, 15), (8, 0, 9), (9, 4, 13), (9, 3, 12), (9, 2, 11), (9, 1, 10), (0, 2, 2), (2, 1, 5), (5, 0, 3), (5, 2, 7), (5, 1, 6), (2, 0, 3), (3, 1, 1), (3, 0, 4), (0, 0, 1)], g_X4_init_78 M)) := by
  refine MetC.seg (o := some ()) (x := ()) (t := (fun K _ => K none (TT 84, true, RT [(78, 6, 83), (78, 5, 82), (78, 4, 81), (78, 3, 80), (78, 2, 79), (0, 8, 70), (70, 12, 77), (70, 11, 76), (70, 10, 75), (70, 9, 74), (70, 8, 73), (70, 7, 72), (70, 0, 71), (0, 6, 62), (62, 12, 69), (62, 11, 68), (62, 10, 67), (62, 9, 66), (62, 8, 65), (62, 7, 64), (62, 0, 63), (0, 5, 54), (54, 12, 61), (54, 11, 60), (54, 10, 59), (54, 9, 58), (54, 8, 57), (54, 7, 56), (54, 0, 55), (31, 8, 53), (31, 6, 52), (31, 5, 51), (31, 4, 50), (31, 2, 43), (43, 5, 49), (43, 4, 48), (43, 3, 47), (43, 2, 46), (43, 1, 45), (43, 0, 44), (31, 1, 37), (37, 5, 42), (37, 4, 41), (37, 3, 40), (37, 2, 39), (37, 1, 38), (31, 0, 32), (32, 4, 36), (32, 3, 35), (32, 2, 34), (32, 1, 33), (8, 8, 30), (8, 6, 29), (8, 5, 28), (8, 4, 27), (8, 2, 20), (20, 5, 26), (20, 4, 25), (20, 3, 24), (20, 2, 23), (20, 1, 22), (20, 0, 21), (8, 1, 14), (14, 5, 19), (14, 4, 18), (14, 3, 17), (14, 2, 16), (14, 1, 15), (8, 0, 9), (9, 4, 13), (9, 3, 12), (9, 2, 11), (9, 1, 10), (0, 2, 2), (2, 1, 5), (5, 0, 3), (5, 2, 7), (5, 1, 6), (2, 0, 3), (3, 1, 1), (3, 0, 4), (0, 0, 1)], g_X4_init_78 M))) (L := [some (rV 78)]) (by decide) rfl (Nat.le_of_ble_eq_true rfl) ?_ rfl ⟨rfl, rfl⟩
  refine Seg.step (pc' := 1) (I_aload_n (i := 0) dX4_init_0 rfl rfl) ?_
  refine Seg.step (pc' := 4) (I_oinit wm_4_3 wo_i wo_c (by decide) (Nat.le_of_ble_eq_true rfl) dX4_init_1) ?_
  refine Seg.step (pc' := 5) (I_aload_n (i := 0) dX4_init_4 rfl rfl) ?_
  refine Seg.step (pc' := 6) (I_iconst dX4_init_5 ⟨by decide, by decide⟩) ?_
  refine Seg.step (pc' := 9) (I_putI cls4 (by decide) wf_4_9 rfl rfl rfl dX4_init_6) ?_
  refine Seg.step (pc' := 10) (I_aload_n (i := 0) dX4_init_9 rfl rfl) ?_
  refine Seg.step (pc' := 12) (I_bipush dX4_init_10 (by decide) ⟨by decide, by decide⟩) ?_
  refine Seg.step (pc' := 14) (I_newaT (q := 50) (N := 24) (a := 79) (atype := .int) rfl rfl (Zf.up hZ (by decide)) (fun j => rfl) (by decide) rfl (by decide) wa_50 (by decide) (by decide) (by decide) dX4_init_12) ?_
  refine Seg.step (pc' := 17) (I_putR cls4 (by decide) wf_4_15 rfl rfl (Or.inr ⟨rfl, rfl, rfl⟩) dX4_init_14) ?_
  refine Seg.step (pc' := 18) (I_aload_n (i := 0) dX4_init_17 rfl rfl) ?_
  refine Seg.step (pc' := 20) (I_bipush dX4_init_18 (by decide) ⟨by decide, by decide⟩) ?_
  refine Seg.step (pc' := 22) (I_newaT (q := 50) (N := 24) (a := 80) (atype := .int) rfl rfl (Zf.mono (Zf.up hZ (by decide)) (Nat.le_succ _)) (fun j => rfl) (by decide) rfl (by decide) wa_50 (by decide) (by decide) (by decide) dX4_init_20) ?_
  refine Seg.step (pc' := 25) (I_putR cls4 (by decide) wf_4_19 rfl rfl (Or.inr ⟨rfl, rfl, rfl⟩) dX4_init_22) ?_
  refine Seg.step (pc' := 26) (I_aload_n (i := 0) dX4_init_25 rfl rfl) ?_
  refine Seg.step (pc' := 28) (I_bipush dX4_init_26 (by decide) ⟨by decide, by decide⟩) ?_
  refine Seg.step (pc' := 30) (I_newaT (q := 51) (N := 24) (a := 81) (atype := .boolean) rfl rfl (Zf.mono (Zf.mono (Zf.up hZ (by decide)) (Nat.le_succ _)) (Nat.le_succ _)) (fun j => rfl) (by decide) rfl (by decide) wa_51 (by decide) (by decide) (by decide) dX4_init_28) ?_
  refine Seg.step (pc' := 33) (I_putR cls4 (by decide) wf_4_22 rfl rfl (Or.inr ⟨rfl, rfl, rfl⟩) dX4_init_30) ?_
  refine Seg.step (pc' := 34) (I_aload_n (i := 0) dX4_init_33 rfl rfl) ?_
  refine Seg.step (pc' := 36) (I_bipush dX4_init_34 (by decide) ⟨by decide, by decide⟩) ?_
  refine Seg.step (pc' := 38) (I_newaT (q := 50) (N := 24) (a := 82) (atype := .int) rfl rfl (Zf.mono (Zf.mono (Zf.mono (Zf.up hZ (by decide)) (Nat.le_succ _)) (Nat.le_succ _)) (Nat.le_succ _)) (fun j => rfl) (by decide) rfl (by decide) wa_50 (by decide) (by decide) (by decide) dX4_init_36) ?_
  refine Seg.step (pc' := 41) (I_putR cls4 (by decide) wf_4_26 rfl rfl (Or.inr ⟨rfl, rfl, rfl⟩) dX4_init_38) ?_
  refine Seg.step (pc' := 42) (I_aload_n (i := 0) dX4_init_41 rfl rfl) ?_
  refine Seg.step (pc' := 44) (I_bipush dX4_init_42 (by decide) ⟨by decide, by decide⟩) ?_
  refine Seg.step (pc' := 46) (I_newaT (q := 51) (N := 24) (a := 83) (atype := .boolean) rfl rfl (Zf.mono (Zf.mono (Zf.mono (Zf.mono (Zf.up hZ (by decide)) (Nat.le_succ _)) (Nat.le_succ _)) (Nat.le_succ _)) (Nat.le_succ _)) (fun j => rfl) (by decide) rfl (by decide) wa_51 (by decide) (by decide) (by decide) dX4_init_44) ?_
  refine Seg.step (pc' := 49) (I_putR cls4 (by decide) wf_4_29 rfl rfl (Or.inr ⟨rfl, rfl, rfl⟩) dX4_init_46) ?_
  exact S_vret dX4_init_49 rfl (by decide) (by decide) (fun K hK => hK)
def mi_X5_init_84 : MD := (yX5_init, cX5_init, 1, none, { frames := 1, cells := 3, slots := 60, locals := 20 })
theorem mm_i_X5_init_84 : MdI mi_X5_init_84 0 := ⟨⟨wcd_X5_init, wz_5, ⟨by decide, by decide⟩, by decide +kernel⟩, rfl, win_X5_init⟩
def g_X5_init_84 (M : MM) : MM := M
theorem z_X5_init_84 {M : MM} (hZ : Zf M 85) : Zf (g_X5_init_84 M) 88 := (Zf.mono (Zf.mono (Zf.mono hZ (Nat.le_succ _)) (Nat.le_succ _)) (Nat.le_succ _))
set_option maxRecDepth 8000 in
theorem ci_X5_init_84 {E : EE} {M : MM} (hZ : Zf M 85) : MetC E mi_X5_init_84 3 60 [rV 84] (TT 85, true, RT [(0, 9, 78), (78, 6, 83), (78, 5, 82), (78, 4, 81), (78, 3, 80), (78, 2, 79), (0, 8, 70), (70, 12, 77), (70, 11, 76), (70, 10, 75), (70, 9, 74), (70, 8, 73), (70, 7, 72), (70, 0, 71), (0, 6, 62), (62, 12, 69), (62, 11, 68), (62, 10, 67), (62, 9, 66), (62, 8, 65), (62, 7, 64), (62, 0, 63), (0, 5, 54), (54, 12, 61), (54, 11, 60), (54, 10, 59), (54, 9, 58), (54, 8, 57), (54, 7, 56), (54, 0, 55), (31, 8, 53), (31, 6, 52), (31, 5, 51), (31, 4, 50), (31, 2, 43), (43, 5, 49), (43, 4, 48), (43, 3, 47), (43, 2, 46), (43, 1, 45), (43, 0, 44), (31, 1, 37), (37, 5, 42), (37, 4, 41), (37, 3, 40), (37, 2, 39), (37, 1, 38), (31, 0, 32), (32, 4, 36), (32, 3, 35), (32, 2, 34), (32, 1, 33), (8, 8, 30), (8, 6, 29), (8, 5, 28), (8, 4, 27), (8, 2, 20), (20, 5, 26), (20, 4, 25), (20, 3, 24), (20, 2, 23), (20, 1, 22), (20, 0, 21), (8, 1, 14), (14, 5, 19), (14, 4, 18), (14, 3, 17), (14, 2, 16), (14, 1, 15), (8, 0, 9), (9, 4, 13), (9, 3, 12), (9, 2, 11), (9, 1, 10), (0, 2, 2), (2, 1, 5), (5, 0, 3), (5, 2, 7), (5, 1, 6), (2, 0, 3), (3, 1, 1), (3, 0, 4), (0, 0, 1)], M) (fun r w' => r = none ∧ w' = (TT 88, true, RT [(84, 3, 87), (84, 2, 86), (84, 1, 85), (0, 9, 78), (78, 6, 83), (78, 5, 82), (78, 4, 81), (78, 3, 80), (78, 2, 79), (0, 8, 70), (70, 12, 77), (70, 11, 76), (70, 10, 75), (70, 9, 74), (70, 8, 73), (70, 7, 72), (70, 0, 71), (0, 6, 62), (62, 12, 69), (62, 11, 68), (62, 10, 67), (62, 9, 66), (62, 8, 65), (62, 7, 64), (62, 0, 63), (0, 5, 54), (54, 12, 61), (54, 11, 60), (54, 10, 59), (54, 9, 58), (54, 8, 57), (54, 7, 56), (54, 0, 55), (31, 8, 53), (31, 6, 52), (31, 5, 51), (31, 4, 50), (31, 2, 43), (43, 5, 49), (43, 4, 48), (43, 3, 47), (43, 2, 46), (43, 1, 45), (43, 0, 44), (31, 1, 37), (37, 5, 42), (37, 4, 41), (37, 3, 40), (37, 2, 39), (37, 1, 38), (31, 0, 32), (32, 4, 36), (32, 3, 35), (32, 2, 34), (32, 1, 33), (8, 8, 30), (8, 6, 29), (8, 5, 28), (8, 4, 27), (8, 2, 20), (20, 5, 26), (20, 4, 25), (20, 3, 24), (20, 2, 23), (20, 1, 22), (20, 0, 21), (8, 1, 14), (14, 5, 19), (14, 4, 18), (14, 3, 17), (14, 2, 16), (14, 1, 15), (8, 0, 9), (9, 4, 13), (9, 3, 12), (9, 2, 11), (9, 1, 10), (0, 2, 2), (2, 1, 5), (5, 0, 3), (5, 2, 7), (5, 1, 6), (2, 0, 3), (3, 1, 1), (3, 0, 4), (0, 0, 1)], g_X5_init_84 M)) := by
  refine MetC.seg (o := some ()) (x := ()) (t := (fun K _ => K none (TT 88, true, RT [(84, 3, 87), (84, 2, 86), (84, 1, 85), (0, 9, 78), (78, 6, 83), (78, 5, 82), (78, 4, 81), (78, 3, 80), (78, 2, 79), (0, 8, 70), (70, 12, 77), (70, 11, 76), (70, 10, 75), (70, 9, 74), (70, 8, 73), (70, 7, 72), (70, 0, 71), (0, 6, 62), (62, 12, 69), (62, 11, 68), (62, 10, 67), (62, 9, 66), (62, 8, 65), (62, 7, 64), (62, 0, 63), (0, 5, 54), (54, 12, 61), (54, 11, 60), (54, 10, 59), (54, 9, 58), (54, 8, 57), (54, 7, 56), (54, 0, 55), (31, 8, 53), (31, 6, 52), (31, 5, 51), (31, 4, 50), (31, 2, 43), (43, 5, 49), (43, 4, 48), (43, 3, 47), (43, 2, 46), (43, 1, 45), (43, 0, 44), (31, 1, 37), (37, 5, 42), (37, 4, 41), (37, 3, 40), (37, 2, 39), (37, 1, 38), (31, 0, 32), (32, 4, 36), (32, 3, 35), (32, 2, 34), (32, 1, 33), (8, 8, 30), (8, 6, 29), (8, 5, 28), (8, 4, 27), (8, 2, 20), (20, 5, 26), (20, 4, 25), (20, 3, 24), (20, 2, 23), (20, 1, 22), (20, 0, 21), (8, 1, 14), (14, 5, 19), (14, 4, 18), (14, 3, 17), (14, 2, 16), (14, 1, 15), (8, 0, 9), (9, 4, 13), (9, 3, 12), (9, 2, 11), (9, 1, 10), (0, 2, 2), (2, 1, 5), (5, 0, 3), (5, 2, 7), (5, 1, 6), (2, 0, 3), (3, 1, 1), (3, 0, 4), (0, 0, 1)], g_X5_init_84 M))) (L := [some (rV 84)]) (by decide) rfl (Nat.le_of_ble_eq_true rfl) ?_ rfl ⟨rfl, rfl⟩
  refine Seg.step (pc' := 1) (I_aload_n (i := 0) dX5_init_0 rfl rfl) ?_
  refine Seg.step (pc' := 4) (I_oinit wm_5_3 wo_i wo_c (by decide) (Nat.le_of_ble_eq_true rfl) dX5_init_1) ?_
  refine Seg.step (pc' := 5) (I_aload_n (i := 0) dX5_init_4 rfl rfl) ?_
  refine Seg.step (pc' := 7) (I_bipush dX5_init_5 (by decide) ⟨by decide, by decide⟩) ?_
  refine Seg.step (pc' := 9) (I_newaT (q := 50) (N := 20) (a := 85) (atype := .int) rfl rfl hZ (fun j => rfl) (by decide) rfl (by decide) wa_50 (by decide) (by decide) (by decide) dX5_init_7) ?_
  refine Seg.step (pc' := 12) (I_putR cls5 (by decide) wf_5_9 rfl rfl (Or.inr ⟨rfl, rfl, rfl⟩) dX5_init_9) ?_
  refine Seg.step (pc' := 13) (I_aload_n (i := 0) dX5_init_12 rfl rfl) ?_
  refine Seg.step (pc' := 15) (I_bipush dX5_init_13 (by decide) ⟨by decide, by decide⟩) ?_
  refine Seg.step (pc' := 17) (I_newaT (q := 50) (N := 20) (a := 86) (atype := .int) rfl rfl (Zf.mono hZ (Nat.le_succ _)) (fun j => rfl) (by decide) rfl (by decide) wa_50 (by decide) (by decide) (by decide) dX5_init_15) ?_
  refine Seg.step (pc' := 20) (I_putR cls5 (by decide) wf_5_15 rfl rfl (Or.inr ⟨rfl, rfl, rfl⟩) dX5_init_17) ?_
  refine Seg.step (pc' := 21) (I_aload_n (i := 0) dX5_init_20 rfl rfl) ?_
  refine Seg.step (pc' := 23) (I_bipush dX5_init_21 (by decide) ⟨by decide, by decide⟩) ?_
  refine Seg.step (pc' := 25) (I_newaT (q := 50) (N := 20) (a := 87) (atype := .int) rfl rfl (Zf.mono (Zf.mono hZ (Nat.le_succ _)) (Nat.le_succ _)) (fun j => rfl) (by decide) rfl (by decide) wa_50 (by decide) (by decide) (by decide) dX5_init_23) ?_
  refine Seg.step (pc' := 28) (I_putR cls5 (by decide) wf_5_18 rfl rfl (Or.inr ⟨rfl, rfl, rfl⟩) dX5_init_25) ?_
  exact S_vret dX5_init_28 rfl (by decide) (by decide) (fun K hK => hK)
def mi_X11_init_0 : MD := (yX11_init, cX11_init, 1, none, { frames := 10, cells := 87, slots := 1987, locals := 345 })
theorem mm_i_X11_init_0 : MdI mi_X11_init_0 0 := ⟨⟨wcd_X11_init, wz_11, ⟨by decide, by decide⟩, by decide +kernel⟩, rfl, win_X11_init⟩
def g_X11_init_0 (M : MM) : MM := (upM (g_X5_init_84 (g_X4_init_78 (g_X0_init_70 (g_X0_init_62 (g_X0_init_54 (upM (g_X2_init_31 (upM (g_X2_init_8 (g_X7_init_2 M)) 0 3 8)) 0 4 31)))))) 0 12 (-1))
theorem z_X11_init_0 {M : MM} (hZ : Zf M 1) : Zf (g_X11_init_0 M) 88 := (Zf.up (z_X5_init_84 (Zf.mono (z_X4_init_78 (Zf.mono (z_X0_init_70 (Zf.mono (z_X0_init_62 (Zf.mono (z_X0_init_54 (Zf.mono (Zf.up (z_X2_init_31 (Zf.mono (Zf.up (z_X2_init_8 (Zf.mono (z_X7_init_2 (Zf.mono (Zf.mono hZ (Nat.le_succ _)) (Nat.le_succ _))) (Nat.le_succ _))) (by decide)) (Nat.le_succ _))) (by decide)) (Nat.le_succ _))) (Nat.le_succ _))) (Nat.le_succ _))) (Nat.le_succ _))) (Nat.le_succ _))) (by decide))
set_option maxRecDepth 8000 in
theorem ci_X11_init_0 {E : EE} {M : MM} (hZ : Zf M 1) (hTok : TokOK) : MetC E mi_X11_init_0 87 1987 [rV 0] (TT 1, true, RT [], M) (fun r w' => r = none ∧ w' = (TT 88, true, RT [(0, 10, 84), (84, 3, 87), (84, 2, 86), (84, 1, 85), (0, 9, 78), (78, 6, 83), (78, 5, 82), (78, 4, 81), (78, 3, 80), (78, 2, 79), (0, 8, 70), (70, 12, 77), (70, 11, 76), (70, 10, 75), (70, 9, 74), (70, 8, 73), (70, 7, 72), (70, 0, 71), (0, 6, 62), (62, 12, 69), (62, 11, 68), (62, 10, 67), (62, 9, 66), (62, 8, 65), (62, 7, 64), (62, 0, 63), (0, 5, 54), (54, 12, 61), (54, 11, 60), (54, 10, 59), (54, 9, 58), (54, 8, 57), (54, 7, 56), (54, 0, 55), (31, 8, 53), (31, 6, 52), (31, 5, 51), (31, 4, 50), (31, 2, 43), (43, 5, 49), (43, 4, 48), (43, 3, 47), (43, 2, 46), (43, 1, 45), (43, 0, 44), (31, 1, 37), (37, 5, 42), (37, 4, 41), (37, 3, 40), (37, 2, 39), (37, 1, 38), (31, 0, 32), (32, 4, 36), (32, 3, 35), (32, 2, 34), (32, 1, 33), (8, 8, 30), (8, 6, 29), (8, 5, 28), (8, 4, 27), (8, 2, 20), (20, 5, 26), (20, 4, 25), (20, 3, 24), (20, 2, 23), (20, 1, 22), (20, 0, 21), (8, 1, 14), (14, 5, 19), (14, 4, 18), (14, 3, 17), (14, 2, 16), (14, 1, 15), (8, 0, 9), (9, 4, 13), (9, 3, 12), (9, 2, 11), (9, 1, 10), (0, 2, 2), (2, 1, 5), (5, 0, 3), (5, 2, 7), (5, 1, 6), (2, 0, 3), (3, 1, 1), (3, 0, 4), (0, 0, 1)], g_X11_init_0 M)) := by
  refine MetC.seg (o := some ()) (x := ()) (t := (fun K _ => K none (TT 88, true, RT [(0, 10, 84), (84, 3, 87), (84, 2, 86), (84, 1, 85), (0, 9, 78), (78, 6, 83), (78, 5, 82), (78, 4, 81), (78, 3, 80), (78, 2, 79), (0, 8, 70), (70, 12, 77), (70, 11, 76), (70, 10, 75), (70, 9, 74), (70, 8, 73), (70, 7, 72), (70, 0, 71), (0, 6, 62), (62, 12, 69), (62, 11, 68), (62, 10, 67), (62, 9, 66), (62, 8, 65), (62, 7, 64), (62, 0, 63), (0, 5, 54), (54, 12, 61), (54, 11, 60), (54, 10, 59), (54, 9, 58), (54, 8, 57), (54, 7, 56), (54, 0, 55), (31, 8, 53), (31, 6, 52), (31, 5, 51), (31, 4, 50), (31, 2, 43), (43, 5, 49), (43, 4, 48), (43, 3, 47), (43, 2, 46), (43, 1, 45), (43, 0, 44), (31, 1, 37), (37, 5, 42), (37, 4, 41), (37, 3, 40), (37, 2, 39), (37, 1, 38), (31, 0, 32), (32, 4, 36), (32, 3, 35), (32, 2, 34), (32, 1, 33), (8, 8, 30), (8, 6, 29), (8, 5, 28), (8, 4, 27), (8, 2, 20), (20, 5, 26), (20, 4, 25), (20, 3, 24), (20, 2, 23), (20, 1, 22), (20, 0, 21), (8, 1, 14), (14, 5, 19), (14, 4, 18), (14, 3, 17), (14, 2, 16), (14, 1, 15), (8, 0, 9), (9, 4, 13), (9, 3, 12), (9, 2, 11), (9, 1, 10), (0, 2, 2), (2, 1, 5), (5, 0, 3), (5, 2, 7), (5, 1, 6), (2, 0, 3), (3, 1, 1), (3, 0, 4), (0, 0, 1)], g_X11_init_0 M))) (L := [some (rV 0)]) (by decide) rfl (Nat.le_of_ble_eq_true rfl) ?_ rfl ⟨rfl, rfl⟩
  refine Seg.step (pc' := 1) (I_aload_n (i := 0) dX11_init_0 rfl rfl) ?_
  refine Seg.step (pc' := 4) (I_oinit wm_11_3 wo_i wo_c (by decide) (Nat.le_of_ble_eq_true rfl) dX11_init_1) ?_
  refine Seg.step (pc' := 5) (I_aload_n (i := 0) dX11_init_4 rfl rfl) ?_
  refine Seg.step (pc' := 8) (I_sipush dX11_init_5 (by decide) ⟨by decide, by decide⟩) ?_
  refine Seg.step (pc' := 10) (I_newaT (q := 52) (N := 700) (a := 1) (atype := .byte) rfl rfl hZ (fun j => rfl) (by decide) rfl (by decide) wa_52 (by decide) (by decide) (by decide) dX11_init_8) ?_
  refine Seg.step (pc' := 13) (I_putR cls11 (by decide) wf_11_11 rfl rfl (Or.inr ⟨rfl, rfl, rfl⟩) dX11_init_10) ?_
  refine Seg.step (pc' := 14) (I_aload_n (i := 0) dX11_init_13 rfl rfl) ?_
  refine Seg.step (pc' := 17) (I_newT (a := 2) rfl rfl (Zf.mono hZ (Nat.le_succ _)) (fun j => rfl) cls7 (by decide +kernel) wc_11_15 wi_7 wz_7 (by decide) (by decide) dX11_init_14) ?_
  refine Seg.step (pc' := 18) (I_dup dX11_init_17 (fun _ h => by cases h)) ?_
  refine Seg.step (pc' := 19) (I_aload_n (i := 0) dX11_init_18 rfl rfl) ?_
  refine Seg.step (pc' := 22) (I_getR (b := 1) cls11 (by decide) wf_11_11 rfl rfl rfl dX11_init_19) ?_
  refine S_callI1 (md' := mi_X7_init_2) (o1 := some ()) (kk := fun _ => some ()) (fun _ => none) (fun _ => (TT 8, true, RT [(2, 1, 5), (5, 0, 3), (5, 2, 7), (5, 1, 6), (2, 0, 3), (3, 1, 1), (3, 0, 4), (0, 0, 1)], (g_X7_init_2 M))) mm_i_X7_init_2 rfl wm_11_17 ⟨rfl, rfl, by decide, by decide, by decide, by decide⟩ (Nat.le_of_ble_eq_true rfl) dX11_init_22 (fun _ _ => ci_X7_init_2 (Zf.mono (Zf.mono hZ (Nat.le_succ _)) (Nat.le_succ _)) hTok) (fun _ => ?_)
  refine Seg.step (pc' := 28) (I_putR cls11 (by decide) wf_11_20 rfl rfl (Or.inr ⟨rfl, rfl, rfl⟩) dX11_init_25) ?_
  refine Seg.step (pc' := 29) (I_aload_n (i := 0) dX11_init_28 rfl rfl) ?_
  refine Seg.step (pc' := 32) (I_newT (a := 8) rfl rfl (z_X7_init_2 (Zf.mono (Zf.mono hZ (Nat.le_succ _)) (Nat.le_succ _))) (fun j => rfl) cls2 (by decide +kernel) wc_11_24 wi_2 wz_2 (by decide) (by decide) dX11_init_29) ?_
  refine Seg.step (pc' := 33) (I_dup dX11_init_32 (fun _ h => by cases h)) ?_
  refine S_callJ0 (md' := mi_X2_init_8) (o1 := some ()) (kk := fun _ => some ()) (fun _ => none) (fun _ => (TT 31, true, RT [(8, 8, 30), (8, 6, 29), (8, 5, 28), (8, 4, 27), (8, 2, 20), (20, 5, 26), (20, 4, 25), (20, 3, 24), (20, 2, 23), (20, 1, 22), (20, 0, 21), (8, 1, 14), (14, 5, 19), (14, 4, 18), (14, 3, 17), (14, 2, 16), (14, 1, 15), (8, 0, 9), (9, 4, 13), (9, 3, 12), (9, 2, 11), (9, 1, 10), (0, 2, 2), (2, 1, 5), (5, 0, 3), (5, 2, 7), (5, 1, 6), (2, 0, 3), (3, 1, 1), (3, 0, 4), (0, 0, 1)], (g_X2_init_8 (g_X7_init_2 M)))) mm_i_X2_init_8 rfl wn_11_26 ⟨rfl, rfl, by decide, by decide, by decide, by decide⟩ (Nat.le_of_ble_eq_true rfl) dX11_init_33 (fun _ _ => ci_X2_init_8 (Zf.mono (z_X7_init_2 (Zf.mono (Zf.mono hZ (Nat.le_succ _)) (Nat.le_succ _))) (Nat.le_succ _))) (fun _ => ?_)
  refine Seg.step (pc' := 39) (I_putH cls11 (by decide) wf_11_27 rfl rfl (by decide) rfl dX11_init_36) ?_
  refine Seg.step (pc' := 40) (I_aload_n (i := 0) dX11_init_39 rfl rfl) ?_
  refine Seg.step (pc' := 43) (I_newT (a := 31) rfl rfl (Zf.up (z_X2_init_8 (Zf.mono (z_X7_init_2 (Zf.mono (Zf.mono hZ (Nat.le_succ _)) (Nat.le_succ _))) (Nat.le_succ _))) (by decide)) (fun j => rfl) cls2 (by decide +kernel) wc_11_24 wi_2 wz_2 (by decide) (by decide) dX11_init_40) ?_
  refine Seg.step (pc' := 44) (I_dup dX11_init_43 (fun _ h => by cases h)) ?_
  refine S_callJ0 (md' := mi_X2_init_31) (o1 := some ()) (kk := fun _ => some ()) (fun _ => none) (fun _ => (TT 54, true, RT [(31, 8, 53), (31, 6, 52), (31, 5, 51), (31, 4, 50), (31, 2, 43), (43, 5, 49), (43, 4, 48), (43, 3, 47), (43, 2, 46), (43, 1, 45), (43, 0, 44), (31, 1, 37), (37, 5, 42), (37, 4, 41), (37, 3, 40), (37, 2, 39), (37, 1, 38), (31, 0, 32), (32, 4, 36), (32, 3, 35), (32, 2, 34), (32, 1, 33), (8, 8, 30), (8, 6, 29), (8, 5, 28), (8, 4, 27), (8, 2, 20), (20, 5, 26), (20, 4, 25), (20, 3, 24), (20, 2, 23), (20, 1, 22), (20, 0, 21), (8, 1, 14), (14, 5, 19), (14, 4, 18), (14, 3, 17), (14, 2, 16), (14, 1, 15), (8, 0, 9), (9, 4, 13), (9, 3, 12), (9, 2, 11), (9, 1, 10), (0, 2, 2), (2, 1, 5), (5, 0, 3), (5, 2, 7), (5, 1, 6), (2, 0, 3), (3, 1, 1), (3, 0, 4), (0, 0, 1)], (g_X2_init_31 (upM (g_X2_init_8 (g_X7_init_2 M)) 0 3 8)))) mm_i_X2_init_31 rfl wn_11_26 ⟨rfl, rfl, by decide, by decide, by decide, by decide⟩ (Nat.le_of_ble_eq_true rfl) dX11_init_44 (fun _ _ => ci_X2_init_31 (Zf.mono (Zf.up (z_X2_init_8 (Zf.mono (z_X7_init_2 (Zf.mono (Zf.mono hZ (Nat.le_succ _)) (Nat.le_succ _))) (Nat.le_succ _))) (by decide)) (Nat.le_succ _))) (fun _ => ?_)
  refine Seg.step (pc' := 50) (I_putH cls11 (by decide) wf_11_31 rfl rfl (by decide) rfl dX11_init_47) ?_
  refine Seg.step (pc' := 51) (I_aload_n (i := 0) dX11_init_50 rfl rfl) ?_
  refine Seg.step (pc' := 54) (I_newT (a := 54) rfl rfl (Zf.up (z_X2_init_31 (Zf.mono (Zf.up (z_X2_init_8 (Zf.mono (z_X7_init_2 (Zf.mono (Zf.mono hZ (Nat.le_succ _)) (Nat.le_succ _))) (Nat.le_succ _))) (by decide)) (Nat.le_succ _))) (by decide)) (fun j => rfl) cls0 (by decide +kernel) wc_11_34 wi_0 wz_0 (by decide) (by decide) dX11_init_51) ?_
  refine Seg.step (pc' := 55) (I_dup dX11_init_54 (fun _ h => by cases h)) ?_
  refine Seg.step (pc' := 56) (I_aload_n (i := 0) dX11_init_55 rfl rfl) ?_
  refine Seg.step (pc' := 59) (I_getH (h := 8) cls11 (by decide) wf_11_27 rfl rfl rfl (by decide) dX11_init_56) ?_
  refine S_callI1 (md' := mi_X0_init_54) (o1 := some ()) (kk := fun _ => some ()) (fun _ => none) (fun _ => (TT 62, true, RT [(54, 12, 61), (54, 11, 60), (54, 10, 59), (54, 9, 58), (54, 8, 57), (54, 7, 56), (54, 0, 55), (31, 8, 53), (31, 6, 52), (31, 5, 51), (31, 4, 50), (31, 2, 43), (43, 5, 49), (43, 4, 48), (43, 3, 47), (43, 2, 46), (43, 1, 45), (43, 0, 44), (31, 1, 37), (37, 5, 42), (37, 4, 41), (37, 3, 40), (37, 2, 39), (37, 1, 38), (31, 0, 32), (32, 4, 36), (32, 3, 35), (32, 2, 34), (32, 1, 33), (8, 8, 30), (8, 6, 29), (8, 5, 28), (8, 4, 27), (8, 2, 20), (20, 5, 26), (20, 4, 25), (20, 3, 24), (20, 2, 23), (20, 1, 22), (20, 0, 21), (8, 1, 14), (14, 5, 19), (14, 4, 18), (14, 3, 17), (14, 2, 16), (14, 1, 15), (8, 0, 9), (9, 4, 13), (9, 3, 12), (9, 2, 11), (9, 1, 10), (0, 2, 2), (2, 1, 5), (5, 0, 3), (5, 2, 7), (5, 1, 6), (2, 0, 3), (3, 1, 1), (3, 0, 4), (0, 0, 1)], (g_X0_init_54 (upM (g_X2_init_31 (upM (g_X2_init_8 (g_X7_init_2 M)) 0 3 8)) 0 4 31)))) mm_i_X0_init_54 rfl wm_11_36 ⟨rfl, rfl, by decide, by decide, by decide, by decide⟩ (Nat.le_of_ble_eq_true rfl) dX11_init_59 (fun _ _ => ci_X0_init_54 (Zf.mono (Zf.up (z_X2_init_31 (Zf.mono (Zf.up (z_X2_init_8 (Zf.mono (z_X7_init_2 (Zf.mono (Zf.mono hZ (Nat.le_succ _)) (Nat.le_succ _))) (Nat.le_succ _))) (by decide)) (Nat.le_succ _))) (by decide)) (Nat.le_succ _))) (fun _ => ?_)
  refine Seg.step (pc' := 65) (I_putR cls11 (by decide) wf_11_39 rfl rfl (Or.inr ⟨rfl, rfl, rfl⟩) dX11_init_62) ?_
  refine Seg.step (pc' := 66) (I_aload_n (i := 0) dX11_init_65 rfl rfl) ?_
  refine Seg.step (pc' := 69) (I_newT (a := 62) rfl rfl (z_X0_init_54 (Zf.mono (Zf.up (z_X2_init_31 (Zf.mono (Zf.up (z_X2_init_8 (Zf.mono (z_X7_init_2 (Zf.mono (Zf.mono hZ (Nat.le_succ _)) (Nat.le_succ _))) (Nat.le_succ _))) (by decide)) (Nat.le_succ _))) (by decide)) (Nat.le_succ _))) (fun j => rfl) cls0 (by decide +kernel) wc_11_34 wi_0 wz_0 (by decide) (by decide) dX11_init_66) ?_
  refine Seg.step (pc' := 70) (I_dup dX11_init_69 (fun _ h => by cases h)) ?_
  refine Seg.step (pc' := 71) (I_aload_n (i := 0) dX11_init_70 rfl rfl) ?_
  refine Seg.step (pc' := 74) (I_getH (h := 8) cls11 (by decide) wf_11_27 rfl rfl rfl (by decide) dX11_init_71) ?_
  refine S_callI1 (md' := mi_X0_init_62) (o1 := some ()) (kk := fun _ => some ()) (fun _ => none) (fun _ => (TT 70, true, RT [(62, 12, 69), (62, 11, 68), (62, 10, 67), (62, 9, 66), (62, 8, 65), (62, 7, 64), (62, 0, 63), (0, 5, 54), (54, 12, 61), (54, 11, 60), (54, 10, 59), (54, 9, 58), (54, 8, 57), (54, 7, 56), (54, 0, 55), (31, 8, 53), (31, 6, 52), (31, 5, 51), (31, 4, 50), (31, 2, 43), (43, 5, 49), (43, 4, 48), (43, 3, 47), (43, 2, 46), (43, 1, 45), (43, 0, 44), (31, 1, 37), (37, 5, 42), (37, 4, 41), (37, 3, 40), (37, 2, 39), (37, 1, 38), (31, 0, 32), (32, 4, 36), (32, 3, 35), (32, 2, 34), (32, 1, 33), (8, 8, 30), (8, 6, 29), (8, 5, 28), (8, 4, 27), (8, 2, 20), (20, 5, 26), (20, 4, 25), (20, 3, 24), (20, 2, 23), (20, 1, 22), (20, 0, 21), (8, 1, 14), (14, 5, 19), (14, 4, 18), (14, 3, 17), (14, 2, 16), (14, 1, 15), (8, 0, 9), (9, 4, 13), (9, 3, 12), (9, 2, 11), (9, 1, 10), (0, 2, 2), (2, 1, 5), (5, 0, 3), (5, 2, 7), (5, 1, 6), (2, 0, 3), (3, 1, 1), (3, 0, 4), (0, 0, 1)], (g_X0_init_62 (g_X0_init_54 (upM (g_X2_init_31 (upM (g_X2_init_8 (g_X7_init_2 M)) 0 3 8)) 0 4 31))))) mm_i_X0_init_62 rfl wm_11_36 ⟨rfl, rfl, by decide, by decide, by decide, by decide⟩ (Nat.le_of_ble_eq_true rfl) dX11_init_74 (fun _ _ => ci_X0_init_62 (Zf.mono (z_X0_init_54 (Zf.mono (Zf.up (z_X2_init_31 (Zf.mono (Zf.up (z_X2_init_8 (Zf.mono (z_X7_init_2 (Zf.mono (Zf.mono hZ (Nat.le_succ _)) (Nat.le_succ _))) (Nat.le_succ _))) (by decide)) (Nat.le_succ _))) (by decide)) (Nat.le_succ _))) (Nat.le_succ _))) (fun _ => ?_)
  refine Seg.step (pc' := 80) (I_putR cls11 (by decide) wf_11_43 rfl rfl (Or.inr ⟨rfl, rfl, rfl⟩) dX11_init_77) ?_
  refine Seg.step (pc' := 81) (I_aload_n (i := 0) dX11_init_80 rfl rfl) ?_
  refine Seg.step (pc' := 84) (I_newT (a := 70) rfl rfl (z_X0_init_62 (Zf.mono (z_X0_init_54 (Zf.mono (Zf.up (z_X2_init_31 (Zf.mono (Zf.up (z_X2_init_8 (Zf.mono (z_X7_init_2 (Zf.mono (Zf.mono hZ (Nat.le_succ _)) (Nat.le_succ _))) (Nat.le_succ _))) (by decide)) (Nat.le_succ _))) (by decide)) (Nat.le_succ _))) (Nat.le_succ _))) (fun j => rfl) cls0 (by decide +kernel) wc_11_34 wi_0 wz_0 (by decide) (by decide) dX11_init_81) ?_
  refine Seg.step (pc' := 85) (I_dup dX11_init_84 (fun _ h => by cases h)) ?_
  refine Seg.step (pc' := 86) (I_aload_n (i := 0) dX11_init_85 rfl rfl) ?_
  refine Seg.step (pc' := 89) (I_getH (h := 8) cls11 (by decide) wf_11_27 rfl rfl rfl (by decide) dX11_init_86) ?_
  refine S_callI1 (md' := mi_X0_init_70) (o1 := some ()) (kk := fun _ => some ()) (fun _ => none) (fun _ => (TT 78, true, RT [(70, 12, 77), (70, 11, 76), (70, 10, 75), (70, 9, 74), (70, 8, 73), (70, 7, 72), (70, 0, 71), (0, 6, 62), (62, 12, 69), (62, 11, 68), (62, 10, 67), (62, 9, 66), (62, 8, 65), (62, 7, 64), (62, 0, 63), (0, 5, 54), (54, 12, 61), (54, 11, 60), (54, 10, 59), (54, 9, 58), (54, 8, 57), (54, 7, 56), (54, 0, 55), (31, 8, 53), (31, 6, 52), (31, 5, 51), (31, 4, 50), (31, 2, 43), (43, 5, 49), (43, 4, 48), (43, 3, 47), (43, 2, 46), (43, 1, 45), (43, 0, 44), (31, 1, 37), (37, 5, 42), (37, 4, 41), (37, 3, 40), (37, 2, 39), (37, 1, 38), (31, 0, 32), (32, 4, 36), (32, 3, 35), (32, 2, 34), (32, 1, 33), (8, 8, 30), (8, 6, 29), (8, 5, 28), (8, 4, 27), (8, 2, 20), (20, 5, 26), (20, 4, 25), (20, 3, 24), (20, 2, 23), (20, 1, 22), (20, 0, 21), (8, 1, 14), (14, 5, 19), (14, 4, 18), (14, 3, 17), (14, 2, 16), (14, 1, 15), (8, 0, 9), (9, 4, 13), (9, 3, 12), (9, 2, 11), (9, 1, 10), (0, 2, 2), (2, 1, 5), (5, 0, 3), (5, 2, 7), (5, 1, 6), (2, 0, 3), (3, 1, 1), (3, 0, 4), (0, 0, 1)], (g_X0_init_70 (g_X0_init_62 (g_X0_init_54 (upM (g_X2_init_31 (upM (g_X2_init_8 (g_X7_init_2 M)) 0 3 8)) 0 4 31)))))) mm_i_X0_init_70 rfl wm_11_36 ⟨rfl, rfl, by decide, by decide, by decide, by decide⟩ (Nat.le_of_ble_eq_true rfl) dX11_init_89 (fun _ _ => ci_X0_init_70 (Zf.mono (z_X0_init_62 (Zf.mono (z_X0_init_54 (Zf.mono (Zf.up (z_X2_init_31 (Zf.mono (Zf.up (z_X2_init_8 (Zf.mono (z_X7_init_2 (Zf.mono (Zf.mono hZ (Nat.le_succ _)) (Nat.le_succ _))) (Nat.le_succ _))) (by decide)) (Nat.le_succ _))) (by decide)) (Nat.le_succ _))) (Nat.le_succ _))) (Nat.le_succ _))) (fun _ => ?_)
  refine Seg.step (pc' := 95) (I_putR cls11 (by decide) wf_11_46 rfl rfl (Or.inr ⟨rfl, rfl, rfl⟩) dX11_init_92) ?_
  refine Seg.step (pc' := 96) (I_aload_n (i := 0) dX11_init_95 rfl rfl) ?_
  refine Seg.step (pc' := 99) (I_newT (a := 78) rfl rfl (z_X0_init_70 (Zf.mono (z_X0_init_62 (Zf.mono (z_X0_init_54 (Zf.mono (Zf.up (z_X2_init_31 (Zf.mono (Zf.up (z_X2_init_8 (Zf.mono (z_X7_init_2 (Zf.mono (Zf.mono hZ (Nat.le_succ _)) (Nat.le_succ _))) (Nat.le_succ _))) (by decide)) (Nat.le_succ _))) (by decide)) (Nat.le_succ _))) (Nat.le_succ _))) (Nat.le_succ _))) (fun j => rfl) cls4 (by decide +kernel) wc_11_49 wi_4 wz_4 (by decide) (by decide) dX11_init_96) ?_
  refine Seg.step (pc' := 100) (I_dup dX11_init_99 (fun _ h => by cases h)) ?_
  refine S_callJ0 (md' := mi_X4_init_78) (o1 := some ()) (kk := fun _ => some ()) (fun _ => none) (fun _ => (TT 84, true, RT [(78, 6, 83), (78, 5, 82), (78, 4, 81), (78, 3, 80), (78, 2, 79), (0, 8, 70), (70, 12, 77), (70, 11, 76), (70, 10, 75), (70, 9, 74), (70, 8, 73), (70, 7, 72), (70, 0, 71), (0, 6, 62), (62, 12, 69), (62, 11, 68), (62, 10, 67), (62, 9, 66), (62, 8, 65), (62, 7, 64), (62, 0, 63), (0, 5, 54), (54, 12, 61), (54, 11, 60), (54, 10, 59), (54, 9, 58), (54, 8, 57), (54, 7, 56), (54, 0, 55), (31, 8, 53), (31, 6, 52), (31, 5, 51), (31, 4, 50), (31, 2, 43), (43, 5, 49), (43, 4, 48), (43, 3, 47), (43, 2, 46), (43, 1, 45), (43, 0, 44), (31, 1, 37), (37, 5, 42), (37, 4, 41), (37, 3, 40), (37, 2, 39), (37, 1, 38), (31, 0, 32), (32, 4, 36), (32, 3, 35), (32, 2, 34), (32, 1, 33), (8, 8, 30), (8, 6, 29), (8, 5, 28), (8, 4, 27), (8, 2, 20), (20, 5, 26), (20, 4, 25), (20, 3, 24), (20, 2, 23), (20, 1, 22), (20, 0, 21), (8, 1, 14), (14, 5, 19), (14, 4, 18), (14, 3, 17), (14, 2, 16), (14, 1, 15), (8, 0, 9), (9, 4, 13), (9, 3, 12), (9, 2, 11), (9, 1, 10), (0, 2, 2), (2, 1, 5), (5, 0, 3), (5, 2, 7), (5, 1, 6), (2, 0, 3), (3, 1, 1), (3, 0, 4), (0, 0, 1)], (g_X4_init_78 (g_X0_init_70 (g_X0_init_62 (g_X0_init_54 (upM (g_X2_init_31 (upM (g_X2_init_8 (g_X7_init_2 M)) 0 3 8)) 0 4 31))))))) mm_i_X4_init_78 rfl wn_11_51 ⟨rfl, rfl, by decide, by decide, by decide, by decide⟩ (Nat.le_of_ble_eq_true rfl) dX11_init_100 (fun _ _ => ci_X4_init_78 (Zf.mono (z_X0_init_70 (Zf.mono (z_X0_init_62 (Zf.mono (z_X0_init_54 (Zf.mono (Zf.up (z_X2_init_31 (Zf.mono (Zf.up (z_X2_init_8 (Zf.mono (z_X7_init_2 (Zf.mono (Zf.mono hZ (Nat.le_succ _)) (Nat.le_succ _))) (Nat.le_succ _))) (by decide)) (Nat.le_succ _))) (by decide)) (Nat.le_succ _))) (Nat.le_succ _))) (Nat.le_succ _))) (Nat.le_succ _))) (fun _ => ?_)
  refine Seg.step (pc' := 106) (I_putR cls11 (by decide) wf_11_52 rfl rfl (Or.inr ⟨rfl, rfl, rfl⟩) dX11_init_103) ?_
  refine Seg.step (pc' := 107) (I_aload_n (i := 0) dX11_init_106 rfl rfl) ?_
  refine Seg.step (pc' := 110) (I_newT (a := 84) rfl rfl (z_X4_init_78 (Zf.mono (z_X0_init_70 (Zf.mono (z_X0_init_62 (Zf.mono (z_X0_init_54 (Zf.mono (Zf.up (z_X2_init_31 (Zf.mono (Zf.up (z_X2_init_8 (Zf.mono (z_X7_init_2 (Zf.mono (Zf.mono hZ (Nat.le_succ _)) (Nat.le_succ _))) (Nat.le_succ _))) (by decide)) (Nat.le_succ _))) (by decide)) (Nat.le_succ _))) (Nat.le_succ _))) (Nat.le_succ _))) (Nat.le_succ _))) (fun j => rfl) cls5 (by decide +kernel) wc_11_56 wi_5 wz_5 (by decide) (by decide) dX11_init_107) ?_
  refine Seg.step (pc' := 111) (I_dup dX11_init_110 (fun _ h => by cases h)) ?_
  refine S_callJ0 (md' := mi_X5_init_84) (o1 := some ()) (kk := fun _ => some ()) (fun _ => none) (fun _ => (TT 88, true, RT [(84, 3, 87), (84, 2, 86), (84, 1, 85), (0, 9, 78), (78, 6, 83), (78, 5, 82), (78, 4, 81), (78, 3, 80), (78, 2, 79), (0, 8, 70), (70, 12, 77), (70, 11, 76), (70, 10, 75), (70, 9, 74), (70, 8, 73), (70, 7, 72), (70, 0, 71), (0, 6, 62), (62, 12, 69), (62, 11, 68), (62, 10, 67), (62, 9, 66), (62, 8, 65), (62, 7, 64), (62, 0, 63), (0, 5, 54), (54, 12, 61), (54, 11, 60), (54, 10, 59), (54, 9, 58), (54, 8, 57), (54, 7, 56), (54, 0, 55), (31, 8, 53), (31, 6, 52), (31, 5, 51), (31, 4, 50), (31, 2, 43), (43, 5, 49), (43, 4, 48), (43, 3, 47), (43, 2, 46), (43, 1, 45), (43, 0, 44), (31, 1, 37), (37, 5, 42), (37, 4, 41), (37, 3, 40), (37, 2, 39), (37, 1, 38), (31, 0, 32), (32, 4, 36), (32, 3, 35), (32, 2, 34), (32, 1, 33), (8, 8, 30), (8, 6, 29), (8, 5, 28), (8, 4, 27), (8, 2, 20), (20, 5, 26), (20, 4, 25), (20, 3, 24), (20, 2, 23), (20, 1, 22), (20, 0, 21), (8, 1, 14), (14, 5, 19), (14, 4, 18), (14, 3, 17), (14, 2, 16), (14, 1, 15), (8, 0, 9), (9, 4, 13), (9, 3, 12), (9, 2, 11), (9, 1, 10), (0, 2, 2), (2, 1, 5), (5, 0, 3), (5, 2, 7), (5, 1, 6), (2, 0, 3), (3, 1, 1), (3, 0, 4), (0, 0, 1)], (g_X5_init_84 (g_X4_init_78 (g_X0_init_70 (g_X0_init_62 (g_X0_init_54 (upM (g_X2_init_31 (upM (g_X2_init_8 (g_X7_init_2 M)) 0 3 8)) 0 4 31)))))))) mm_i_X5_init_84 rfl wn_11_58 ⟨rfl, rfl, by decide, by decide, by decide, by decide⟩ (Nat.le_of_ble_eq_true rfl) dX11_init_111 (fun _ _ => ci_X5_init_84 (Zf.mono (z_X4_init_78 (Zf.mono (z_X0_init_70 (Zf.mono (z_X0_init_62 (Zf.mono (z_X0_init_54 (Zf.mono (Zf.up (z_X2_init_31 (Zf.mono (Zf.up (z_X2_init_8 (Zf.mono (z_X7_init_2 (Zf.mono (Zf.mono hZ (Nat.le_succ _)) (Nat.le_succ _))) (Nat.le_succ _))) (by decide)) (Nat.le_succ _))) (by decide)) (Nat.le_succ _))) (Nat.le_succ _))) (Nat.le_succ _))) (Nat.le_succ _))) (Nat.le_succ _))) (fun _ => ?_)
  refine Seg.step (pc' := 117) (I_putR cls11 (by decide) wf_11_59 rfl rfl (Or.inr ⟨rfl, rfl, rfl⟩) dX11_init_114) ?_
  refine Seg.step (pc' := 118) (I_aload_n (i := 0) dX11_init_117 rfl rfl) ?_
  refine Seg.step (pc' := 119) (I_iconst dX11_init_118 ⟨by decide, by decide⟩) ?_
  refine Seg.step (pc' := 122) (I_putI cls11 (by decide) wf_11_63 rfl rfl rfl dX11_init_119) ?_
  exact S_vret dX11_init_122 rfl (by decide) (by decide) (fun K hK => hK)
