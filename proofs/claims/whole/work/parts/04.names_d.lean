theorem dX8_init_0 : decode cX8_init 0 = .ok (.aload_n 0, 1) := by decide +kernel
theorem dX8_init_1 : decode cX8_init 1 = .ok (.invokespecial 1, 3) := by decide +kernel
theorem dX8_init_4 : decode cX8_init 4 = .ok (.aload_n 0, 1) := by decide +kernel
theorem dX8_init_5 : decode cX8_init 5 = .ok (.sipush 508, 3) := by decide +kernel
theorem dX8_init_8 : decode cX8_init 8 = .ok (.newarray .int, 2) := by decide +kernel
theorem dX8_init_10 : decode cX8_init 10 = .ok (.putfield 7, 3) := by decide +kernel
theorem dX8_init_13 : decode cX8_init 13 = .ok (.aload_n 0, 1) := by decide +kernel
theorem dX8_init_14 : decode cX8_init 14 = .ok (.bipush 10, 2) := by decide +kernel
theorem dX8_init_16 : decode cX8_init 16 = .ok (.newarray .int, 2) := by decide +kernel
theorem dX8_init_18 : decode cX8_init 18 = .ok (.putfield 13, 3) := by decide +kernel
theorem dX8_init_21 : decode cX8_init 21 = .ok (.aload_n 0, 1) := by decide +kernel
theorem dX8_init_22 : decode cX8_init 22 = .ok (.bipush 10, 2) := by decide +kernel
theorem dX8_init_24 : decode cX8_init 24 = .ok (.newarray .int, 2) := by decide +kernel
theorem dX8_init_26 : decode cX8_init 26 = .ok (.putfield 16, 3) := by decide +kernel
theorem dX8_init_29 : decode cX8_init 29 = .ok (.aload_n 0, 1) := by decide +kernel
theorem dX8_init_30 : decode cX8_init 30 = .ok (.sipush 8128, 3) := by decide +kernel
theorem dX8_init_33 : decode cX8_init 33 = .ok (.newarray .int, 2) := by decide +kernel
theorem dX8_init_35 : decode cX8_init 35 = .ok (.putfield 19, 3) := by decide +kernel
theorem dX8_init_38 : decode cX8_init 38 = .ok (.aload_n 0, 1) := by decide +kernel
theorem dX8_init_39 : decode cX8_init 39 = .ok (.sipush 1016, 3) := by decide +kernel
theorem dX8_init_42 : decode cX8_init 42 = .ok (.newarray .int, 2) := by decide +kernel
theorem dX8_init_44 : decode cX8_init 44 = .ok (.putfield 22, 3) := by decide +kernel
theorem dX8_init_47 : decode cX8_init 47 = .ok (.aload_n 0, 1) := by decide +kernel
theorem dX8_init_48 : decode cX8_init 48 = .ok (.iconst 2, 1) := by decide +kernel
theorem dX8_init_49 : decode cX8_init 49 = .ok (.newarray .long, 2) := by decide +kernel
theorem dX8_init_51 : decode cX8_init 51 = .ok (.putfield 25, 3) := by decide +kernel
theorem dX8_init_54 : decode cX8_init 54 = .ok (.aload_n 0, 1) := by decide +kernel
theorem dX8_init_55 : decode cX8_init 55 = .ok (.iconst 2, 1) := by decide +kernel
theorem dX8_init_56 : decode cX8_init 56 = .ok (.newarray .boolean, 2) := by decide +kernel
theorem dX8_init_58 : decode cX8_init 58 = .ok (.putfield 29, 3) := by decide +kernel
theorem dX8_init_61 : decode cX8_init 61 = .ok (.aload_n 0, 1) := by decide +kernel
theorem dX8_init_62 : decode cX8_init 62 = .ok (.bipush 80, 2) := by decide +kernel
theorem dX8_init_64 : decode cX8_init 64 = .ok (.newarray .int, 2) := by decide +kernel
theorem dX8_init_66 : decode cX8_init 66 = .ok (.putfield 33, 3) := by decide +kernel
theorem dX8_init_69 : decode cX8_init 69 = .ok (.aload_n 0, 1) := by decide +kernel
theorem dX8_init_70 : decode cX8_init 70 = .ok (.bipush 60, 2) := by decide +kernel
theorem dX8_init_72 : decode cX8_init 72 = .ok (.newarray .int, 2) := by decide +kernel
theorem dX8_init_74 : decode cX8_init 74 = .ok (.putfield 36, 3) := by decide +kernel
theorem dX8_init_77 : decode cX8_init 77 = .ok (.aload_n 0, 1) := by decide +kernel
theorem dX8_init_78 : decode cX8_init 78 = .ok (.bipush 10, 2) := by decide +kernel
theorem dX8_init_80 : decode cX8_init 80 = .ok (.newarray .int, 2) := by decide +kernel
theorem dX8_init_82 : decode cX8_init 82 = .ok (.putfield 39, 3) := by decide +kernel
theorem dX8_init_85 : decode cX8_init 85 = .ok (.aload_n 0, 1) := by decide +kernel
theorem dX8_init_86 : decode cX8_init 86 = .ok (.bipush 10, 2) := by decide +kernel
theorem dX8_init_88 : decode cX8_init 88 = .ok (.newarray .int, 2) := by decide +kernel
theorem dX8_init_90 : decode cX8_init 90 = .ok (.putfield 42, 3) := by decide +kernel
theorem dX8_init_93 : decode cX8_init 93 = .ok (.aload_n 0, 1) := by decide +kernel
theorem dX8_init_94 : decode cX8_init 94 = .ok (.bipush 10, 2) := by decide +kernel
theorem dX8_init_96 : decode cX8_init 96 = .ok (.newarray .int, 2) := by decide +kernel
theorem dX8_init_98 : decode cX8_init 98 = .ok (.putfield 45, 3) := by decide +kernel
theorem dX8_init_101 : decode cX8_init 101 = .ok (.iconst 0, 1) := by decide +kernel
theorem dX8_init_102 : decode cX8_init 102 = .ok (.istore_n 1, 1) := by decide +kernel
theorem dX8_init_103 : decode cX8_init 103 = .ok (.iload_n 1, 1) := by decide +kernel
theorem dX8_init_104 : decode cX8_init 104 = .ok (.iconst 4, 1) := by decide +kernel
theorem dX8_init_105 : decode cX8_init 105 = .ok (.if_icmp .ge 18, 3) := by decide +kernel
theorem dX8_init_108 : decode cX8_init 108 = .ok (.aload_n 0, 1) := by decide +kernel
theorem dX8_init_109 : decode cX8_init 109 = .ok (.getfield 7, 3) := by decide +kernel
theorem dX8_init_112 : decode cX8_init 112 = .ok (.iconst 4, 1) := by decide +kernel
theorem dX8_init_113 : decode cX8_init 113 = .ok (.iload_n 1, 1) := by decide +kernel
theorem dX8_init_114 : decode cX8_init 114 = .ok (.iadd, 1) := by decide +kernel
theorem dX8_init_115 : decode cX8_init 115 = .ok (.iconst (-1), 1) := by decide +kernel
theorem dX8_init_116 : decode cX8_init 116 = .ok (.iastore, 1) := by decide +kernel
theorem dX8_init_117 : decode cX8_init 117 = .ok (.iinc 1 1, 3) := by decide +kernel
theorem dX8_init_120 : decode cX8_init 120 = .ok (.goto (-17), 3) := by decide +kernel
theorem dX8_init_123 : decode cX8_init 123 = .ok (.return_, 1) := by decide +kernel
theorem dX8_in_0 : decode cX8_in 0 = .ok (.lload_n 0, 1) := by decide +kernel
theorem dX8_in_1 : decode cX8_in 1 = .ok (.lload_n 2, 1) := by decide +kernel
theorem dX8_in_2 : decode cX8_in 2 = .ok (.lcmp, 1) := by decide +kernel
theorem dX8_in_3 : decode cX8_in 3 = .ok (.ifCond .lt 14, 3) := by decide +kernel
theorem dX8_in_6 : decode cX8_in 6 = .ok (.lload_n 0, 1) := by decide +kernel
theorem dX8_in_7 : decode cX8_in 7 = .ok (.lload 4, 2) := by decide +kernel
theorem dX8_in_9 : decode cX8_in 9 = .ok (.lcmp, 1) := by decide +kernel
theorem dX8_in_10 : decode cX8_in 10 = .ok (.ifCond .gt 7, 3) := by decide +kernel
theorem dX8_in_13 : decode cX8_in 13 = .ok (.iconst 1, 1) := by decide +kernel
theorem dX8_in_14 : decode cX8_in 14 = .ok (.goto 4, 3) := by decide +kernel
theorem dX8_in_17 : decode cX8_in 17 = .ok (.iconst 0, 1) := by decide +kernel
theorem dX8_in_18 : decode cX8_in 18 = .ok (.ireturn, 1) := by decide +kernel
theorem dX8_at_0 : decode cX8_at 0 = .ok (.bipush 8, 2) := by decide +kernel
theorem dX8_at_2 : decode cX8_at 2 = .ok (.bipush 50, 2) := by decide +kernel
theorem dX8_at_4 : decode cX8_at 4 = .ok (.iload_n 0, 1) := by decide +kernel
theorem dX8_at_5 : decode cX8_at 5 = .ok (.imul, 1) := by decide +kernel
theorem dX8_at_6 : decode cX8_at 6 = .ok (.iadd, 1) := by decide +kernel
theorem dX8_at_7 : decode cX8_at 7 = .ok (.ireturn, 1) := by decide +kernel
set_option maxRecDepth 20000 in
theorem ggX8_of_X8_at : GoodIn wsX8_of wsX8_at := goodIn_r _ [5] (by decide +kernel) (by decide +kernel)
set_option maxRecDepth 20000 in
theorem gX8_of_X8_at : GoodIn wsX8_of (va_wsS RX8 52 yX8_at wsX8_at) := goodIn_app (goodIn_of _ (by decide +kernel)) ggX8_of_X8_at
theorem dX8_of_0 : decode cX8_of 0 = .ok (.aload_n 0, 1) := by decide +kernel
theorem dX8_of_1 : decode cX8_of 1 = .ok (.getfield 7, 3) := by decide +kernel
theorem dX8_of_4 : decode cX8_of 4 = .ok (.iload_n 1, 1) := by decide +kernel
theorem dX8_of_5 : decode cX8_of 5 = .ok (.invokestatic 52, 3) := by decide +kernel
theorem dX8_of_8 : decode cX8_of 8 = .ok (.iload_n 2, 1) := by decide +kernel
theorem dX8_of_9 : decode cX8_of 9 = .ok (.iadd, 1) := by decide +kernel
theorem dX8_of_10 : decode cX8_of 10 = .ok (.iaload, 1) := by decide +kernel
theorem dX8_of_11 : decode cX8_of 11 = .ok (.ireturn, 1) := by decide +kernel
theorem dX8_ones_0 : decode cX8_ones 0 = .ok (.iconst 0, 1) := by decide +kernel
theorem dX8_ones_1 : decode cX8_ones 1 = .ok (.istore_n 1, 1) := by decide +kernel
theorem dX8_ones_2 : decode cX8_ones 2 = .ok (.iconst 0, 1) := by decide +kernel
theorem dX8_ones_3 : decode cX8_ones 3 = .ok (.istore_n 2, 1) := by decide +kernel
theorem dX8_ones_4 : decode cX8_ones 4 = .ok (.iload_n 2, 1) := by decide +kernel
theorem dX8_ones_5 : decode cX8_ones 5 = .ok (.bipush 8, 2) := by decide +kernel
theorem dX8_ones_7 : decode cX8_ones 7 = .ok (.if_icmp .ge 17, 3) := by decide +kernel
theorem dX8_ones_10 : decode cX8_ones 10 = .ok (.iload_n 1, 1) := by decide +kernel
theorem dX8_ones_11 : decode cX8_ones 11 = .ok (.iload_n 0, 1) := by decide +kernel
theorem dX8_ones_12 : decode cX8_ones 12 = .ok (.iload_n 2, 1) := by decide +kernel
theorem dX8_ones_13 : decode cX8_ones 13 = .ok (.ishr, 1) := by decide +kernel
theorem dX8_ones_14 : decode cX8_ones 14 = .ok (.iconst 1, 1) := by decide +kernel
theorem dX8_ones_15 : decode cX8_ones 15 = .ok (.iand, 1) := by decide +kernel
theorem dX8_ones_16 : decode cX8_ones 16 = .ok (.iadd, 1) := by decide +kernel
theorem dX8_ones_17 : decode cX8_ones 17 = .ok (.istore_n 1, 1) := by decide +kernel
theorem dX8_ones_18 : decode cX8_ones 18 = .ok (.iinc 2 1, 3) := by decide +kernel
theorem dX8_ones_21 : decode cX8_ones 21 = .ok (.goto (-17), 3) := by decide +kernel
theorem dX8_ones_24 : decode cX8_ones 24 = .ok (.iload_n 1, 1) := by decide +kernel
theorem dX8_ones_25 : decode cX8_ones 25 = .ok (.ireturn, 1) := by decide +kernel
theorem dX8_even_0 : decode cX8_even 0 = .ok (.iload_n 0, 1) := by decide +kernel
theorem dX8_even_1 : decode cX8_even 1 = .ok (.iconst 2, 1) := by decide +kernel
theorem dX8_even_2 : decode cX8_even 2 = .ok (.irem, 1) := by decide +kernel
theorem dX8_even_3 : decode cX8_even 3 = .ok (.ifCond .ne 7, 3) := by decide +kernel
theorem dX8_even_6 : decode cX8_even 6 = .ok (.iconst 1, 1) := by decide +kernel
theorem dX8_even_7 : decode cX8_even 7 = .ok (.goto 4, 3) := by decide +kernel
theorem dX8_even_10 : decode cX8_even 10 = .ok (.iconst 0, 1) := by decide +kernel
theorem dX8_even_11 : decode cX8_even 11 = .ok (.ireturn, 1) := by decide +kernel
set_option maxRecDepth 20000 in
theorem ggX8_codeOf_X8_even : GoodIn wsX8_codeOf wsX8_even := goodIn_r _ [4] (by decide +kernel) (by decide +kernel)
set_option maxRecDepth 20000 in
theorem gX8_codeOf_X8_even : GoodIn wsX8_codeOf (va_wsS RX8 56 yX8_even wsX8_even) := goodIn_app (goodIn_of _ (by decide +kernel)) ggX8_codeOf_X8_even
theorem dX8_codeOf_0 : decode cX8_codeOf 0 = .ok (.iload_n 0, 1) := by decide +kernel
theorem dX8_codeOf_1 : decode cX8_codeOf 1 = .ok (.iconst 1, 1) := by decide +kernel
theorem dX8_codeOf_2 : decode cX8_codeOf 2 = .ok (.iand, 1) := by decide +kernel
theorem dX8_codeOf_3 : decode cX8_codeOf 3 = .ok (.istore_n 1, 1) := by decide +kernel
theorem dX8_codeOf_4 : decode cX8_codeOf 4 = .ok (.iload_n 0, 1) := by decide +kernel
theorem dX8_codeOf_5 : decode cX8_codeOf 5 = .ok (.iconst 1, 1) := by decide +kernel
theorem dX8_codeOf_6 : decode cX8_codeOf 6 = .ok (.ishr, 1) := by decide +kernel
theorem dX8_codeOf_7 : decode cX8_codeOf 7 = .ok (.iconst 1, 1) := by decide +kernel
theorem dX8_codeOf_8 : decode cX8_codeOf 8 = .ok (.iand, 1) := by decide +kernel
theorem dX8_codeOf_9 : decode cX8_codeOf 9 = .ok (.istore_n 2, 1) := by decide +kernel
theorem dX8_codeOf_10 : decode cX8_codeOf 10 = .ok (.iload_n 0, 1) := by decide +kernel
theorem dX8_codeOf_11 : decode cX8_codeOf 11 = .ok (.iconst 2, 1) := by decide +kernel
theorem dX8_codeOf_12 : decode cX8_codeOf 12 = .ok (.ishr, 1) := by decide +kernel
theorem dX8_codeOf_13 : decode cX8_codeOf 13 = .ok (.iconst 1, 1) := by decide +kernel
theorem dX8_codeOf_14 : decode cX8_codeOf 14 = .ok (.iand, 1) := by decide +kernel
theorem dX8_codeOf_15 : decode cX8_codeOf 15 = .ok (.istore_n 3, 1) := by decide +kernel
theorem dX8_codeOf_16 : decode cX8_codeOf 16 = .ok (.iload_n 0, 1) := by decide +kernel
theorem dX8_codeOf_17 : decode cX8_codeOf 17 = .ok (.iconst 3, 1) := by decide +kernel
theorem dX8_codeOf_18 : decode cX8_codeOf 18 = .ok (.ishr, 1) := by decide +kernel
theorem dX8_codeOf_19 : decode cX8_codeOf 19 = .ok (.iconst 1, 1) := by decide +kernel
theorem dX8_codeOf_20 : decode cX8_codeOf 20 = .ok (.iand, 1) := by decide +kernel
theorem dX8_codeOf_21 : decode cX8_codeOf 21 = .ok (.istore 4, 2) := by decide +kernel
theorem dX8_codeOf_23 : decode cX8_codeOf 23 = .ok (.iload_n 1, 1) := by decide +kernel
theorem dX8_codeOf_24 : decode cX8_codeOf 24 = .ok (.iload_n 3, 1) := by decide +kernel
theorem dX8_codeOf_25 : decode cX8_codeOf 25 = .ok (.iadd, 1) := by decide +kernel
theorem dX8_codeOf_26 : decode cX8_codeOf 26 = .ok (.iload 4, 2) := by decide +kernel
theorem dX8_codeOf_28 : decode cX8_codeOf 28 = .ok (.iadd, 1) := by decide +kernel
theorem dX8_codeOf_29 : decode cX8_codeOf 29 = .ok (.invokestatic 56, 3) := by decide +kernel
theorem dX8_codeOf_32 : decode cX8_codeOf 32 = .ok (.istore 5, 2) := by decide +kernel
theorem dX8_codeOf_34 : decode cX8_codeOf 34 = .ok (.iload_n 1, 1) := by decide +kernel
theorem dX8_codeOf_35 : decode cX8_codeOf 35 = .ok (.iload_n 2, 1) := by decide +kernel
theorem dX8_codeOf_36 : decode cX8_codeOf 36 = .ok (.iadd, 1) := by decide +kernel
theorem dX8_codeOf_37 : decode cX8_codeOf 37 = .ok (.iload 4, 2) := by decide +kernel
theorem dX8_codeOf_39 : decode cX8_codeOf 39 = .ok (.iadd, 1) := by decide +kernel
theorem dX8_codeOf_40 : decode cX8_codeOf 40 = .ok (.invokestatic 56, 3) := by decide +kernel
theorem dX8_codeOf_43 : decode cX8_codeOf 43 = .ok (.istore 6, 2) := by decide +kernel
theorem dX8_codeOf_45 : decode cX8_codeOf 45 = .ok (.iload_n 1, 1) := by decide +kernel
theorem dX8_codeOf_46 : decode cX8_codeOf 46 = .ok (.iload_n 2, 1) := by decide +kernel
theorem dX8_codeOf_47 : decode cX8_codeOf 47 = .ok (.iadd, 1) := by decide +kernel
theorem dX8_codeOf_48 : decode cX8_codeOf 48 = .ok (.iload_n 3, 1) := by decide +kernel
theorem dX8_codeOf_49 : decode cX8_codeOf 49 = .ok (.iadd, 1) := by decide +kernel
theorem dX8_codeOf_50 : decode cX8_codeOf 50 = .ok (.invokestatic 56, 3) := by decide +kernel
theorem dX8_codeOf_53 : decode cX8_codeOf 53 = .ok (.istore 7, 2) := by decide +kernel
theorem dX8_codeOf_55 : decode cX8_codeOf 55 = .ok (.iload 5, 2) := by decide +kernel
theorem dX8_codeOf_57 : decode cX8_codeOf 57 = .ok (.iload_n 1, 1) := by decide +kernel
theorem dX8_codeOf_58 : decode cX8_codeOf 58 = .ok (.iadd, 1) := by decide +kernel
theorem dX8_codeOf_59 : decode cX8_codeOf 59 = .ok (.iload 6, 2) := by decide +kernel
theorem dX8_codeOf_61 : decode cX8_codeOf 61 = .ok (.iadd, 1) := by decide +kernel
theorem dX8_codeOf_62 : decode cX8_codeOf 62 = .ok (.iload_n 2, 1) := by decide +kernel
theorem dX8_codeOf_63 : decode cX8_codeOf 63 = .ok (.iadd, 1) := by decide +kernel
theorem dX8_codeOf_64 : decode cX8_codeOf 64 = .ok (.iload 7, 2) := by decide +kernel
theorem dX8_codeOf_66 : decode cX8_codeOf 66 = .ok (.iadd, 1) := by decide +kernel
theorem dX8_codeOf_67 : decode cX8_codeOf 67 = .ok (.iload_n 3, 1) := by decide +kernel
theorem dX8_codeOf_68 : decode cX8_codeOf 68 = .ok (.iadd, 1) := by decide +kernel
theorem dX8_codeOf_69 : decode cX8_codeOf 69 = .ok (.iload 4, 2) := by decide +kernel
theorem dX8_codeOf_71 : decode cX8_codeOf 71 = .ok (.iadd, 1) := by decide +kernel
theorem dX8_codeOf_72 : decode cX8_codeOf 72 = .ok (.invokestatic 56, 3) := by decide +kernel
theorem dX8_codeOf_75 : decode cX8_codeOf 75 = .ok (.istore 8, 2) := by decide +kernel
theorem dX8_codeOf_77 : decode cX8_codeOf 77 = .ok (.iload 5, 2) := by decide +kernel
theorem dX8_codeOf_79 : decode cX8_codeOf 79 = .ok (.iload_n 1, 1) := by decide +kernel
theorem dX8_codeOf_80 : decode cX8_codeOf 80 = .ok (.iconst 1, 1) := by decide +kernel
theorem dX8_codeOf_81 : decode cX8_codeOf 81 = .ok (.ishl, 1) := by decide +kernel
theorem dX8_codeOf_82 : decode cX8_codeOf 82 = .ok (.ior, 1) := by decide +kernel
theorem dX8_codeOf_83 : decode cX8_codeOf 83 = .ok (.iload 6, 2) := by decide +kernel
theorem dX8_codeOf_85 : decode cX8_codeOf 85 = .ok (.iconst 2, 1) := by decide +kernel
theorem dX8_codeOf_86 : decode cX8_codeOf 86 = .ok (.ishl, 1) := by decide +kernel
theorem dX8_codeOf_87 : decode cX8_codeOf 87 = .ok (.ior, 1) := by decide +kernel
theorem dX8_codeOf_88 : decode cX8_codeOf 88 = .ok (.iload_n 2, 1) := by decide +kernel
theorem dX8_codeOf_89 : decode cX8_codeOf 89 = .ok (.iconst 3, 1) := by decide +kernel
theorem dX8_codeOf_90 : decode cX8_codeOf 90 = .ok (.ishl, 1) := by decide +kernel
theorem dX8_codeOf_91 : decode cX8_codeOf 91 = .ok (.ior, 1) := by decide +kernel
theorem dX8_codeOf_92 : decode cX8_codeOf 92 = .ok (.iload 7, 2) := by decide +kernel
theorem dX8_codeOf_94 : decode cX8_codeOf 94 = .ok (.iconst 4, 1) := by decide +kernel
theorem dX8_codeOf_95 : decode cX8_codeOf 95 = .ok (.ishl, 1) := by decide +kernel
theorem dX8_codeOf_96 : decode cX8_codeOf 96 = .ok (.ior, 1) := by decide +kernel
theorem dX8_codeOf_97 : decode cX8_codeOf 97 = .ok (.iload_n 3, 1) := by decide +kernel
theorem dX8_codeOf_98 : decode cX8_codeOf 98 = .ok (.iconst 5, 1) := by decide +kernel
theorem dX8_codeOf_99 : decode cX8_codeOf 99 = .ok (.ishl, 1) := by decide +kernel
theorem dX8_codeOf_100 : decode cX8_codeOf 100 = .ok (.ior, 1) := by decide +kernel
theorem dX8_codeOf_101 : decode cX8_codeOf 101 = .ok (.iload 8, 2) := by decide +kernel
theorem dX8_codeOf_103 : decode cX8_codeOf 103 = .ok (.bipush 6, 2) := by decide +kernel
theorem dX8_codeOf_105 : decode cX8_codeOf 105 = .ok (.ishl, 1) := by decide +kernel
theorem dX8_codeOf_106 : decode cX8_codeOf 106 = .ok (.ior, 1) := by decide +kernel
theorem dX8_codeOf_107 : decode cX8_codeOf 107 = .ok (.iload 4, 2) := by decide +kernel
theorem dX8_codeOf_109 : decode cX8_codeOf 109 = .ok (.bipush 7, 2) := by decide +kernel
theorem dX8_codeOf_111 : decode cX8_codeOf 111 = .ok (.ishl, 1) := by decide +kernel
theorem dX8_codeOf_112 : decode cX8_codeOf 112 = .ok (.ior, 1) := by decide +kernel
theorem dX8_codeOf_113 : decode cX8_codeOf 113 = .ok (.ireturn, 1) := by decide +kernel
set_option maxRecDepth 20000 in
theorem ggX8_numberOf_X8_codeOf : GoodIn wsX8_numberOf wsX8_codeOf := goodIn_r _ [4, 5, 6, 3, 7] (by decide +kernel) (by decide +kernel)
set_option maxRecDepth 20000 in
theorem gX8_numberOf_X8_codeOf : GoodIn wsX8_numberOf (va_wsS RX8 59 yX8_codeOf wsX8_codeOf) := goodIn_app (goodIn_of _ (by decide +kernel)) ggX8_numberOf_X8_codeOf
set_option maxRecDepth 20000 in
theorem ggX8_numberOf_X8_ones : GoodIn wsX8_numberOf wsX8_ones := goodIn_r _ [10] (by decide +kernel) (by decide +kernel)
set_option maxRecDepth 20000 in
theorem gX8_numberOf_X8_ones : GoodIn wsX8_numberOf (va_wsS RX8 62 yX8_ones wsX8_ones) := goodIn_app (goodIn_of _ (by decide +kernel)) ggX8_numberOf_X8_ones
theorem dX8_numberOf_0 : decode cX8_numberOf 0 = .ok (.iconst (-1), 1) := by decide +kernel
theorem dX8_numberOf_1 : decode cX8_numberOf 1 = .ok (.istore_n 1, 1) := by decide +kernel
theorem dX8_numberOf_2 : decode cX8_numberOf 2 = .ok (.iconst 0, 1) := by decide +kernel
theorem dX8_numberOf_3 : decode cX8_numberOf 3 = .ok (.istore_n 2, 1) := by decide +kernel
theorem dX8_numberOf_4 : decode cX8_numberOf 4 = .ok (.iload_n 2, 1) := by decide +kernel
theorem dX8_numberOf_5 : decode cX8_numberOf 5 = .ok (.bipush 16, 2) := by decide +kernel
theorem dX8_numberOf_7 : decode cX8_numberOf 7 = .ok (.if_icmp .ge 28, 3) := by decide +kernel
theorem dX8_numberOf_10 : decode cX8_numberOf 10 = .ok (.iload_n 2, 1) := by decide +kernel
theorem dX8_numberOf_11 : decode cX8_numberOf 11 = .ok (.invokestatic 59, 3) := by decide +kernel
theorem dX8_numberOf_14 : decode cX8_numberOf 14 = .ok (.iload_n 0, 1) := by decide +kernel
theorem dX8_numberOf_15 : decode cX8_numberOf 15 = .ok (.ixor, 1) := by decide +kernel
theorem dX8_numberOf_16 : decode cX8_numberOf 16 = .ok (.invokestatic 62, 3) := by decide +kernel
theorem dX8_numberOf_19 : decode cX8_numberOf 19 = .ok (.iconst 2, 1) := by decide +kernel
theorem dX8_numberOf_20 : decode cX8_numberOf 20 = .ok (.if_icmp .ge 7, 3) := by decide +kernel
theorem dX8_numberOf_23 : decode cX8_numberOf 23 = .ok (.iload_n 2, 1) := by decide +kernel
theorem dX8_numberOf_24 : decode cX8_numberOf 24 = .ok (.goto 4, 3) := by decide +kernel
theorem dX8_numberOf_27 : decode cX8_numberOf 27 = .ok (.iload_n 1, 1) := by decide +kernel
theorem dX8_numberOf_28 : decode cX8_numberOf 28 = .ok (.istore_n 1, 1) := by decide +kernel
theorem dX8_numberOf_29 : decode cX8_numberOf 29 = .ok (.iinc 2 1, 3) := by decide +kernel
theorem dX8_numberOf_32 : decode cX8_numberOf 32 = .ok (.goto (-28), 3) := by decide +kernel
theorem dX8_numberOf_35 : decode cX8_numberOf 35 = .ok (.iload_n 1, 1) := by decide +kernel
theorem dX8_numberOf_36 : decode cX8_numberOf 36 = .ok (.ireturn, 1) := by decide +kernel
set_option maxRecDepth 20000 in
theorem ggX8_isMended_X8_numberOf : GoodIn wsX8_isMended wsX8_numberOf := goodIn_r _ [4, 5, 6, 3, 7, 8, 9, 10, 11, 12, 13] (by decide +kernel) (by decide +kernel)
set_option maxRecDepth 20000 in
theorem gX8_isMended_X8_numberOf : GoodIn wsX8_isMended (va_wsS RX8 65 yX8_numberOf wsX8_numberOf) := goodIn_app (goodIn_of _ (by decide +kernel)) ggX8_isMended_X8_numberOf
set_option maxRecDepth 20000 in
theorem ggX8_isMended_X8_codeOf : GoodIn wsX8_isMended wsX8_codeOf := goodIn_r _ [7, 8, 9, 3, 10] (by decide +kernel) (by decide +kernel)
set_option maxRecDepth 20000 in
theorem gX8_isMended_X8_codeOf : GoodIn wsX8_isMended (va_wsS RX8 59 yX8_codeOf wsX8_codeOf) := goodIn_app (goodIn_of _ (by decide +kernel)) ggX8_isMended_X8_codeOf
theorem dX8_isMended_0 : decode cX8_isMended 0 = .ok (.iload_n 0, 1) := by decide +kernel
theorem dX8_isMended_1 : decode cX8_isMended 1 = .ok (.invokestatic 65, 3) := by decide +kernel
theorem dX8_isMended_4 : decode cX8_isMended 4 = .ok (.istore_n 1, 1) := by decide +kernel
theorem dX8_isMended_5 : decode cX8_isMended 5 = .ok (.iload_n 1, 1) := by decide +kernel
theorem dX8_isMended_6 : decode cX8_isMended 6 = .ok (.iconst (-1), 1) := by decide +kernel
theorem dX8_isMended_7 : decode cX8_isMended 7 = .ok (.if_icmp .eq 15, 3) := by decide +kernel
theorem dX8_isMended_10 : decode cX8_isMended 10 = .ok (.iload_n 1, 1) := by decide +kernel
theorem dX8_isMended_11 : decode cX8_isMended 11 = .ok (.invokestatic 59, 3) := by decide +kernel
theorem dX8_isMended_14 : decode cX8_isMended 14 = .ok (.iload_n 0, 1) := by decide +kernel
theorem dX8_isMended_15 : decode cX8_isMended 15 = .ok (.if_icmp .eq 7, 3) := by decide +kernel
theorem dX8_isMended_18 : decode cX8_isMended 18 = .ok (.iconst 1, 1) := by decide +kernel
theorem dX8_isMended_19 : decode cX8_isMended 19 = .ok (.goto 4, 3) := by decide +kernel
theorem dX8_isMended_22 : decode cX8_isMended 22 = .ok (.iconst 0, 1) := by decide +kernel
theorem dX8_isMended_23 : decode cX8_isMended 23 = .ok (.ireturn, 1) := by decide +kernel
set_option maxRecDepth 20000 in
theorem ggX8_lettered_X8_ones : GoodIn wsX8_lettered wsX8_ones := goodIn_r _ [4] (by decide +kernel) (by decide +kernel)
set_option maxRecDepth 20000 in
theorem gX8_lettered_X8_ones : GoodIn wsX8_lettered (va_wsS RX8 62 yX8_ones wsX8_ones) := goodIn_app (goodIn_of _ (by decide +kernel)) ggX8_lettered_X8_ones
theorem dX8_lettered_0 : decode cX8_lettered 0 = .ok (.iload_n 0, 1) := by decide +kernel
theorem dX8_lettered_1 : decode cX8_lettered 1 = .ok (.iload_n 0, 1) := by decide +kernel
theorem dX8_lettered_2 : decode cX8_lettered 2 = .ok (.invokestatic 62, 3) := by decide +kernel
theorem dX8_lettered_5 : decode cX8_lettered 5 = .ok (.iconst 2, 1) := by decide +kernel
theorem dX8_lettered_6 : decode cX8_lettered 6 = .ok (.irem, 1) := by decide +kernel
theorem dX8_lettered_7 : decode cX8_lettered 7 = .ok (.ifCond .ne 9, 3) := by decide +kernel
theorem dX8_lettered_10 : decode cX8_lettered 10 = .ok (.sipush 128, 3) := by decide +kernel
theorem dX8_lettered_13 : decode cX8_lettered 13 = .ok (.goto 4, 3) := by decide +kernel
theorem dX8_lettered_16 : decode cX8_lettered 16 = .ok (.iconst 0, 1) := by decide +kernel
theorem dX8_lettered_17 : decode cX8_lettered 17 = .ok (.ior, 1) := by decide +kernel
theorem dX8_lettered_18 : decode cX8_lettered 18 = .ok (.ireturn, 1) := by decide +kernel
set_option maxRecDepth 20000 in
theorem ggX8_coded_X8_in : GoodIn wsX8_coded wsX8_in := goodIn_r _ [7] (by decide +kernel) (by decide +kernel)
set_option maxRecDepth 20000 in
theorem gX8_coded_X8_in : GoodIn wsX8_coded (va_wsS RX8 70 yX8_in wsX8_in) := goodIn_app (goodIn_of _ (by decide +kernel)) ggX8_coded_X8_in
set_option maxRecDepth 20000 in
theorem ggX8_coded_X8_codeOf : GoodIn wsX8_coded wsX8_codeOf := goodIn_r _ [10, 11, 12, 6, 13] (by decide +kernel) (by decide +kernel)
set_option maxRecDepth 20000 in
theorem gX8_coded_X8_codeOf : GoodIn wsX8_coded (va_wsS RX8 59 yX8_codeOf wsX8_codeOf) := goodIn_app (goodIn_of _ (by decide +kernel)) ggX8_coded_X8_codeOf
theorem dX8_coded_0 : decode cX8_coded 0 = .ok (.aload_n 0, 1) := by decide +kernel
theorem dX8_coded_1 : decode cX8_coded 1 = .ok (.iconst 0, 1) := by decide +kernel
theorem dX8_coded_2 : decode cX8_coded 2 = .ok (.putfield 48, 3) := by decide +kernel
theorem dX8_coded_5 : decode cX8_coded 5 = .ok (.iload_n 1, 1) := by decide +kernel
theorem dX8_coded_6 : decode cX8_coded 6 = .ok (.i2l, 1) := by decide +kernel
theorem dX8_coded_7 : decode cX8_coded 7 = .ok (.lconst 0, 1) := by decide +kernel
theorem dX8_coded_8 : decode cX8_coded 8 = .ok (.ldc2_w 68, 3) := by decide +kernel
theorem dX8_coded_11 : decode cX8_coded 11 = .ok (.invokestatic 70, 3) := by decide +kernel
theorem dX8_coded_14 : decode cX8_coded 14 = .ok (.ifCond .eq 10, 3) := by decide +kernel
theorem dX8_coded_17 : decode cX8_coded 17 = .ok (.iload_n 1, 1) := by decide +kernel
theorem dX8_coded_18 : decode cX8_coded 18 = .ok (.invokestatic 59, 3) := by decide +kernel
theorem dX8_coded_21 : decode cX8_coded 21 = .ok (.goto 5, 3) := by decide +kernel
theorem dX8_coded_24 : decode cX8_coded 24 = .ok (.ldc 74, 2) := by decide +kernel
theorem dX8_coded_26 : decode cX8_coded 26 = .ok (.ireturn, 1) := by decide +kernel
set_option maxRecDepth 20000 in
theorem ggX8_read_X8_in : GoodIn wsX8_read wsX8_in := goodIn_r _ [7] (by decide +kernel) (by decide +kernel)
set_option maxRecDepth 20000 in
theorem gX8_read_X8_in : GoodIn wsX8_read (va_wsS RX8 70 yX8_in wsX8_in) := goodIn_app (goodIn_of _ (by decide +kernel)) ggX8_read_X8_in
set_option maxRecDepth 20000 in
theorem ggX8_read_X8_numberOf : GoodIn wsX8_read wsX8_numberOf := goodIn_r _ [10, 11, 12, 6, 13, 14, 15, 16, 17, 18, 19] (by decide +kernel) (by decide +kernel)
set_option maxRecDepth 20000 in
theorem gX8_read_X8_numberOf : GoodIn wsX8_read (va_wsS RX8 65 yX8_numberOf wsX8_numberOf) := goodIn_app (goodIn_of _ (by decide +kernel)) ggX8_read_X8_numberOf
theorem dX8_read_0 : decode cX8_read 0 = .ok (.aload_n 0, 1) := by decide +kernel
theorem dX8_read_1 : decode cX8_read 1 = .ok (.iconst 0, 1) := by decide +kernel
theorem dX8_read_2 : decode cX8_read 2 = .ok (.putfield 48, 3) := by decide +kernel
theorem dX8_read_5 : decode cX8_read 5 = .ok (.iload_n 1, 1) := by decide +kernel
theorem dX8_read_6 : decode cX8_read 6 = .ok (.i2l, 1) := by decide +kernel
theorem dX8_read_7 : decode cX8_read 7 = .ok (.lconst 0, 1) := by decide +kernel
theorem dX8_read_8 : decode cX8_read 8 = .ok (.ldc2_w 75, 3) := by decide +kernel
theorem dX8_read_11 : decode cX8_read 11 = .ok (.invokestatic 70, 3) := by decide +kernel
theorem dX8_read_14 : decode cX8_read 14 = .ok (.ifCond .eq 10, 3) := by decide +kernel
theorem dX8_read_17 : decode cX8_read 17 = .ok (.iload_n 1, 1) := by decide +kernel
theorem dX8_read_18 : decode cX8_read 18 = .ok (.invokestatic 65, 3) := by decide +kernel
theorem dX8_read_21 : decode cX8_read 21 = .ok (.goto 5, 3) := by decide +kernel
theorem dX8_read_24 : decode cX8_read 24 = .ok (.ldc 74, 2) := by decide +kernel
theorem dX8_read_26 : decode cX8_read 26 = .ok (.ireturn, 1) := by decide +kernel
set_option maxRecDepth 20000 in
theorem ggX8_mends_X8_isMended : GoodIn wsX8_mends wsX8_isMended := goodIn_r _ [7, 8, 9, 6, 10, 11, 12, 13, 14, 15, 16, 17, 18, 19] (by decide +kernel) (by decide +kernel)
set_option maxRecDepth 20000 in
theorem gX8_mends_X8_isMended : GoodIn wsX8_mends (va_wsS RX8 77 yX8_isMended wsX8_isMended) := goodIn_app (goodIn_of _ (by decide +kernel)) ggX8_mends_X8_isMended
theorem dX8_mends_0 : decode cX8_mends 0 = .ok (.iload_n 1, 1) := by decide +kernel
theorem dX8_mends_1 : decode cX8_mends 1 = .ok (.istore_n 3, 1) := by decide +kernel
theorem dX8_mends_2 : decode cX8_mends 2 = .ok (.iload_n 3, 1) := by decide +kernel
theorem dX8_mends_3 : decode cX8_mends 3 = .ok (.iload_n 2, 1) := by decide +kernel
theorem dX8_mends_4 : decode cX8_mends 4 = .ok (.if_icmp .gt 46, 3) := by decide +kernel
theorem dX8_mends_7 : decode cX8_mends 7 = .ok (.aload_n 0, 1) := by decide +kernel
theorem dX8_mends_8 : decode cX8_mends 8 = .ok (.getfield 7, 3) := by decide +kernel
theorem dX8_mends_11 : decode cX8_mends 11 = .ok (.iconst 3, 1) := by decide +kernel
theorem dX8_mends_12 : decode cX8_mends 12 = .ok (.dup2, 1) := by decide +kernel
theorem dX8_mends_13 : decode cX8_mends 13 = .ok (.iaload, 1) := by decide +kernel
theorem dX8_mends_14 : decode cX8_mends 14 = .ok (.aload_n 0, 1) := by decide +kernel
theorem dX8_mends_15 : decode cX8_mends 15 = .ok (.getfield 13, 3) := by decide +kernel
theorem dX8_mends_18 : decode cX8_mends 18 = .ok (.iload_n 3, 1) := by decide +kernel
theorem dX8_mends_19 : decode cX8_mends 19 = .ok (.iaload, 1) := by decide +kernel
theorem dX8_mends_20 : decode cX8_mends 20 = .ok (.invokestatic 77, 3) := by decide +kernel
theorem dX8_mends_23 : decode cX8_mends 23 = .ok (.ifCond .eq 18, 3) := by decide +kernel
theorem dX8_mends_26 : decode cX8_mends 26 = .ok (.aload_n 0, 1) := by decide +kernel
theorem dX8_mends_27 : decode cX8_mends 27 = .ok (.getfield 7, 3) := by decide +kernel
theorem dX8_mends_30 : decode cX8_mends 30 = .ok (.iconst 3, 1) := by decide +kernel
theorem dX8_mends_31 : decode cX8_mends 31 = .ok (.iaload, 1) := by decide +kernel
theorem dX8_mends_32 : decode cX8_mends 32 = .ok (.ldc 81, 2) := by decide +kernel
theorem dX8_mends_34 : decode cX8_mends 34 = .ok (.if_icmp .ge 7, 3) := by decide +kernel
theorem dX8_mends_37 : decode cX8_mends 37 = .ok (.iconst 1, 1) := by decide +kernel
theorem dX8_mends_38 : decode cX8_mends 38 = .ok (.goto 4, 3) := by decide +kernel
theorem dX8_mends_41 : decode cX8_mends 41 = .ok (.iconst 0, 1) := by decide +kernel
theorem dX8_mends_42 : decode cX8_mends 42 = .ok (.iadd, 1) := by decide +kernel
theorem dX8_mends_43 : decode cX8_mends 43 = .ok (.iastore, 1) := by decide +kernel
theorem dX8_mends_44 : decode cX8_mends 44 = .ok (.iinc 3 1, 3) := by decide +kernel
theorem dX8_mends_47 : decode cX8_mends 47 = .ok (.goto (-45), 3) := by decide +kernel
theorem dX8_mends_50 : decode cX8_mends 50 = .ok (.return_, 1) := by decide +kernel
set_option maxRecDepth 20000 in
theorem ggX8_number_X8_numberOf : GoodIn wsX8_number wsX8_numberOf := goodIn_r _ [5, 6, 7, 4, 8, 9, 10, 11, 12, 13, 14] (by decide +kernel) (by decide +kernel)
set_option maxRecDepth 20000 in
theorem gX8_number_X8_numberOf : GoodIn wsX8_number (va_wsS RX8 65 yX8_numberOf wsX8_numberOf) := goodIn_app (goodIn_of _ (by decide +kernel)) ggX8_number_X8_numberOf
theorem dX8_number_0 : decode cX8_number 0 = .ok (.aload_n 0, 1) := by decide +kernel
theorem dX8_number_1 : decode cX8_number 1 = .ok (.getfield 13, 3) := by decide +kernel
theorem dX8_number_4 : decode cX8_number 4 = .ok (.iload_n 1, 1) := by decide +kernel
theorem dX8_number_5 : decode cX8_number 5 = .ok (.iaload, 1) := by decide +kernel
theorem dX8_number_6 : decode cX8_number 6 = .ok (.invokestatic 65, 3) := by decide +kernel
theorem dX8_number_9 : decode cX8_number 9 = .ok (.ireturn, 1) := by decide +kernel
set_option maxRecDepth 20000 in
theorem ggX8_pageOf_X8_of : GoodIn wsX8_pageOf wsX8_of := goodIn_r _ [6, 1, 7, 8, 5, 9, 10, 11, 12, 13, 14, 15, 16, 17, 18, 19, 20, 21, 22, 23, 24, 25, 26] (by decide +kernel) (by decide +kernel)
set_option maxRecDepth 20000 in
theorem gX8_pageOf_X8_of : GoodIn wsX8_pageOf (wsV RX8 82 RX8 yX8_of wsX8_of) := goodIn_app (goodIn_of _ (by decide +kernel)) ggX8_pageOf_X8_of
theorem dX8_pageOf_0 : decode cX8_pageOf 0 = .ok (.iconst 0, 1) := by decide +kernel
theorem dX8_pageOf_1 : decode cX8_pageOf 1 = .ok (.istore 4, 2) := by decide +kernel
theorem dX8_pageOf_3 : decode cX8_pageOf 3 = .ok (.iload 4, 2) := by decide +kernel
theorem dX8_pageOf_5 : decode cX8_pageOf 5 = .ok (.aload_n 0, 1) := by decide +kernel
theorem dX8_pageOf_6 : decode cX8_pageOf 6 = .ok (.getfield 7, 3) := by decide +kernel
theorem dX8_pageOf_9 : decode cX8_pageOf 9 = .ok (.iconst 0, 1) := by decide +kernel
theorem dX8_pageOf_10 : decode cX8_pageOf 10 = .ok (.iaload, 1) := by decide +kernel
theorem dX8_pageOf_11 : decode cX8_pageOf 11 = .ok (.if_icmp .ge 45, 3) := by decide +kernel
theorem dX8_pageOf_14 : decode cX8_pageOf 14 = .ok (.aload_n 0, 1) := by decide +kernel
theorem dX8_pageOf_15 : decode cX8_pageOf 15 = .ok (.iload 4, 2) := by decide +kernel
theorem dX8_pageOf_17 : decode cX8_pageOf 17 = .ok (.iconst 0, 1) := by decide +kernel
theorem dX8_pageOf_18 : decode cX8_pageOf 18 = .ok (.invokevirtual 82, 3) := by decide +kernel
theorem dX8_pageOf_21 : decode cX8_pageOf 21 = .ok (.iload_n 1, 1) := by decide +kernel
theorem dX8_pageOf_22 : decode cX8_pageOf 22 = .ok (.if_icmp .ne 28, 3) := by decide +kernel
theorem dX8_pageOf_25 : decode cX8_pageOf 25 = .ok (.aload_n 0, 1) := by decide +kernel
theorem dX8_pageOf_26 : decode cX8_pageOf 26 = .ok (.iload 4, 2) := by decide +kernel
theorem dX8_pageOf_28 : decode cX8_pageOf 28 = .ok (.iconst 1, 1) := by decide +kernel
theorem dX8_pageOf_29 : decode cX8_pageOf 29 = .ok (.invokevirtual 82, 3) := by decide +kernel
theorem dX8_pageOf_32 : decode cX8_pageOf 32 = .ok (.iload_n 2, 1) := by decide +kernel
theorem dX8_pageOf_33 : decode cX8_pageOf 33 = .ok (.if_icmp .ne 17, 3) := by decide +kernel
theorem dX8_pageOf_36 : decode cX8_pageOf 36 = .ok (.aload_n 0, 1) := by decide +kernel
theorem dX8_pageOf_37 : decode cX8_pageOf 37 = .ok (.iload 4, 2) := by decide +kernel
theorem dX8_pageOf_39 : decode cX8_pageOf 39 = .ok (.iconst 2, 1) := by decide +kernel
theorem dX8_pageOf_40 : decode cX8_pageOf 40 = .ok (.invokevirtual 82, 3) := by decide +kernel
theorem dX8_pageOf_43 : decode cX8_pageOf 43 = .ok (.iload_n 3, 1) := by decide +kernel
theorem dX8_pageOf_44 : decode cX8_pageOf 44 = .ok (.if_icmp .ne 6, 3) := by decide +kernel
theorem dX8_pageOf_47 : decode cX8_pageOf 47 = .ok (.iload 4, 2) := by decide +kernel
theorem dX8_pageOf_49 : decode cX8_pageOf 49 = .ok (.ireturn, 1) := by decide +kernel
theorem dX8_pageOf_50 : decode cX8_pageOf 50 = .ok (.iinc 4 1, 3) := by decide +kernel
theorem dX8_pageOf_53 : decode cX8_pageOf 53 = .ok (.goto (-50), 3) := by decide +kernel
theorem dX8_pageOf_56 : decode cX8_pageOf 56 = .ok (.iconst (-1), 1) := by decide +kernel
theorem dX8_pageOf_57 : decode cX8_pageOf 57 = .ok (.ireturn, 1) := by decide +kernel
set_option maxRecDepth 20000 in
theorem ggX8_goes_X8_at : GoodIn wsX8_goes wsX8_at := goodIn_r _ [5] (by decide +kernel) (by decide +kernel)
set_option maxRecDepth 20000 in
theorem gX8_goes_X8_at : GoodIn wsX8_goes (va_wsS RX8 52 yX8_at wsX8_at) := goodIn_app (goodIn_of _ (by decide +kernel)) ggX8_goes_X8_at
theorem dX8_goes_0 : decode cX8_goes 0 = .ok (.iload_n 1, 1) := by decide +kernel
theorem dX8_goes_1 : decode cX8_goes 1 = .ok (.invokestatic 52, 3) := by decide +kernel
theorem dX8_goes_4 : decode cX8_goes 4 = .ok (.istore_n 2, 1) := by decide +kernel
theorem dX8_goes_5 : decode cX8_goes 5 = .ok (.iload_n 2, 1) := by decide +kernel
theorem dX8_goes_6 : decode cX8_goes 6 = .ok (.aload_n 0, 1) := by decide +kernel
theorem dX8_goes_7 : decode cX8_goes 7 = .ok (.getfield 7, 3) := by decide +kernel
theorem dX8_goes_10 : decode cX8_goes 10 = .ok (.iconst 0, 1) := by decide +kernel
theorem dX8_goes_11 : decode cX8_goes 11 = .ok (.iaload, 1) := by decide +kernel
theorem dX8_goes_12 : decode cX8_goes 12 = .ok (.iconst 1, 1) := by decide +kernel
theorem dX8_goes_13 : decode cX8_goes 13 = .ok (.isub, 1) := by decide +kernel
theorem dX8_goes_14 : decode cX8_goes 14 = .ok (.invokestatic 52, 3) := by decide +kernel
theorem dX8_goes_17 : decode cX8_goes 17 = .ok (.if_icmp .ge 24, 3) := by decide +kernel
theorem dX8_goes_20 : decode cX8_goes 20 = .ok (.aload_n 0, 1) := by decide +kernel
theorem dX8_goes_21 : decode cX8_goes 21 = .ok (.getfield 7, 3) := by decide +kernel
theorem dX8_goes_24 : decode cX8_goes 24 = .ok (.iload_n 2, 1) := by decide +kernel
theorem dX8_goes_25 : decode cX8_goes 25 = .ok (.aload_n 0, 1) := by decide +kernel
theorem dX8_goes_26 : decode cX8_goes 26 = .ok (.getfield 7, 3) := by decide +kernel
theorem dX8_goes_29 : decode cX8_goes 29 = .ok (.iload_n 2, 1) := by decide +kernel
theorem dX8_goes_30 : decode cX8_goes 30 = .ok (.bipush 50, 2) := by decide +kernel
theorem dX8_goes_32 : decode cX8_goes 32 = .ok (.iadd, 1) := by decide +kernel
theorem dX8_goes_33 : decode cX8_goes 33 = .ok (.iaload, 1) := by decide +kernel
theorem dX8_goes_34 : decode cX8_goes 34 = .ok (.iastore, 1) := by decide +kernel
theorem dX8_goes_35 : decode cX8_goes 35 = .ok (.iinc 2 1, 3) := by decide +kernel
theorem dX8_goes_38 : decode cX8_goes 38 = .ok (.goto (-33), 3) := by decide +kernel
theorem dX8_goes_41 : decode cX8_goes 41 = .ok (.aload_n 0, 1) := by decide +kernel
theorem dX8_goes_42 : decode cX8_goes 42 = .ok (.getfield 7, 3) := by decide +kernel
theorem dX8_goes_45 : decode cX8_goes 45 = .ok (.iconst 0, 1) := by decide +kernel
theorem dX8_goes_46 : decode cX8_goes 46 = .ok (.dup2, 1) := by decide +kernel
theorem dX8_goes_47 : decode cX8_goes 47 = .ok (.iaload, 1) := by decide +kernel
theorem dX8_goes_48 : decode cX8_goes 48 = .ok (.iconst 1, 1) := by decide +kernel
theorem dX8_goes_49 : decode cX8_goes 49 = .ok (.isub, 1) := by decide +kernel
theorem dX8_goes_50 : decode cX8_goes 50 = .ok (.iastore, 1) := by decide +kernel
theorem dX8_goes_51 : decode cX8_goes 51 = .ok (.iconst 0, 1) := by decide +kernel
theorem dX8_goes_52 : decode cX8_goes 52 = .ok (.istore_n 2, 1) := by decide +kernel
theorem dX8_goes_53 : decode cX8_goes 53 = .ok (.iload_n 2, 1) := by decide +kernel
theorem dX8_goes_54 : decode cX8_goes 54 = .ok (.iconst 4, 1) := by decide +kernel
theorem dX8_goes_55 : decode cX8_goes 55 = .ok (.if_icmp .ge 47, 3) := by decide +kernel
theorem dX8_goes_58 : decode cX8_goes 58 = .ok (.aload_n 0, 1) := by decide +kernel
theorem dX8_goes_59 : decode cX8_goes 59 = .ok (.getfield 7, 3) := by decide +kernel
theorem dX8_goes_62 : decode cX8_goes 62 = .ok (.iconst 4, 1) := by decide +kernel
theorem dX8_goes_63 : decode cX8_goes 63 = .ok (.iload_n 2, 1) := by decide +kernel
theorem dX8_goes_64 : decode cX8_goes 64 = .ok (.iadd, 1) := by decide +kernel
theorem dX8_goes_65 : decode cX8_goes 65 = .ok (.iaload, 1) := by decide +kernel
theorem dX8_goes_66 : decode cX8_goes 66 = .ok (.istore_n 3, 1) := by decide +kernel
theorem dX8_goes_67 : decode cX8_goes 67 = .ok (.aload_n 0, 1) := by decide +kernel
theorem dX8_goes_68 : decode cX8_goes 68 = .ok (.getfield 7, 3) := by decide +kernel
theorem dX8_goes_71 : decode cX8_goes 71 = .ok (.iconst 4, 1) := by decide +kernel
theorem dX8_goes_72 : decode cX8_goes 72 = .ok (.iload_n 2, 1) := by decide +kernel
theorem dX8_goes_73 : decode cX8_goes 73 = .ok (.iadd, 1) := by decide +kernel
theorem dX8_goes_74 : decode cX8_goes 74 = .ok (.iload_n 3, 1) := by decide +kernel
theorem dX8_goes_75 : decode cX8_goes 75 = .ok (.iload_n 1, 1) := by decide +kernel
theorem dX8_goes_76 : decode cX8_goes 76 = .ok (.if_icmp .ne 7, 3) := by decide +kernel
theorem dX8_goes_79 : decode cX8_goes 79 = .ok (.iconst (-1), 1) := by decide +kernel
theorem dX8_goes_80 : decode cX8_goes 80 = .ok (.goto 15, 3) := by decide +kernel
theorem dX8_goes_83 : decode cX8_goes 83 = .ok (.iload_n 3, 1) := by decide +kernel
theorem dX8_goes_84 : decode cX8_goes 84 = .ok (.iload_n 1, 1) := by decide +kernel
theorem dX8_goes_85 : decode cX8_goes 85 = .ok (.if_icmp .le 9, 3) := by decide +kernel
theorem dX8_goes_88 : decode cX8_goes 88 = .ok (.iload_n 3, 1) := by decide +kernel
theorem dX8_goes_89 : decode cX8_goes 89 = .ok (.iconst 1, 1) := by decide +kernel
theorem dX8_goes_90 : decode cX8_goes 90 = .ok (.isub, 1) := by decide +kernel
theorem dX8_goes_91 : decode cX8_goes 91 = .ok (.goto 4, 3) := by decide +kernel
theorem dX8_goes_94 : decode cX8_goes 94 = .ok (.iload_n 3, 1) := by decide +kernel
theorem dX8_goes_95 : decode cX8_goes 95 = .ok (.iastore, 1) := by decide +kernel
theorem dX8_goes_96 : decode cX8_goes 96 = .ok (.iinc 2 1, 3) := by decide +kernel
theorem dX8_goes_99 : decode cX8_goes 99 = .ok (.goto (-46), 3) := by decide +kernel
theorem dX8_goes_102 : decode cX8_goes 102 = .ok (.return_, 1) := by decide +kernel
set_option maxRecDepth 20000 in
theorem ggX8_oldest_X8_of : GoodIn wsX8_oldest wsX8_of := goodIn_r _ [6, 1, 7, 8, 5, 9, 10, 11, 12, 13, 14, 15, 16, 17, 18, 19, 20, 21, 22, 23, 24, 25, 26] (by decide +kernel) (by decide +kernel)
set_option maxRecDepth 20000 in
theorem gX8_oldest_X8_of : GoodIn wsX8_oldest (wsV RX8 82 RX8 yX8_of wsX8_of) := goodIn_app (goodIn_of _ (by decide +kernel)) ggX8_oldest_X8_of
theorem dX8_oldest_0 : decode cX8_oldest 0 = .ok (.iconst 0, 1) := by decide +kernel
theorem dX8_oldest_1 : decode cX8_oldest 1 = .ok (.istore_n 1, 1) := by decide +kernel
theorem dX8_oldest_2 : decode cX8_oldest 2 = .ok (.iconst 1, 1) := by decide +kernel
theorem dX8_oldest_3 : decode cX8_oldest 3 = .ok (.istore_n 2, 1) := by decide +kernel
theorem dX8_oldest_4 : decode cX8_oldest 4 = .ok (.iload_n 2, 1) := by decide +kernel
theorem dX8_oldest_5 : decode cX8_oldest 5 = .ok (.aload_n 0, 1) := by decide +kernel
theorem dX8_oldest_6 : decode cX8_oldest 6 = .ok (.getfield 7, 3) := by decide +kernel
theorem dX8_oldest_9 : decode cX8_oldest 9 = .ok (.iconst 0, 1) := by decide +kernel
theorem dX8_oldest_10 : decode cX8_oldest 10 = .ok (.iaload, 1) := by decide +kernel
theorem dX8_oldest_11 : decode cX8_oldest 11 = .ok (.if_icmp .ge 30, 3) := by decide +kernel
theorem dX8_oldest_14 : decode cX8_oldest 14 = .ok (.aload_n 0, 1) := by decide +kernel
theorem dX8_oldest_15 : decode cX8_oldest 15 = .ok (.iload_n 2, 1) := by decide +kernel
theorem dX8_oldest_16 : decode cX8_oldest 16 = .ok (.iconst 5, 1) := by decide +kernel
theorem dX8_oldest_17 : decode cX8_oldest 17 = .ok (.invokevirtual 82, 3) := by decide +kernel
theorem dX8_oldest_20 : decode cX8_oldest 20 = .ok (.aload_n 0, 1) := by decide +kernel
theorem dX8_oldest_21 : decode cX8_oldest 21 = .ok (.iload_n 1, 1) := by decide +kernel
theorem dX8_oldest_22 : decode cX8_oldest 22 = .ok (.iconst 5, 1) := by decide +kernel
theorem dX8_oldest_23 : decode cX8_oldest 23 = .ok (.invokevirtual 82, 3) := by decide +kernel
theorem dX8_oldest_26 : decode cX8_oldest 26 = .ok (.if_icmp .ge 7, 3) := by decide +kernel
theorem dX8_oldest_29 : decode cX8_oldest 29 = .ok (.iload_n 2, 1) := by decide +kernel
theorem dX8_oldest_30 : decode cX8_oldest 30 = .ok (.goto 4, 3) := by decide +kernel
theorem dX8_oldest_33 : decode cX8_oldest 33 = .ok (.iload_n 1, 1) := by decide +kernel
theorem dX8_oldest_34 : decode cX8_oldest 34 = .ok (.istore_n 1, 1) := by decide +kernel
theorem dX8_oldest_35 : decode cX8_oldest 35 = .ok (.iinc 2 1, 3) := by decide +kernel
theorem dX8_oldest_38 : decode cX8_oldest 38 = .ok (.goto (-34), 3) := by decide +kernel
theorem dX8_oldest_41 : decode cX8_oldest 41 = .ok (.iload_n 1, 1) := by decide +kernel
theorem dX8_oldest_42 : decode cX8_oldest 42 = .ok (.ireturn, 1) := by decide +kernel
set_option maxRecDepth 20000 in
theorem ggX8_empties_X8_at : GoodIn wsX8_empties wsX8_at := goodIn_r _ [5] (by decide +kernel) (by decide +kernel)
set_option maxRecDepth 20000 in
theorem gX8_empties_X8_at : GoodIn wsX8_empties (va_wsS RX8 52 yX8_at wsX8_at) := goodIn_app (goodIn_of _ (by decide +kernel)) ggX8_empties_X8_at
theorem dX8_empties_0 : decode cX8_empties 0 = .ok (.bipush 6, 2) := by decide +kernel
theorem dX8_empties_2 : decode cX8_empties 2 = .ok (.istore_n 2, 1) := by decide +kernel
theorem dX8_empties_3 : decode cX8_empties 3 = .ok (.iload_n 2, 1) := by decide +kernel
theorem dX8_empties_4 : decode cX8_empties 4 = .ok (.bipush 50, 2) := by decide +kernel
theorem dX8_empties_6 : decode cX8_empties 6 = .ok (.if_icmp .ge 21, 3) := by decide +kernel
theorem dX8_empties_9 : decode cX8_empties 9 = .ok (.aload_n 0, 1) := by decide +kernel
theorem dX8_empties_10 : decode cX8_empties 10 = .ok (.getfield 7, 3) := by decide +kernel
theorem dX8_empties_13 : decode cX8_empties 13 = .ok (.iload_n 1, 1) := by decide +kernel
theorem dX8_empties_14 : decode cX8_empties 14 = .ok (.invokestatic 52, 3) := by decide +kernel
theorem dX8_empties_17 : decode cX8_empties 17 = .ok (.iload_n 2, 1) := by decide +kernel
theorem dX8_empties_18 : decode cX8_empties 18 = .ok (.iadd, 1) := by decide +kernel
theorem dX8_empties_19 : decode cX8_empties 19 = .ok (.iconst (-1), 1) := by decide +kernel
theorem dX8_empties_20 : decode cX8_empties 20 = .ok (.iastore, 1) := by decide +kernel
theorem dX8_empties_21 : decode cX8_empties 21 = .ok (.iinc 2 1, 3) := by decide +kernel
theorem dX8_empties_24 : decode cX8_empties 24 = .ok (.goto (-21), 3) := by decide +kernel
theorem dX8_empties_27 : decode cX8_empties 27 = .ok (.return_, 1) := by decide +kernel
set_option maxRecDepth 20000 in
theorem ggX8_newPage_X8_oldest : GoodIn wsX8_newPage wsX8_oldest := goodIn_r _ [6, 1, 7, 8, 9, 5, 10, 11, 12, 13, 22, 23, 24, 25, 26, 27, 28, 29, 30, 31, 32, 33, 34, 35, 36, 37, 38] (by decide +kernel) (by decide +kernel)
set_option maxRecDepth 20000 in
theorem gX8_newPage_X8_oldest : GoodIn wsX8_newPage (wsV RX8 86 RX8 yX8_oldest wsX8_oldest) := goodIn_app (goodIn_of _ (by decide +kernel)) ggX8_newPage_X8_oldest
set_option maxRecDepth 20000 in
theorem ggX8_newPage_X8_goes : GoodIn wsX8_newPage wsX8_goes := goodIn_r _ [17, 1, 11, 12, 5, 13, 22, 23, 24, 25, 26, 27, 28, 29, 30, 31, 32, 33, 34, 35, 36, 37, 38] (by decide +kernel) (by decide +kernel)
set_option maxRecDepth 20000 in
theorem gX8_newPage_X8_goes : GoodIn wsX8_newPage (wsV RX8 90 RX8 yX8_goes wsX8_goes) := goodIn_app (goodIn_of _ (by decide +kernel)) ggX8_newPage_X8_goes
set_option maxRecDepth 20000 in
theorem ggX8_newPage_X8_at : GoodIn wsX8_newPage wsX8_at := goodIn_r _ [13] (by decide +kernel) (by decide +kernel)
set_option maxRecDepth 20000 in
theorem gX8_newPage_X8_at : GoodIn wsX8_newPage (va_wsS RX8 52 yX8_at wsX8_at) := goodIn_app (goodIn_of _ (by decide +kernel)) ggX8_newPage_X8_at
set_option maxRecDepth 20000 in
theorem ggX8_newPage_X8_empties : GoodIn wsX8_newPage wsX8_empties := goodIn_r _ [21, 1, 11, 12, 5, 13, 22, 23, 24, 25, 26, 27, 28, 29, 30, 31, 32, 33, 34, 35, 36, 37, 38] (by decide +kernel) (by decide +kernel)
set_option maxRecDepth 20000 in
theorem gX8_newPage_X8_empties : GoodIn wsX8_newPage (wsV RX8 94 RX8 yX8_empties wsX8_empties) := goodIn_app (goodIn_of _ (by decide +kernel)) ggX8_newPage_X8_empties
theorem dX8_newPage_0 : decode cX8_newPage 0 = .ok (.aload_n 0, 1) := by decide +kernel
theorem dX8_newPage_1 : decode cX8_newPage 1 = .ok (.getfield 7, 3) := by decide +kernel
theorem dX8_newPage_4 : decode cX8_newPage 4 = .ok (.iconst 0, 1) := by decide +kernel
theorem dX8_newPage_5 : decode cX8_newPage 5 = .ok (.iaload, 1) := by decide +kernel
theorem dX8_newPage_6 : decode cX8_newPage 6 = .ok (.bipush 10, 2) := by decide +kernel
theorem dX8_newPage_8 : decode cX8_newPage 8 = .ok (.if_icmp .ne 11, 3) := by decide +kernel
theorem dX8_newPage_11 : decode cX8_newPage 11 = .ok (.aload_n 0, 1) := by decide +kernel
theorem dX8_newPage_12 : decode cX8_newPage 12 = .ok (.aload_n 0, 1) := by decide +kernel
theorem dX8_newPage_13 : decode cX8_newPage 13 = .ok (.invokevirtual 86, 3) := by decide +kernel
theorem dX8_newPage_16 : decode cX8_newPage 16 = .ok (.invokevirtual 90, 3) := by decide +kernel
theorem dX8_newPage_19 : decode cX8_newPage 19 = .ok (.aload_n 0, 1) := by decide +kernel
theorem dX8_newPage_20 : decode cX8_newPage 20 = .ok (.getfield 7, 3) := by decide +kernel
theorem dX8_newPage_23 : decode cX8_newPage 23 = .ok (.iconst 0, 1) := by decide +kernel
theorem dX8_newPage_24 : decode cX8_newPage 24 = .ok (.iaload, 1) := by decide +kernel
theorem dX8_newPage_25 : decode cX8_newPage 25 = .ok (.istore 4, 2) := by decide +kernel
theorem dX8_newPage_27 : decode cX8_newPage 27 = .ok (.aload_n 0, 1) := by decide +kernel
theorem dX8_newPage_28 : decode cX8_newPage 28 = .ok (.getfield 7, 3) := by decide +kernel
theorem dX8_newPage_31 : decode cX8_newPage 31 = .ok (.iconst 0, 1) := by decide +kernel
theorem dX8_newPage_32 : decode cX8_newPage 32 = .ok (.dup2, 1) := by decide +kernel
theorem dX8_newPage_33 : decode cX8_newPage 33 = .ok (.iaload, 1) := by decide +kernel
theorem dX8_newPage_34 : decode cX8_newPage 34 = .ok (.iconst 1, 1) := by decide +kernel
theorem dX8_newPage_35 : decode cX8_newPage 35 = .ok (.iadd, 1) := by decide +kernel
theorem dX8_newPage_36 : decode cX8_newPage 36 = .ok (.iastore, 1) := by decide +kernel
theorem dX8_newPage_37 : decode cX8_newPage 37 = .ok (.aload_n 0, 1) := by decide +kernel
theorem dX8_newPage_38 : decode cX8_newPage 38 = .ok (.getfield 7, 3) := by decide +kernel
theorem dX8_newPage_41 : decode cX8_newPage 41 = .ok (.iload 4, 2) := by decide +kernel
theorem dX8_newPage_43 : decode cX8_newPage 43 = .ok (.invokestatic 52, 3) := by decide +kernel
theorem dX8_newPage_46 : decode cX8_newPage 46 = .ok (.iconst 0, 1) := by decide +kernel
theorem dX8_newPage_47 : decode cX8_newPage 47 = .ok (.iadd, 1) := by decide +kernel
theorem dX8_newPage_48 : decode cX8_newPage 48 = .ok (.iload_n 1, 1) := by decide +kernel
theorem dX8_newPage_49 : decode cX8_newPage 49 = .ok (.iastore, 1) := by decide +kernel
theorem dX8_newPage_50 : decode cX8_newPage 50 = .ok (.aload_n 0, 1) := by decide +kernel
theorem dX8_newPage_51 : decode cX8_newPage 51 = .ok (.getfield 7, 3) := by decide +kernel
theorem dX8_newPage_54 : decode cX8_newPage 54 = .ok (.iload 4, 2) := by decide +kernel
theorem dX8_newPage_56 : decode cX8_newPage 56 = .ok (.invokestatic 52, 3) := by decide +kernel
theorem dX8_newPage_59 : decode cX8_newPage 59 = .ok (.iconst 1, 1) := by decide +kernel
theorem dX8_newPage_60 : decode cX8_newPage 60 = .ok (.iadd, 1) := by decide +kernel
theorem dX8_newPage_61 : decode cX8_newPage 61 = .ok (.iload_n 2, 1) := by decide +kernel
theorem dX8_newPage_62 : decode cX8_newPage 62 = .ok (.iastore, 1) := by decide +kernel
theorem dX8_newPage_63 : decode cX8_newPage 63 = .ok (.aload_n 0, 1) := by decide +kernel
theorem dX8_newPage_64 : decode cX8_newPage 64 = .ok (.getfield 7, 3) := by decide +kernel
theorem dX8_newPage_67 : decode cX8_newPage 67 = .ok (.iload 4, 2) := by decide +kernel
theorem dX8_newPage_69 : decode cX8_newPage 69 = .ok (.invokestatic 52, 3) := by decide +kernel
theorem dX8_newPage_72 : decode cX8_newPage 72 = .ok (.iconst 2, 1) := by decide +kernel
theorem dX8_newPage_73 : decode cX8_newPage 73 = .ok (.iadd, 1) := by decide +kernel
theorem dX8_newPage_74 : decode cX8_newPage 74 = .ok (.iload_n 3, 1) := by decide +kernel
theorem dX8_newPage_75 : decode cX8_newPage 75 = .ok (.iastore, 1) := by decide +kernel
theorem dX8_newPage_76 : decode cX8_newPage 76 = .ok (.aload_n 0, 1) := by decide +kernel
theorem dX8_newPage_77 : decode cX8_newPage 77 = .ok (.getfield 7, 3) := by decide +kernel
theorem dX8_newPage_80 : decode cX8_newPage 80 = .ok (.iload 4, 2) := by decide +kernel
theorem dX8_newPage_82 : decode cX8_newPage 82 = .ok (.invokestatic 52, 3) := by decide +kernel
theorem dX8_newPage_85 : decode cX8_newPage 85 = .ok (.iconst 3, 1) := by decide +kernel
theorem dX8_newPage_86 : decode cX8_newPage 86 = .ok (.iadd, 1) := by decide +kernel
theorem dX8_newPage_87 : decode cX8_newPage 87 = .ok (.iconst 0, 1) := by decide +kernel
theorem dX8_newPage_88 : decode cX8_newPage 88 = .ok (.iastore, 1) := by decide +kernel
theorem dX8_newPage_89 : decode cX8_newPage 89 = .ok (.aload_n 0, 1) := by decide +kernel
theorem dX8_newPage_90 : decode cX8_newPage 90 = .ok (.getfield 7, 3) := by decide +kernel
theorem dX8_newPage_93 : decode cX8_newPage 93 = .ok (.iload 4, 2) := by decide +kernel
theorem dX8_newPage_95 : decode cX8_newPage 95 = .ok (.invokestatic 52, 3) := by decide +kernel
theorem dX8_newPage_98 : decode cX8_newPage 98 = .ok (.iconst 4, 1) := by decide +kernel
theorem dX8_newPage_99 : decode cX8_newPage 99 = .ok (.iadd, 1) := by decide +kernel
theorem dX8_newPage_100 : decode cX8_newPage 100 = .ok (.iconst 1, 1) := by decide +kernel
theorem dX8_newPage_101 : decode cX8_newPage 101 = .ok (.iastore, 1) := by decide +kernel
theorem dX8_newPage_102 : decode cX8_newPage 102 = .ok (.aload_n 0, 1) := by decide +kernel
theorem dX8_newPage_103 : decode cX8_newPage 103 = .ok (.iload 4, 2) := by decide +kernel
theorem dX8_newPage_105 : decode cX8_newPage 105 = .ok (.invokevirtual 94, 3) := by decide +kernel
theorem dX8_newPage_108 : decode cX8_newPage 108 = .ok (.iload 4, 2) := by decide +kernel
theorem dX8_newPage_110 : decode cX8_newPage 110 = .ok (.ireturn, 1) := by decide +kernel
set_option maxRecDepth 20000 in
theorem ggX8_heads_X8_number : GoodIn wsX8_heads wsX8_number := goodIn_r _ [8, 9, 10, 11, 7, 12, 13, 14, 15, 16, 17, 18, 19, 20, 21, 52, 53, 54, 55, 56, 57, 58, 59, 60, 61, 62, 63, 64, 65, 66, 67, 68] (by decide +kernel) (by decide +kernel)
set_option maxRecDepth 20000 in
theorem gX8_heads_X8_number : GoodIn wsX8_heads (wsV RX8 97 RX8 yX8_number wsX8_number) := goodIn_app (goodIn_of _ (by decide +kernel)) ggX8_heads_X8_number
set_option maxRecDepth 20000 in
theorem ggX8_heads_X8_in : GoodIn wsX8_heads wsX8_in := goodIn_r _ [24] (by decide +kernel) (by decide +kernel)
set_option maxRecDepth 20000 in
theorem gX8_heads_X8_in : GoodIn wsX8_heads (va_wsS RX8 70 yX8_in wsX8_in) := goodIn_app (goodIn_of _ (by decide +kernel)) ggX8_heads_X8_in
set_option maxRecDepth 20000 in
theorem ggX8_heads_X8_pageOf : GoodIn wsX8_heads wsX8_pageOf := goodIn_r _ [28, 3, 29, 30, 31, 7, 32, 33, 34, 35, 52, 53, 54, 55, 56, 57, 58, 59, 60, 61, 62, 63, 64, 65, 66, 67, 68] (by decide +kernel) (by decide +kernel)
set_option maxRecDepth 20000 in
theorem gX8_heads_X8_pageOf : GoodIn wsX8_heads (wsV RX8 104 RX8 yX8_pageOf wsX8_pageOf) := goodIn_app (goodIn_of _ (by decide +kernel)) ggX8_heads_X8_pageOf
set_option maxRecDepth 20000 in
theorem ggX8_heads_X8_newPage : GoodIn wsX8_heads wsX8_newPage := goodIn_r _ [39, 3, 40, 41, 42, 7, 43, 29, 30, 31, 32, 33, 34, 35, 44, 45, 46, 47, 48, 49, 50, 51, 52, 53, 54, 55, 56, 57, 58, 59, 60, 61, 62, 63, 64, 65, 66, 67, 68] (by decide +kernel) (by decide +kernel)
set_option maxRecDepth 20000 in
theorem gX8_heads_X8_newPage : GoodIn wsX8_heads (wsV RX8 108 RX8 yX8_newPage wsX8_newPage) := goodIn_app (goodIn_of _ (by decide +kernel)) ggX8_heads_X8_newPage
set_option maxRecDepth 20000 in
theorem ggX8_heads_X8_at : GoodIn wsX8_heads wsX8_at := goodIn_r _ [35] (by decide +kernel) (by decide +kernel)
set_option maxRecDepth 20000 in
theorem gX8_heads_X8_at : GoodIn wsX8_heads (va_wsS RX8 52 yX8_at wsX8_at) := goodIn_app (goodIn_of _ (by decide +kernel)) ggX8_heads_X8_at
set_option maxRecDepth 20000 in
theorem ggX8_heads_X8_of : GoodIn wsX8_heads wsX8_of := goodIn_r _ [32, 3, 33, 34, 7, 35, 52, 53, 54, 55, 56, 57, 58, 59, 60, 61, 62, 63, 64, 65, 66, 67, 68] (by decide +kernel) (by decide +kernel)
set_option maxRecDepth 20000 in
theorem gX8_heads_X8_of : GoodIn wsX8_heads (wsV RX8 82 RX8 yX8_of wsX8_of) := goodIn_app (goodIn_of _ (by decide +kernel)) ggX8_heads_X8_of
set_option maxRecDepth 20000 in
theorem ggX8_heads_X8_empties : GoodIn wsX8_heads wsX8_empties := goodIn_r _ [51, 3, 33, 34, 7, 35, 52, 53, 54, 55, 56, 57, 58, 59, 60, 61, 62, 63, 64, 65, 66, 67, 68] (by decide +kernel) (by decide +kernel)
set_option maxRecDepth 20000 in
theorem gX8_heads_X8_empties : GoodIn wsX8_heads (wsV RX8 94 RX8 yX8_empties wsX8_empties) := goodIn_app (goodIn_of _ (by decide +kernel)) ggX8_heads_X8_empties
theorem dX8_heads_0 : decode cX8_heads 0 = .ok (.aload_n 0, 1) := by decide +kernel
theorem dX8_heads_1 : decode cX8_heads 1 = .ok (.iconst 2, 1) := by decide +kernel
theorem dX8_heads_2 : decode cX8_heads 2 = .ok (.invokevirtual 97, 3) := by decide +kernel
theorem dX8_heads_5 : decode cX8_heads 5 = .ok (.i2l, 1) := by decide +kernel
theorem dX8_heads_6 : decode cX8_heads 6 = .ok (.lconst 0, 1) := by decide +kernel
theorem dX8_heads_7 : decode cX8_heads 7 = .ok (.ldc2_w 100, 3) := by decide +kernel
theorem dX8_heads_10 : decode cX8_heads 10 = .ok (.invokestatic 70, 3) := by decide +kernel
theorem dX8_heads_13 : decode cX8_heads 13 = .ok (.ifCond .eq 48, 3) := by decide +kernel
theorem dX8_heads_16 : decode cX8_heads 16 = .ok (.aload_n 0, 1) := by decide +kernel
theorem dX8_heads_17 : decode cX8_heads 17 = .ok (.iconst 3, 1) := by decide +kernel
theorem dX8_heads_18 : decode cX8_heads 18 = .ok (.invokevirtual 97, 3) := by decide +kernel
theorem dX8_heads_21 : decode cX8_heads 21 = .ok (.i2l, 1) := by decide +kernel
theorem dX8_heads_22 : decode cX8_heads 22 = .ok (.lconst 0, 1) := by decide +kernel
theorem dX8_heads_23 : decode cX8_heads 23 = .ok (.ldc2_w 100, 3) := by decide +kernel
theorem dX8_heads_26 : decode cX8_heads 26 = .ok (.invokestatic 70, 3) := by decide +kernel
theorem dX8_heads_29 : decode cX8_heads 29 = .ok (.ifCond .eq 32, 3) := by decide +kernel
theorem dX8_heads_32 : decode cX8_heads 32 = .ok (.aload_n 0, 1) := by decide +kernel
theorem dX8_heads_33 : decode cX8_heads 33 = .ok (.iconst 4, 1) := by decide +kernel
theorem dX8_heads_34 : decode cX8_heads 34 = .ok (.invokevirtual 97, 3) := by decide +kernel
theorem dX8_heads_37 : decode cX8_heads 37 = .ok (.i2l, 1) := by decide +kernel
theorem dX8_heads_38 : decode cX8_heads 38 = .ok (.lconst 0, 1) := by decide +kernel
theorem dX8_heads_39 : decode cX8_heads 39 = .ok (.ldc2_w 102, 3) := by decide +kernel
theorem dX8_heads_42 : decode cX8_heads 42 = .ok (.invokestatic 70, 3) := by decide +kernel
theorem dX8_heads_45 : decode cX8_heads 45 = .ok (.ifCond .eq 16, 3) := by decide +kernel
theorem dX8_heads_48 : decode cX8_heads 48 = .ok (.aload_n 0, 1) := by decide +kernel
theorem dX8_heads_49 : decode cX8_heads 49 = .ok (.iconst 5, 1) := by decide +kernel
theorem dX8_heads_50 : decode cX8_heads 50 = .ok (.invokevirtual 97, 3) := by decide +kernel
theorem dX8_heads_53 : decode cX8_heads 53 = .ok (.iconst (-1), 1) := by decide +kernel
theorem dX8_heads_54 : decode cX8_heads 54 = .ok (.if_icmp .eq 7, 3) := by decide +kernel
theorem dX8_heads_57 : decode cX8_heads 57 = .ok (.iconst 1, 1) := by decide +kernel
theorem dX8_heads_58 : decode cX8_heads 58 = .ok (.goto 4, 3) := by decide +kernel
theorem dX8_heads_61 : decode cX8_heads 61 = .ok (.iconst 0, 1) := by decide +kernel
theorem dX8_heads_62 : decode cX8_heads 62 = .ok (.istore_n 2, 1) := by decide +kernel
theorem dX8_heads_63 : decode cX8_heads 63 = .ok (.iload_n 2, 1) := by decide +kernel
theorem dX8_heads_64 : decode cX8_heads 64 = .ok (.ifCond .ne 14, 3) := by decide +kernel
theorem dX8_heads_67 : decode cX8_heads 67 = .ok (.aload_n 0, 1) := by decide +kernel
theorem dX8_heads_68 : decode cX8_heads 68 = .ok (.getfield 7, 3) := by decide +kernel
theorem dX8_heads_71 : decode cX8_heads 71 = .ok (.iconst 4, 1) := by decide +kernel
theorem dX8_heads_72 : decode cX8_heads 72 = .ok (.iload_n 1, 1) := by decide +kernel
theorem dX8_heads_73 : decode cX8_heads 73 = .ok (.iadd, 1) := by decide +kernel
theorem dX8_heads_74 : decode cX8_heads 74 = .ok (.iconst (-1), 1) := by decide +kernel
theorem dX8_heads_75 : decode cX8_heads 75 = .ok (.iastore, 1) := by decide +kernel
theorem dX8_heads_76 : decode cX8_heads 76 = .ok (.iconst 0, 1) := by decide +kernel
theorem dX8_heads_77 : decode cX8_heads 77 = .ok (.ireturn, 1) := by decide +kernel
theorem dX8_heads_78 : decode cX8_heads 78 = .ok (.bipush 10, 2) := by decide +kernel
theorem dX8_heads_80 : decode cX8_heads 80 = .ok (.aload_n 0, 1) := by decide +kernel
theorem dX8_heads_81 : decode cX8_heads 81 = .ok (.iconst 3, 1) := by decide +kernel
theorem dX8_heads_82 : decode cX8_heads 82 = .ok (.invokevirtual 97, 3) := by decide +kernel
theorem dX8_heads_85 : decode cX8_heads 85 = .ok (.imul, 1) := by decide +kernel
theorem dX8_heads_86 : decode cX8_heads 86 = .ok (.aload_n 0, 1) := by decide +kernel
theorem dX8_heads_87 : decode cX8_heads 87 = .ok (.iconst 2, 1) := by decide +kernel
theorem dX8_heads_88 : decode cX8_heads 88 = .ok (.invokevirtual 97, 3) := by decide +kernel
theorem dX8_heads_91 : decode cX8_heads 91 = .ok (.iadd, 1) := by decide +kernel
theorem dX8_heads_92 : decode cX8_heads 92 = .ok (.istore_n 3, 1) := by decide +kernel
theorem dX8_heads_93 : decode cX8_heads 93 = .ok (.aload_n 0, 1) := by decide +kernel
theorem dX8_heads_94 : decode cX8_heads 94 = .ok (.iload_n 1, 1) := by decide +kernel
theorem dX8_heads_95 : decode cX8_heads 95 = .ok (.iload_n 3, 1) := by decide +kernel
theorem dX8_heads_96 : decode cX8_heads 96 = .ok (.aload_n 0, 1) := by decide +kernel
theorem dX8_heads_97 : decode cX8_heads 97 = .ok (.iconst 4, 1) := by decide +kernel
theorem dX8_heads_98 : decode cX8_heads 98 = .ok (.invokevirtual 97, 3) := by decide +kernel
theorem dX8_heads_101 : decode cX8_heads 101 = .ok (.invokevirtual 104, 3) := by decide +kernel
theorem dX8_heads_104 : decode cX8_heads 104 = .ok (.istore 4, 2) := by decide +kernel
theorem dX8_heads_106 : decode cX8_heads 106 = .ok (.iload 4, 2) := by decide +kernel
theorem dX8_heads_108 : decode cX8_heads 108 = .ok (.iconst (-1), 1) := by decide +kernel
theorem dX8_heads_109 : decode cX8_heads 109 = .ok (.if_icmp .ne 17, 3) := by decide +kernel
theorem dX8_heads_112 : decode cX8_heads 112 = .ok (.aload_n 0, 1) := by decide +kernel
theorem dX8_heads_113 : decode cX8_heads 113 = .ok (.iload_n 1, 1) := by decide +kernel
theorem dX8_heads_114 : decode cX8_heads 114 = .ok (.iload_n 3, 1) := by decide +kernel
theorem dX8_heads_115 : decode cX8_heads 115 = .ok (.aload_n 0, 1) := by decide +kernel
theorem dX8_heads_116 : decode cX8_heads 116 = .ok (.iconst 4, 1) := by decide +kernel
theorem dX8_heads_117 : decode cX8_heads 117 = .ok (.invokevirtual 97, 3) := by decide +kernel
theorem dX8_heads_120 : decode cX8_heads 120 = .ok (.invokevirtual 108, 3) := by decide +kernel
theorem dX8_heads_123 : decode cX8_heads 123 = .ok (.goto 5, 3) := by decide +kernel
theorem dX8_heads_126 : decode cX8_heads 126 = .ok (.iload 4, 2) := by decide +kernel
theorem dX8_heads_128 : decode cX8_heads 128 = .ok (.istore 4, 2) := by decide +kernel
theorem dX8_heads_130 : decode cX8_heads 130 = .ok (.aload_n 0, 1) := by decide +kernel
theorem dX8_heads_131 : decode cX8_heads 131 = .ok (.getfield 7, 3) := by decide +kernel
theorem dX8_heads_134 : decode cX8_heads 134 = .ok (.iload 4, 2) := by decide +kernel
theorem dX8_heads_136 : decode cX8_heads 136 = .ok (.invokestatic 52, 3) := by decide +kernel
theorem dX8_heads_139 : decode cX8_heads 139 = .ok (.iconst 3, 1) := by decide +kernel
theorem dX8_heads_140 : decode cX8_heads 140 = .ok (.iadd, 1) := by decide +kernel
theorem dX8_heads_141 : decode cX8_heads 141 = .ok (.dup2, 1) := by decide +kernel
theorem dX8_heads_142 : decode cX8_heads 142 = .ok (.iaload, 1) := by decide +kernel
theorem dX8_heads_143 : decode cX8_heads 143 = .ok (.aload_n 0, 1) := by decide +kernel
theorem dX8_heads_144 : decode cX8_heads 144 = .ok (.iload 4, 2) := by decide +kernel
theorem dX8_heads_146 : decode cX8_heads 146 = .ok (.iconst 3, 1) := by decide +kernel
theorem dX8_heads_147 : decode cX8_heads 147 = .ok (.invokevirtual 82, 3) := by decide +kernel
theorem dX8_heads_150 : decode cX8_heads 150 = .ok (.sipush 9999, 3) := by decide +kernel
theorem dX8_heads_153 : decode cX8_heads 153 = .ok (.if_icmp .ge 7, 3) := by decide +kernel
theorem dX8_heads_156 : decode cX8_heads 156 = .ok (.iconst 1, 1) := by decide +kernel
theorem dX8_heads_157 : decode cX8_heads 157 = .ok (.goto 4, 3) := by decide +kernel
theorem dX8_heads_160 : decode cX8_heads 160 = .ok (.iconst 0, 1) := by decide +kernel
theorem dX8_heads_161 : decode cX8_heads 161 = .ok (.iadd, 1) := by decide +kernel
theorem dX8_heads_162 : decode cX8_heads 162 = .ok (.iastore, 1) := by decide +kernel
theorem dX8_heads_163 : decode cX8_heads 163 = .ok (.aload_n 0, 1) := by decide +kernel
theorem dX8_heads_164 : decode cX8_heads 164 = .ok (.getfield 7, 3) := by decide +kernel
theorem dX8_heads_167 : decode cX8_heads 167 = .ok (.iload 4, 2) := by decide +kernel
theorem dX8_heads_169 : decode cX8_heads 169 = .ok (.invokestatic 52, 3) := by decide +kernel
theorem dX8_heads_172 : decode cX8_heads 172 = .ok (.iconst 5, 1) := by decide +kernel
theorem dX8_heads_173 : decode cX8_heads 173 = .ok (.iadd, 1) := by decide +kernel
theorem dX8_heads_174 : decode cX8_heads 174 = .ok (.aload_n 0, 1) := by decide +kernel
theorem dX8_heads_175 : decode cX8_heads 175 = .ok (.getfield 7, 3) := by decide +kernel
theorem dX8_heads_178 : decode cX8_heads 178 = .ok (.iconst 1, 1) := by decide +kernel
theorem dX8_heads_179 : decode cX8_heads 179 = .ok (.iaload, 1) := by decide +kernel
theorem dX8_heads_180 : decode cX8_heads 180 = .ok (.iastore, 1) := by decide +kernel
theorem dX8_heads_181 : decode cX8_heads 181 = .ok (.aload_n 0, 1) := by decide +kernel
theorem dX8_heads_182 : decode cX8_heads 182 = .ok (.getfield 7, 3) := by decide +kernel
theorem dX8_heads_185 : decode cX8_heads 185 = .ok (.iconst 4, 1) := by decide +kernel
theorem dX8_heads_186 : decode cX8_heads 186 = .ok (.iload_n 1, 1) := by decide +kernel
theorem dX8_heads_187 : decode cX8_heads 187 = .ok (.iadd, 1) := by decide +kernel
theorem dX8_heads_188 : decode cX8_heads 188 = .ok (.iload 4, 2) := by decide +kernel
theorem dX8_heads_190 : decode cX8_heads 190 = .ok (.iastore, 1) := by decide +kernel
theorem dX8_heads_191 : decode cX8_heads 191 = .ok (.aload_n 0, 1) := by decide +kernel
theorem dX8_heads_192 : decode cX8_heads 192 = .ok (.iconst 5, 1) := by decide +kernel
theorem dX8_heads_193 : decode cX8_heads 193 = .ok (.invokevirtual 97, 3) := by decide +kernel
theorem dX8_heads_196 : decode cX8_heads 196 = .ok (.iconst 2, 1) := by decide +kernel
theorem dX8_heads_197 : decode cX8_heads 197 = .ok (.irem, 1) := by decide +kernel
theorem dX8_heads_198 : decode cX8_heads 198 = .ok (.iconst 1, 1) := by decide +kernel
theorem dX8_heads_199 : decode cX8_heads 199 = .ok (.if_icmp .ne 9, 3) := by decide +kernel
theorem dX8_heads_202 : decode cX8_heads 202 = .ok (.aload_n 0, 1) := by decide +kernel
theorem dX8_heads_203 : decode cX8_heads 203 = .ok (.iload 4, 2) := by decide +kernel
theorem dX8_heads_205 : decode cX8_heads 205 = .ok (.invokevirtual 94, 3) := by decide +kernel
theorem dX8_heads_208 : decode cX8_heads 208 = .ok (.iconst 1, 1) := by decide +kernel
theorem dX8_heads_209 : decode cX8_heads 209 = .ok (.ireturn, 1) := by decide +kernel
set_option maxRecDepth 20000 in
theorem ggX8_rows_X8_at : GoodIn wsX8_rows wsX8_at := goodIn_r _ [6] (by decide +kernel) (by decide +kernel)
set_option maxRecDepth 20000 in
theorem gX8_rows_X8_at : GoodIn wsX8_rows (va_wsS RX8 52 yX8_at wsX8_at) := goodIn_app (goodIn_of _ (by decide +kernel)) ggX8_rows_X8_at
set_option maxRecDepth 20000 in
theorem ggX8_rows_X8_ones : GoodIn wsX8_rows wsX8_ones := goodIn_r _ [9] (by decide +kernel) (by decide +kernel)
set_option maxRecDepth 20000 in
theorem gX8_rows_X8_ones : GoodIn wsX8_rows (va_wsS RX8 62 yX8_ones wsX8_ones) := goodIn_app (goodIn_of _ (by decide +kernel)) ggX8_rows_X8_ones
theorem dX8_rows_0 : decode cX8_rows 0 = .ok (.iconst 0, 1) := by decide +kernel
theorem dX8_rows_1 : decode cX8_rows 1 = .ok (.istore_n 3, 1) := by decide +kernel
theorem dX8_rows_2 : decode cX8_rows 2 = .ok (.iload_n 3, 1) := by decide +kernel
theorem dX8_rows_3 : decode cX8_rows 3 = .ok (.bipush 8, 2) := by decide +kernel
theorem dX8_rows_5 : decode cX8_rows 5 = .ok (.if_icmp .ge 100, 3) := by decide +kernel
theorem dX8_rows_8 : decode cX8_rows 8 = .ok (.iload_n 1, 1) := by decide +kernel
theorem dX8_rows_9 : decode cX8_rows 9 = .ok (.invokestatic 52, 3) := by decide +kernel
theorem dX8_rows_12 : decode cX8_rows 12 = .ok (.bipush 10, 2) := by decide +kernel
theorem dX8_rows_14 : decode cX8_rows 14 = .ok (.iadd, 1) := by decide +kernel
theorem dX8_rows_15 : decode cX8_rows 15 = .ok (.bipush 8, 2) := by decide +kernel
theorem dX8_rows_17 : decode cX8_rows 17 = .ok (.iload_n 2, 1) := by decide +kernel
theorem dX8_rows_18 : decode cX8_rows 18 = .ok (.imul, 1) := by decide +kernel
theorem dX8_rows_19 : decode cX8_rows 19 = .ok (.iadd, 1) := by decide +kernel
theorem dX8_rows_20 : decode cX8_rows 20 = .ok (.iload_n 3, 1) := by decide +kernel
theorem dX8_rows_21 : decode cX8_rows 21 = .ok (.iadd, 1) := by decide +kernel
theorem dX8_rows_22 : decode cX8_rows 22 = .ok (.istore 4, 2) := by decide +kernel
theorem dX8_rows_24 : decode cX8_rows 24 = .ok (.aload_n 0, 1) := by decide +kernel
theorem dX8_rows_25 : decode cX8_rows 25 = .ok (.getfield 13, 3) := by decide +kernel
theorem dX8_rows_28 : decode cX8_rows 28 = .ok (.iconst 2, 1) := by decide +kernel
theorem dX8_rows_29 : decode cX8_rows 29 = .ok (.iload_n 3, 1) := by decide +kernel
theorem dX8_rows_30 : decode cX8_rows 30 = .ok (.iadd, 1) := by decide +kernel
theorem dX8_rows_31 : decode cX8_rows 31 = .ok (.iaload, 1) := by decide +kernel
theorem dX8_rows_32 : decode cX8_rows 32 = .ok (.istore 5, 2) := by decide +kernel
theorem dX8_rows_34 : decode cX8_rows 34 = .ok (.iload 5, 2) := by decide +kernel
theorem dX8_rows_36 : decode cX8_rows 36 = .ok (.invokestatic 62, 3) := by decide +kernel
theorem dX8_rows_39 : decode cX8_rows 39 = .ok (.iconst 2, 1) := by decide +kernel
theorem dX8_rows_40 : decode cX8_rows 40 = .ok (.irem, 1) := by decide +kernel
theorem dX8_rows_41 : decode cX8_rows 41 = .ok (.iconst 1, 1) := by decide +kernel
theorem dX8_rows_42 : decode cX8_rows 42 = .ok (.if_icmp .ne 18, 3) := by decide +kernel
theorem dX8_rows_45 : decode cX8_rows 45 = .ok (.aload_n 0, 1) := by decide +kernel
theorem dX8_rows_46 : decode cX8_rows 46 = .ok (.getfield 7, 3) := by decide +kernel
theorem dX8_rows_49 : decode cX8_rows 49 = .ok (.iload 4, 2) := by decide +kernel
theorem dX8_rows_51 : decode cX8_rows 51 = .ok (.iload 5, 2) := by decide +kernel
theorem dX8_rows_53 : decode cX8_rows 53 = .ok (.bipush 127, 2) := by decide +kernel
theorem dX8_rows_55 : decode cX8_rows 55 = .ok (.iand, 1) := by decide +kernel
theorem dX8_rows_56 : decode cX8_rows 56 = .ok (.iastore, 1) := by decide +kernel
theorem dX8_rows_57 : decode cX8_rows 57 = .ok (.goto 42, 3) := by decide +kernel
theorem dX8_rows_60 : decode cX8_rows 60 = .ok (.aload_n 0, 1) := by decide +kernel
theorem dX8_rows_61 : decode cX8_rows 61 = .ok (.getfield 7, 3) := by decide +kernel
theorem dX8_rows_64 : decode cX8_rows 64 = .ok (.iload 4, 2) := by decide +kernel
theorem dX8_rows_66 : decode cX8_rows 66 = .ok (.iaload, 1) := by decide +kernel
theorem dX8_rows_67 : decode cX8_rows 67 = .ok (.iconst (-1), 1) := by decide +kernel
theorem dX8_rows_68 : decode cX8_rows 68 = .ok (.if_icmp .eq 15, 3) := by decide +kernel
theorem dX8_rows_71 : decode cX8_rows 71 = .ok (.aload_n 0, 1) := by decide +kernel
theorem dX8_rows_72 : decode cX8_rows 72 = .ok (.getfield 7, 3) := by decide +kernel
theorem dX8_rows_75 : decode cX8_rows 75 = .ok (.iload 4, 2) := by decide +kernel
theorem dX8_rows_77 : decode cX8_rows 77 = .ok (.iaload, 1) := by decide +kernel
theorem dX8_rows_78 : decode cX8_rows 78 = .ok (.bipush 127, 2) := by decide +kernel
theorem dX8_rows_80 : decode cX8_rows 80 = .ok (.if_icmp .le 19, 3) := by decide +kernel
theorem dX8_rows_83 : decode cX8_rows 83 = .ok (.aload_n 0, 1) := by decide +kernel
theorem dX8_rows_84 : decode cX8_rows 84 = .ok (.getfield 7, 3) := by decide +kernel
theorem dX8_rows_87 : decode cX8_rows 87 = .ok (.iload 4, 2) := by decide +kernel
theorem dX8_rows_89 : decode cX8_rows 89 = .ok (.sipush 128, 3) := by decide +kernel
theorem dX8_rows_92 : decode cX8_rows 92 = .ok (.iload 5, 2) := by decide +kernel
theorem dX8_rows_94 : decode cX8_rows 94 = .ok (.bipush 127, 2) := by decide +kernel
theorem dX8_rows_96 : decode cX8_rows 96 = .ok (.iand, 1) := by decide +kernel
theorem dX8_rows_97 : decode cX8_rows 97 = .ok (.iadd, 1) := by decide +kernel
theorem dX8_rows_98 : decode cX8_rows 98 = .ok (.iastore, 1) := by decide +kernel
theorem dX8_rows_99 : decode cX8_rows 99 = .ok (.iinc 3 1, 3) := by decide +kernel
theorem dX8_rows_102 : decode cX8_rows 102 = .ok (.goto (-100), 3) := by decide +kernel
theorem dX8_rows_105 : decode cX8_rows 105 = .ok (.return_, 1) := by decide +kernel
set_option maxRecDepth 20000 in
theorem ggX8_links_X8_mends : GoodIn wsX8_links wsX8_mends := goodIn_r _ [7, 2, 8, 9, 10, 11, 6, 12, 13, 14, 15, 16, 17, 18, 19, 20, 21, 22, 23, 24, 35, 36, 37, 38, 39, 40, 41, 42, 43, 44, 45, 46, 47, 48, 49, 50, 51] (by decide +kernel) (by decide +kernel)
set_option maxRecDepth 20000 in
theorem gX8_links_X8_mends : GoodIn wsX8_links (wsV RX8 111 RX8 yX8_mends wsX8_mends) := goodIn_app (goodIn_of _ (by decide +kernel)) ggX8_links_X8_mends
set_option maxRecDepth 20000 in
theorem ggX8_links_X8_number : GoodIn wsX8_links wsX8_number := goodIn_r _ [28, 8, 13, 14, 6, 15, 16, 17, 18, 19, 20, 21, 22, 23, 24, 35, 36, 37, 38, 39, 40, 41, 42, 43, 44, 45, 46, 47, 48, 49, 50, 51] (by decide +kernel) (by decide +kernel)
set_option maxRecDepth 20000 in
theorem gX8_links_X8_number : GoodIn wsX8_links (wsV RX8 97 RX8 yX8_number wsX8_number) := goodIn_app (goodIn_of _ (by decide +kernel)) ggX8_links_X8_number
set_option maxRecDepth 20000 in
theorem ggX8_links_X8_in : GoodIn wsX8_links wsX8_in := goodIn_r _ [31] (by decide +kernel) (by decide +kernel)
set_option maxRecDepth 20000 in
theorem gX8_links_X8_in : GoodIn wsX8_links (va_wsS RX8 70 yX8_in wsX8_in) := goodIn_app (goodIn_of _ (by decide +kernel)) ggX8_links_X8_in
set_option maxRecDepth 20000 in
theorem ggX8_links_X8_at : GoodIn wsX8_links wsX8_at := goodIn_r _ [34] (by decide +kernel) (by decide +kernel)
set_option maxRecDepth 20000 in
theorem gX8_links_X8_at : GoodIn wsX8_links (va_wsS RX8 52 yX8_at wsX8_at) := goodIn_app (goodIn_of _ (by decide +kernel)) ggX8_links_X8_at
theorem dX8_links_0 : decode cX8_links 0 = .ok (.aload_n 0, 1) := by decide +kernel
theorem dX8_links_1 : decode cX8_links 1 = .ok (.iconst 2, 1) := by decide +kernel
theorem dX8_links_2 : decode cX8_links 2 = .ok (.bipush 9, 2) := by decide +kernel
theorem dX8_links_4 : decode cX8_links 4 = .ok (.invokevirtual 111, 3) := by decide +kernel
theorem dX8_links_7 : decode cX8_links 7 = .ok (.iconst 0, 1) := by decide +kernel
theorem dX8_links_8 : decode cX8_links 8 = .ok (.istore_n 2, 1) := by decide +kernel
theorem dX8_links_9 : decode cX8_links 9 = .ok (.iload_n 2, 1) := by decide +kernel
theorem dX8_links_10 : decode cX8_links 10 = .ok (.iconst 4, 1) := by decide +kernel
theorem dX8_links_11 : decode cX8_links 11 = .ok (.if_icmp .ge 76, 3) := by decide +kernel
theorem dX8_links_14 : decode cX8_links 14 = .ok (.aload_n 0, 1) := by decide +kernel
theorem dX8_links_15 : decode cX8_links 15 = .ok (.iconst 2, 1) := by decide +kernel
theorem dX8_links_16 : decode cX8_links 16 = .ok (.iconst 2, 1) := by decide +kernel
theorem dX8_links_17 : decode cX8_links 17 = .ok (.iload_n 2, 1) := by decide +kernel
theorem dX8_links_18 : decode cX8_links 18 = .ok (.imul, 1) := by decide +kernel
theorem dX8_links_19 : decode cX8_links 19 = .ok (.iadd, 1) := by decide +kernel
theorem dX8_links_20 : decode cX8_links 20 = .ok (.invokevirtual 97, 3) := by decide +kernel
theorem dX8_links_23 : decode cX8_links 23 = .ok (.istore_n 3, 1) := by decide +kernel
theorem dX8_links_24 : decode cX8_links 24 = .ok (.aload_n 0, 1) := by decide +kernel
theorem dX8_links_25 : decode cX8_links 25 = .ok (.iconst 3, 1) := by decide +kernel
theorem dX8_links_26 : decode cX8_links 26 = .ok (.iconst 2, 1) := by decide +kernel
theorem dX8_links_27 : decode cX8_links 27 = .ok (.iload_n 2, 1) := by decide +kernel
theorem dX8_links_28 : decode cX8_links 28 = .ok (.imul, 1) := by decide +kernel
theorem dX8_links_29 : decode cX8_links 29 = .ok (.iadd, 1) := by decide +kernel
theorem dX8_links_30 : decode cX8_links 30 = .ok (.invokevirtual 97, 3) := by decide +kernel
theorem dX8_links_33 : decode cX8_links 33 = .ok (.istore 4, 2) := by decide +kernel
theorem dX8_links_35 : decode cX8_links 35 = .ok (.iload_n 3, 1) := by decide +kernel
theorem dX8_links_36 : decode cX8_links 36 = .ok (.i2l, 1) := by decide +kernel
theorem dX8_links_37 : decode cX8_links 37 = .ok (.lconst 0, 1) := by decide +kernel
theorem dX8_links_38 : decode cX8_links 38 = .ok (.ldc2_w 100, 3) := by decide +kernel
theorem dX8_links_41 : decode cX8_links 41 = .ok (.invokestatic 70, 3) := by decide +kernel
theorem dX8_links_44 : decode cX8_links 44 = .ok (.ifCond .eq 37, 3) := by decide +kernel
theorem dX8_links_47 : decode cX8_links 47 = .ok (.iload 4, 2) := by decide +kernel
theorem dX8_links_49 : decode cX8_links 49 = .ok (.i2l, 1) := by decide +kernel
theorem dX8_links_50 : decode cX8_links 50 = .ok (.lconst 0, 1) := by decide +kernel
theorem dX8_links_51 : decode cX8_links 51 = .ok (.ldc2_w 100, 3) := by decide +kernel
theorem dX8_links_54 : decode cX8_links 54 = .ok (.invokestatic 70, 3) := by decide +kernel
theorem dX8_links_57 : decode cX8_links 57 = .ok (.ifCond .eq 24, 3) := by decide +kernel
theorem dX8_links_60 : decode cX8_links 60 = .ok (.aload_n 0, 1) := by decide +kernel
theorem dX8_links_61 : decode cX8_links 61 = .ok (.getfield 7, 3) := by decide +kernel
theorem dX8_links_64 : decode cX8_links 64 = .ok (.iload_n 1, 1) := by decide +kernel
theorem dX8_links_65 : decode cX8_links 65 = .ok (.invokestatic 52, 3) := by decide +kernel
theorem dX8_links_68 : decode cX8_links 68 = .ok (.bipush 6, 2) := by decide +kernel
theorem dX8_links_70 : decode cX8_links 70 = .ok (.iadd, 1) := by decide +kernel
theorem dX8_links_71 : decode cX8_links 71 = .ok (.iload_n 2, 1) := by decide +kernel
theorem dX8_links_72 : decode cX8_links 72 = .ok (.iadd, 1) := by decide +kernel
theorem dX8_links_73 : decode cX8_links 73 = .ok (.bipush 10, 2) := by decide +kernel
theorem dX8_links_75 : decode cX8_links 75 = .ok (.iload 4, 2) := by decide +kernel
theorem dX8_links_77 : decode cX8_links 77 = .ok (.imul, 1) := by decide +kernel
theorem dX8_links_78 : decode cX8_links 78 = .ok (.iload_n 3, 1) := by decide +kernel
theorem dX8_links_79 : decode cX8_links 79 = .ok (.iadd, 1) := by decide +kernel
theorem dX8_links_80 : decode cX8_links 80 = .ok (.iastore, 1) := by decide +kernel
theorem dX8_links_81 : decode cX8_links 81 = .ok (.iinc 2 1, 3) := by decide +kernel
theorem dX8_links_84 : decode cX8_links 84 = .ok (.goto (-75), 3) := by decide +kernel
theorem dX8_links_87 : decode cX8_links 87 = .ok (.return_, 1) := by decide +kernel
set_option maxRecDepth 20000 in
theorem ggX8_takes_X8_mends : GoodIn wsX8_takes wsX8_mends := goodIn_r _ [8, 3, 9, 10, 11, 12, 7, 13, 14, 15, 16, 17, 18, 19, 20, 21, 22, 23, 24, 25, 73, 74, 75, 76, 77, 78, 79, 80, 81, 82, 83, 84, 85, 86, 87, 88, 89] (by decide +kernel) (by decide +kernel)
set_option maxRecDepth 20000 in
theorem gX8_takes_X8_mends : GoodIn wsX8_takes (wsV RX8 111 RX8 yX8_mends wsX8_mends) := goodIn_app (goodIn_of _ (by decide +kernel)) ggX8_takes_X8_mends
set_option maxRecDepth 20000 in
theorem ggX8_takes_X8_number : GoodIn wsX8_takes wsX8_number := goodIn_r _ [29, 9, 14, 15, 7, 16, 17, 18, 19, 20, 21, 22, 23, 24, 25, 73, 74, 75, 76, 77, 78, 79, 80, 81, 82, 83, 84, 85, 86, 87, 88, 89] (by decide +kernel) (by decide +kernel)
set_option maxRecDepth 20000 in
theorem gX8_takes_X8_number : GoodIn wsX8_takes (wsV RX8 97 RX8 yX8_number wsX8_number) := goodIn_app (goodIn_of _ (by decide +kernel)) ggX8_takes_X8_number
set_option maxRecDepth 20000 in
theorem ggX8_takes_X8_in : GoodIn wsX8_takes wsX8_in := goodIn_r _ [32] (by decide +kernel) (by decide +kernel)
set_option maxRecDepth 20000 in
theorem gX8_takes_X8_in : GoodIn wsX8_takes (va_wsS RX8 70 yX8_in wsX8_in) := goodIn_app (goodIn_of _ (by decide +kernel)) ggX8_takes_X8_in
set_option maxRecDepth 20000 in
theorem ggX8_takes_X8_heads : GoodIn wsX8_takes wsX8_heads := goodIn_r _ [36, 37, 2, 3, 26, 27, 28, 7, 29, 9, 14, 15, 16, 17, 18, 19, 20, 21, 22, 23, 24, 25, 30, 31, 32, 38, 39, 40, 41, 42, 43, 44, 45, 46, 47, 48, 49, 50, 51, 52, 53, 54, 55, 56, 57, 58, 59, 60, 61, 62, 63, 64, 73, 74, 75, 76, 77, 78, 79, 80, 81, 82, 83, 84, 85, 86, 87, 88, 89] (by decide +kernel) (by decide +kernel)
set_option maxRecDepth 20000 in
theorem gX8_takes_X8_heads : GoodIn wsX8_takes (wsV RX8 117 RX8 yX8_heads wsX8_heads) := goodIn_app (goodIn_of _ (by decide +kernel)) ggX8_takes_X8_heads
set_option maxRecDepth 20000 in
theorem ggX8_takes_X8_links : GoodIn wsX8_takes wsX8_links := goodIn_r _ [68, 37, 3, 4, 5, 6, 7, 8, 9, 10, 11, 12, 13, 14, 15, 16, 17, 18, 19, 20, 21, 22, 23, 24, 25, 26, 27, 28, 29, 30, 31, 32, 46, 47, 48, 73, 74, 75, 76, 77, 78, 79, 80, 81, 82, 83, 84, 85, 86, 87, 88, 89] (by decide +kernel) (by decide +kernel)
set_option maxRecDepth 20000 in
theorem gX8_takes_X8_links : GoodIn wsX8_takes (wsV RX8 120 RX8 yX8_links wsX8_links) := goodIn_app (goodIn_of _ (by decide +kernel)) ggX8_takes_X8_links
set_option maxRecDepth 20000 in
theorem ggX8_takes_X8_rows : GoodIn wsX8_takes wsX8_rows := goodIn_r _ [72, 9, 3, 46, 47, 7, 48, 23, 24, 25, 73, 74, 75, 76, 77, 78, 79, 80, 81, 82, 83, 84, 85, 86, 87, 88, 89] (by decide +kernel) (by decide +kernel)
set_option maxRecDepth 20000 in
theorem gX8_takes_X8_rows : GoodIn wsX8_takes (wsV RX8 123 RX8 yX8_rows wsX8_rows) := goodIn_app (goodIn_of _ (by decide +kernel)) ggX8_takes_X8_rows
theorem dX8_takes_0 : decode cX8_takes 0 = .ok (.aload_n 0, 1) := by decide +kernel
theorem dX8_takes_1 : decode cX8_takes 1 = .ok (.iconst 0, 1) := by decide +kernel
theorem dX8_takes_2 : decode cX8_takes 2 = .ok (.iconst 1, 1) := by decide +kernel
theorem dX8_takes_3 : decode cX8_takes 3 = .ok (.invokevirtual 111, 3) := by decide +kernel
theorem dX8_takes_6 : decode cX8_takes 6 = .ok (.aload_n 0, 1) := by decide +kernel
theorem dX8_takes_7 : decode cX8_takes 7 = .ok (.iconst 0, 1) := by decide +kernel
theorem dX8_takes_8 : decode cX8_takes 8 = .ok (.invokevirtual 97, 3) := by decide +kernel
theorem dX8_takes_11 : decode cX8_takes 11 = .ok (.istore_n 1, 1) := by decide +kernel
theorem dX8_takes_12 : decode cX8_takes 12 = .ok (.aload_n 0, 1) := by decide +kernel
theorem dX8_takes_13 : decode cX8_takes 13 = .ok (.iconst 1, 1) := by decide +kernel
theorem dX8_takes_14 : decode cX8_takes 14 = .ok (.invokevirtual 97, 3) := by decide +kernel
theorem dX8_takes_17 : decode cX8_takes 17 = .ok (.istore_n 2, 1) := by decide +kernel
theorem dX8_takes_18 : decode cX8_takes 18 = .ok (.iload_n 1, 1) := by decide +kernel
theorem dX8_takes_19 : decode cX8_takes 19 = .ok (.i2l, 1) := by decide +kernel
theorem dX8_takes_20 : decode cX8_takes 20 = .ok (.lconst 0, 1) := by decide +kernel
theorem dX8_takes_21 : decode cX8_takes 21 = .ok (.ldc2_w 115, 3) := by decide +kernel
theorem dX8_takes_24 : decode cX8_takes 24 = .ok (.invokestatic 70, 3) := by decide +kernel
theorem dX8_takes_27 : decode cX8_takes 27 = .ok (.ifCond .eq 15, 3) := by decide +kernel
theorem dX8_takes_30 : decode cX8_takes 30 = .ok (.iload_n 2, 1) := by decide +kernel
theorem dX8_takes_31 : decode cX8_takes 31 = .ok (.i2l, 1) := by decide +kernel
theorem dX8_takes_32 : decode cX8_takes 32 = .ok (.lconst 0, 1) := by decide +kernel
theorem dX8_takes_33 : decode cX8_takes 33 = .ok (.ldc2_w 102, 3) := by decide +kernel
theorem dX8_takes_36 : decode cX8_takes 36 = .ok (.invokestatic 70, 3) := by decide +kernel
theorem dX8_takes_39 : decode cX8_takes 39 = .ok (.ifCond .ne 5, 3) := by decide +kernel
theorem dX8_takes_42 : decode cX8_takes 42 = .ok (.iconst 0, 1) := by decide +kernel
theorem dX8_takes_43 : decode cX8_takes 43 = .ok (.ireturn, 1) := by decide +kernel
theorem dX8_takes_44 : decode cX8_takes 44 = .ok (.iload_n 2, 1) := by decide +kernel
theorem dX8_takes_45 : decode cX8_takes 45 = .ok (.ifCond .ne 15, 3) := by decide +kernel
theorem dX8_takes_48 : decode cX8_takes 48 = .ok (.aload_n 0, 1) := by decide +kernel
theorem dX8_takes_49 : decode cX8_takes 49 = .ok (.iconst 2, 1) := by decide +kernel
theorem dX8_takes_50 : decode cX8_takes 50 = .ok (.iconst 5, 1) := by decide +kernel
theorem dX8_takes_51 : decode cX8_takes 51 = .ok (.invokevirtual 111, 3) := by decide +kernel
theorem dX8_takes_54 : decode cX8_takes 54 = .ok (.aload_n 0, 1) := by decide +kernel
theorem dX8_takes_55 : decode cX8_takes 55 = .ok (.iload_n 1, 1) := by decide +kernel
theorem dX8_takes_56 : decode cX8_takes 56 = .ok (.invokevirtual 117, 3) := by decide +kernel
theorem dX8_takes_59 : decode cX8_takes 59 = .ok (.ireturn, 1) := by decide +kernel
theorem dX8_takes_60 : decode cX8_takes 60 = .ok (.iload_n 2, 1) := by decide +kernel
theorem dX8_takes_61 : decode cX8_takes 61 = .ok (.bipush 7, 2) := by decide +kernel
theorem dX8_takes_63 : decode cX8_takes 63 = .ok (.if_icmp .ne 5, 3) := by decide +kernel
theorem dX8_takes_66 : decode cX8_takes 66 = .ok (.iconst 1, 1) := by decide +kernel
theorem dX8_takes_67 : decode cX8_takes 67 = .ok (.ireturn, 1) := by decide +kernel
theorem dX8_takes_68 : decode cX8_takes 68 = .ok (.aload_n 0, 1) := by decide +kernel
theorem dX8_takes_69 : decode cX8_takes 69 = .ok (.getfield 7, 3) := by decide +kernel
theorem dX8_takes_72 : decode cX8_takes 72 = .ok (.iconst 4, 1) := by decide +kernel
theorem dX8_takes_73 : decode cX8_takes 73 = .ok (.iload_n 1, 1) := by decide +kernel
theorem dX8_takes_74 : decode cX8_takes 74 = .ok (.iadd, 1) := by decide +kernel
theorem dX8_takes_75 : decode cX8_takes 75 = .ok (.iaload, 1) := by decide +kernel
theorem dX8_takes_76 : decode cX8_takes 76 = .ok (.istore_n 3, 1) := by decide +kernel
theorem dX8_takes_77 : decode cX8_takes 77 = .ok (.iload_n 3, 1) := by decide +kernel
theorem dX8_takes_78 : decode cX8_takes 78 = .ok (.iconst (-1), 1) := by decide +kernel
theorem dX8_takes_79 : decode cX8_takes 79 = .ok (.if_icmp .ne 5, 3) := by decide +kernel
theorem dX8_takes_82 : decode cX8_takes 82 = .ok (.iconst 0, 1) := by decide +kernel
theorem dX8_takes_83 : decode cX8_takes 83 = .ok (.ireturn, 1) := by decide +kernel
theorem dX8_takes_84 : decode cX8_takes 84 = .ok (.iload_n 2, 1) := by decide +kernel
theorem dX8_takes_85 : decode cX8_takes 85 = .ok (.bipush 6, 2) := by decide +kernel
theorem dX8_takes_87 : decode cX8_takes 87 = .ok (.if_icmp .ne 11, 3) := by decide +kernel
theorem dX8_takes_90 : decode cX8_takes 90 = .ok (.aload_n 0, 1) := by decide +kernel
theorem dX8_takes_91 : decode cX8_takes 91 = .ok (.iload_n 3, 1) := by decide +kernel
theorem dX8_takes_92 : decode cX8_takes 92 = .ok (.invokevirtual 120, 3) := by decide +kernel
theorem dX8_takes_95 : decode cX8_takes 95 = .ok (.goto 11, 3) := by decide +kernel
theorem dX8_takes_98 : decode cX8_takes 98 = .ok (.aload_n 0, 1) := by decide +kernel
theorem dX8_takes_99 : decode cX8_takes 99 = .ok (.iload_n 3, 1) := by decide +kernel
theorem dX8_takes_100 : decode cX8_takes 100 = .ok (.iload_n 2, 1) := by decide +kernel
theorem dX8_takes_101 : decode cX8_takes 101 = .ok (.iconst 1, 1) := by decide +kernel
theorem dX8_takes_102 : decode cX8_takes 102 = .ok (.isub, 1) := by decide +kernel
theorem dX8_takes_103 : decode cX8_takes 103 = .ok (.invokevirtual 123, 3) := by decide +kernel
theorem dX8_takes_106 : decode cX8_takes 106 = .ok (.iconst 1, 1) := by decide +kernel
theorem dX8_takes_107 : decode cX8_takes 107 = .ok (.ireturn, 1) := by decide +kernel
set_option maxRecDepth 20000 in
theorem ggX8_comes_X8_notes : GoodIn wsX8_comes wsX8_notes := goodIn_r _ [6, 7, 8, 1, 83, 84, 85, 86, 87, 88, 89, 90, 91, 92, 93, 94, 95, 96, 97, 98, 99] (by decide +kernel) (by decide +kernel)
set_option maxRecDepth 20000 in
theorem gX8_comes_X8_notes : GoodIn wsX8_comes (wsV RX8 126 RX8 yX8_notes wsX8_notes) := goodIn_app (goodIn_of _ (by decide +kernel)) ggX8_comes_X8_notes
set_option maxRecDepth 20000 in
theorem ggX8_comes_X8_takes : GoodIn wsX8_comes wsX8_takes := goodIn_r _ [12, 13, 14, 1, 15, 16, 17, 5, 18, 19, 20, 21, 22, 23, 24, 25, 26, 27, 28, 29, 30, 31, 32, 33, 34, 35, 36, 37, 38, 39, 40, 41, 42, 43, 44, 45, 46, 47, 48, 49, 50, 51, 52, 53, 54, 55, 56, 57, 58, 59, 60, 61, 62, 63, 64, 65, 66, 67, 68, 69, 70, 71, 72, 73, 74, 75, 76, 77, 78, 79, 80, 81, 82, 83, 84, 85, 86, 87, 88, 89, 90, 91, 92, 93, 94, 95, 96, 97, 98, 99] (by decide +kernel) (by decide +kernel)
set_option maxRecDepth 20000 in
theorem gX8_comes_X8_takes : GoodIn wsX8_comes (wsV RX8 129 RX8 yX8_takes wsX8_takes) := goodIn_app (goodIn_of _ (by decide +kernel)) ggX8_comes_X8_takes
theorem dX8_comes_0 : decode cX8_comes 0 = .ok (.aload_n 0, 1) := by decide +kernel
theorem dX8_comes_1 : decode cX8_comes 1 = .ok (.invokevirtual 126, 3) := by decide +kernel
theorem dX8_comes_4 : decode cX8_comes 4 = .ok (.aload_n 0, 1) := by decide +kernel
theorem dX8_comes_5 : decode cX8_comes 5 = .ok (.getfield 7, 3) := by decide +kernel
theorem dX8_comes_8 : decode cX8_comes 8 = .ok (.iconst 1, 1) := by decide +kernel
theorem dX8_comes_9 : decode cX8_comes 9 = .ok (.dup2, 1) := by decide +kernel
theorem dX8_comes_10 : decode cX8_comes 10 = .ok (.iaload, 1) := by decide +kernel
theorem dX8_comes_11 : decode cX8_comes 11 = .ok (.iconst 1, 1) := by decide +kernel
theorem dX8_comes_12 : decode cX8_comes 12 = .ok (.iadd, 1) := by decide +kernel
theorem dX8_comes_13 : decode cX8_comes 13 = .ok (.iastore, 1) := by decide +kernel
theorem dX8_comes_14 : decode cX8_comes 14 = .ok (.aload_n 0, 1) := by decide +kernel
theorem dX8_comes_15 : decode cX8_comes 15 = .ok (.invokevirtual 129, 3) := by decide +kernel
theorem dX8_comes_18 : decode cX8_comes 18 = .ok (.ifCond .eq 5, 3) := by decide +kernel
theorem dX8_comes_21 : decode cX8_comes 21 = .ok (.iconst 1, 1) := by decide +kernel
theorem dX8_comes_22 : decode cX8_comes 22 = .ok (.ireturn, 1) := by decide +kernel
theorem dX8_comes_23 : decode cX8_comes 23 = .ok (.aload_n 0, 1) := by decide +kernel
theorem dX8_comes_24 : decode cX8_comes 24 = .ok (.getfield 7, 3) := by decide +kernel
theorem dX8_comes_27 : decode cX8_comes 27 = .ok (.iconst 2, 1) := by decide +kernel
theorem dX8_comes_28 : decode cX8_comes 28 = .ok (.dup2, 1) := by decide +kernel
theorem dX8_comes_29 : decode cX8_comes 29 = .ok (.iaload, 1) := by decide +kernel
theorem dX8_comes_30 : decode cX8_comes 30 = .ok (.iconst 1, 1) := by decide +kernel
theorem dX8_comes_31 : decode cX8_comes 31 = .ok (.iadd, 1) := by decide +kernel
theorem dX8_comes_32 : decode cX8_comes 32 = .ok (.iastore, 1) := by decide +kernel
theorem dX8_comes_33 : decode cX8_comes 33 = .ok (.iconst 0, 1) := by decide +kernel
theorem dX8_comes_34 : decode cX8_comes 34 = .ok (.ireturn, 1) := by decide +kernel
theorem dX8_notes_0 : decode cX8_notes 0 = .ok (.aload_n 0, 1) := by decide +kernel
theorem dX8_notes_1 : decode cX8_notes 1 = .ok (.getfield 133, 3) := by decide +kernel
theorem dX8_notes_4 : decode cX8_notes 4 = .ok (.bipush 16, 2) := by decide +kernel
theorem dX8_notes_6 : decode cX8_notes 6 = .ok (.if_icmp .ne 40, 3) := by decide +kernel
theorem dX8_notes_9 : decode cX8_notes 9 = .ok (.iconst 0, 1) := by decide +kernel
theorem dX8_notes_10 : decode cX8_notes 10 = .ok (.istore_n 1, 1) := by decide +kernel
theorem dX8_notes_11 : decode cX8_notes 11 = .ok (.iload_n 1, 1) := by decide +kernel
theorem dX8_notes_12 : decode cX8_notes 12 = .ok (.sipush 7620, 3) := by decide +kernel
theorem dX8_notes_15 : decode cX8_notes 15 = .ok (.if_icmp .ge 25, 3) := by decide +kernel
theorem dX8_notes_18 : decode cX8_notes 18 = .ok (.aload_n 0, 1) := by decide +kernel
theorem dX8_notes_19 : decode cX8_notes 19 = .ok (.getfield 19, 3) := by decide +kernel
theorem dX8_notes_22 : decode cX8_notes 22 = .ok (.iload_n 1, 1) := by decide +kernel
theorem dX8_notes_23 : decode cX8_notes 23 = .ok (.aload_n 0, 1) := by decide +kernel
theorem dX8_notes_24 : decode cX8_notes 24 = .ok (.getfield 19, 3) := by decide +kernel
theorem dX8_notes_27 : decode cX8_notes 27 = .ok (.iload_n 1, 1) := by decide +kernel
theorem dX8_notes_28 : decode cX8_notes 28 = .ok (.sipush 508, 3) := by decide +kernel
theorem dX8_notes_31 : decode cX8_notes 31 = .ok (.iadd, 1) := by decide +kernel
theorem dX8_notes_32 : decode cX8_notes 32 = .ok (.iaload, 1) := by decide +kernel
theorem dX8_notes_33 : decode cX8_notes 33 = .ok (.iastore, 1) := by decide +kernel
theorem dX8_notes_34 : decode cX8_notes 34 = .ok (.iinc 1 1, 3) := by decide +kernel
theorem dX8_notes_37 : decode cX8_notes 37 = .ok (.goto (-26), 3) := by decide +kernel
theorem dX8_notes_40 : decode cX8_notes 40 = .ok (.aload_n 0, 1) := by decide +kernel
theorem dX8_notes_41 : decode cX8_notes 41 = .ok (.bipush 15, 2) := by decide +kernel
theorem dX8_notes_43 : decode cX8_notes 43 = .ok (.putfield 133, 3) := by decide +kernel
theorem dX8_notes_46 : decode cX8_notes 46 = .ok (.iconst 0, 1) := by decide +kernel
theorem dX8_notes_47 : decode cX8_notes 47 = .ok (.istore_n 1, 1) := by decide +kernel
theorem dX8_notes_48 : decode cX8_notes 48 = .ok (.iload_n 1, 1) := by decide +kernel
theorem dX8_notes_49 : decode cX8_notes 49 = .ok (.sipush 508, 3) := by decide +kernel
theorem dX8_notes_52 : decode cX8_notes 52 = .ok (.if_icmp .ge 30, 3) := by decide +kernel
theorem dX8_notes_55 : decode cX8_notes 55 = .ok (.aload_n 0, 1) := by decide +kernel
theorem dX8_notes_56 : decode cX8_notes 56 = .ok (.getfield 19, 3) := by decide +kernel
theorem dX8_notes_59 : decode cX8_notes 59 = .ok (.sipush 508, 3) := by decide +kernel
theorem dX8_notes_62 : decode cX8_notes 62 = .ok (.aload_n 0, 1) := by decide +kernel
theorem dX8_notes_63 : decode cX8_notes 63 = .ok (.getfield 133, 3) := by decide +kernel
theorem dX8_notes_66 : decode cX8_notes 66 = .ok (.imul, 1) := by decide +kernel
theorem dX8_notes_67 : decode cX8_notes 67 = .ok (.iload_n 1, 1) := by decide +kernel
theorem dX8_notes_68 : decode cX8_notes 68 = .ok (.iadd, 1) := by decide +kernel
theorem dX8_notes_69 : decode cX8_notes 69 = .ok (.aload_n 0, 1) := by decide +kernel
theorem dX8_notes_70 : decode cX8_notes 70 = .ok (.getfield 7, 3) := by decide +kernel
theorem dX8_notes_73 : decode cX8_notes 73 = .ok (.iload_n 1, 1) := by decide +kernel
theorem dX8_notes_74 : decode cX8_notes 74 = .ok (.iaload, 1) := by decide +kernel
theorem dX8_notes_75 : decode cX8_notes 75 = .ok (.iastore, 1) := by decide +kernel
theorem dX8_notes_76 : decode cX8_notes 76 = .ok (.iinc 1 1, 3) := by decide +kernel
theorem dX8_notes_79 : decode cX8_notes 79 = .ok (.goto (-31), 3) := by decide +kernel
theorem dX8_notes_82 : decode cX8_notes 82 = .ok (.aload_n 0, 1) := by decide +kernel
theorem dX8_notes_83 : decode cX8_notes 83 = .ok (.dup, 1) := by decide +kernel
theorem dX8_notes_84 : decode cX8_notes 84 = .ok (.getfield 133, 3) := by decide +kernel
theorem dX8_notes_87 : decode cX8_notes 87 = .ok (.iconst 1, 1) := by decide +kernel
theorem dX8_notes_88 : decode cX8_notes 88 = .ok (.iadd, 1) := by decide +kernel
theorem dX8_notes_89 : decode cX8_notes 89 = .ok (.putfield 133, 3) := by decide +kernel
theorem dX8_notes_92 : decode cX8_notes 92 = .ok (.return_, 1) := by decide +kernel
set_option maxRecDepth 20000 in
theorem ggX8_octet_X8_in : GoodIn wsX8_octet wsX8_in := goodIn_r _ [10] (by decide +kernel) (by decide +kernel)
set_option maxRecDepth 20000 in
theorem gX8_octet_X8_in : GoodIn wsX8_octet (va_wsS RX8 70 yX8_in wsX8_in) := goodIn_app (goodIn_of _ (by decide +kernel)) ggX8_octet_X8_in
set_option maxRecDepth 20000 in
theorem ggX8_octet_X8_comes : GoodIn wsX8_octet wsX8_comes := goodIn_r _ [14, 15, 16, 17, 18, 9, 19, 20, 21, 22, 23, 24, 25, 26, 27, 28, 29, 30, 31, 6, 32, 33, 34, 35, 36, 37, 38, 39, 40, 41, 42, 43, 44, 45, 46, 47, 48, 49, 50, 51, 7, 8, 10, 52, 53, 54, 55, 56, 57, 58, 59, 60, 61, 62, 63, 64, 65, 66, 67, 68, 69, 70, 71, 72, 73, 74, 75, 76, 77, 78, 79, 80, 81, 82, 83, 84, 85, 86, 87, 88, 89, 90, 91, 92, 93, 94, 95, 96, 97, 98, 99, 100, 101, 102, 103, 104, 105, 106, 107, 108] (by decide +kernel) (by decide +kernel)
set_option maxRecDepth 20000 in
theorem gX8_octet_X8_comes : GoodIn wsX8_octet (wsV RX8 139 RX8 yX8_comes wsX8_comes) := goodIn_app (goodIn_of _ (by decide +kernel)) ggX8_octet_X8_comes
theorem dX8_octet_0 : decode cX8_octet 0 = .ok (.aload_n 0, 1) := by decide +kernel
theorem dX8_octet_1 : decode cX8_octet 1 = .ok (.iconst 0, 1) := by decide +kernel
theorem dX8_octet_2 : decode cX8_octet 2 = .ok (.putfield 48, 3) := by decide +kernel
theorem dX8_octet_5 : decode cX8_octet 5 = .ok (.iload_n 1, 1) := by decide +kernel
theorem dX8_octet_6 : decode cX8_octet 6 = .ok (.i2l, 1) := by decide +kernel
theorem dX8_octet_7 : decode cX8_octet 7 = .ok (.lconst 0, 1) := by decide +kernel
theorem dX8_octet_8 : decode cX8_octet 8 = .ok (.ldc2_w 75, 3) := by decide +kernel
theorem dX8_octet_11 : decode cX8_octet 11 = .ok (.invokestatic 70, 3) := by decide +kernel
theorem dX8_octet_14 : decode cX8_octet 14 = .ok (.ifCond .ne 6, 3) := by decide +kernel
theorem dX8_octet_17 : decode cX8_octet 17 = .ok (.ldc 74, 2) := by decide +kernel
theorem dX8_octet_19 : decode cX8_octet 19 = .ok (.ireturn, 1) := by decide +kernel
theorem dX8_octet_20 : decode cX8_octet 20 = .ok (.aload_n 0, 1) := by decide +kernel
theorem dX8_octet_21 : decode cX8_octet 21 = .ok (.getfield 16, 3) := by decide +kernel
theorem dX8_octet_24 : decode cX8_octet 24 = .ok (.aload_n 0, 1) := by decide +kernel
theorem dX8_octet_25 : decode cX8_octet 25 = .ok (.getfield 136, 3) := by decide +kernel
theorem dX8_octet_28 : decode cX8_octet 28 = .ok (.iload_n 1, 1) := by decide +kernel
theorem dX8_octet_29 : decode cX8_octet 29 = .ok (.iastore, 1) := by decide +kernel
theorem dX8_octet_30 : decode cX8_octet 30 = .ok (.aload_n 0, 1) := by decide +kernel
theorem dX8_octet_31 : decode cX8_octet 31 = .ok (.dup, 1) := by decide +kernel
theorem dX8_octet_32 : decode cX8_octet 32 = .ok (.getfield 136, 3) := by decide +kernel
theorem dX8_octet_35 : decode cX8_octet 35 = .ok (.iconst 1, 1) := by decide +kernel
theorem dX8_octet_36 : decode cX8_octet 36 = .ok (.iadd, 1) := by decide +kernel
theorem dX8_octet_37 : decode cX8_octet 37 = .ok (.putfield 136, 3) := by decide +kernel
theorem dX8_octet_40 : decode cX8_octet 40 = .ok (.aload_n 0, 1) := by decide +kernel
theorem dX8_octet_41 : decode cX8_octet 41 = .ok (.getfield 136, 3) := by decide +kernel
theorem dX8_octet_44 : decode cX8_octet 44 = .ok (.bipush 10, 2) := by decide +kernel
theorem dX8_octet_46 : decode cX8_octet 46 = .ok (.if_icmp .ne 39, 3) := by decide +kernel
theorem dX8_octet_49 : decode cX8_octet 49 = .ok (.aload_n 0, 1) := by decide +kernel
theorem dX8_octet_50 : decode cX8_octet 50 = .ok (.iconst 0, 1) := by decide +kernel
theorem dX8_octet_51 : decode cX8_octet 51 = .ok (.putfield 136, 3) := by decide +kernel
theorem dX8_octet_54 : decode cX8_octet 54 = .ok (.iconst 0, 1) := by decide +kernel
theorem dX8_octet_55 : decode cX8_octet 55 = .ok (.istore_n 2, 1) := by decide +kernel
theorem dX8_octet_56 : decode cX8_octet 56 = .ok (.iload_n 2, 1) := by decide +kernel
theorem dX8_octet_57 : decode cX8_octet 57 = .ok (.bipush 10, 2) := by decide +kernel
theorem dX8_octet_59 : decode cX8_octet 59 = .ok (.if_icmp .ge 21, 3) := by decide +kernel
theorem dX8_octet_62 : decode cX8_octet 62 = .ok (.aload_n 0, 1) := by decide +kernel
theorem dX8_octet_63 : decode cX8_octet 63 = .ok (.getfield 13, 3) := by decide +kernel
theorem dX8_octet_66 : decode cX8_octet 66 = .ok (.iload_n 2, 1) := by decide +kernel
theorem dX8_octet_67 : decode cX8_octet 67 = .ok (.aload_n 0, 1) := by decide +kernel
theorem dX8_octet_68 : decode cX8_octet 68 = .ok (.getfield 16, 3) := by decide +kernel
theorem dX8_octet_71 : decode cX8_octet 71 = .ok (.iload_n 2, 1) := by decide +kernel
theorem dX8_octet_72 : decode cX8_octet 72 = .ok (.iaload, 1) := by decide +kernel
theorem dX8_octet_73 : decode cX8_octet 73 = .ok (.iastore, 1) := by decide +kernel
theorem dX8_octet_74 : decode cX8_octet 74 = .ok (.iinc 2 1, 3) := by decide +kernel
theorem dX8_octet_77 : decode cX8_octet 77 = .ok (.goto (-21), 3) := by decide +kernel
theorem dX8_octet_80 : decode cX8_octet 80 = .ok (.aload_n 0, 1) := by decide +kernel
theorem dX8_octet_81 : decode cX8_octet 81 = .ok (.invokevirtual 139, 3) := by decide +kernel
theorem dX8_octet_84 : decode cX8_octet 84 = .ok (.pop, 1) := by decide +kernel
theorem dX8_octet_85 : decode cX8_octet 85 = .ok (.aload_n 0, 1) := by decide +kernel
theorem dX8_octet_86 : decode cX8_octet 86 = .ok (.getfield 136, 3) := by decide +kernel
theorem dX8_octet_89 : decode cX8_octet 89 = .ok (.ireturn, 1) := by decide +kernel
