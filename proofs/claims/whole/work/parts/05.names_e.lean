set_option maxRecDepth 20000 in
theorem ggX8_laid_X8_codeOf : GoodIn wsX8_laid wsX8_codeOf := goodIn_r _ [4, 5, 6, 3, 7] (by decide +kernel) (by decide +kernel)
set_option maxRecDepth 20000 in
theorem gX8_laid_X8_codeOf : GoodIn wsX8_laid (va_wsS RX8 59 yX8_codeOf wsX8_codeOf) := goodIn_app (goodIn_of _ (by decide +kernel)) ggX8_laid_X8_codeOf
set_option maxRecDepth 20000 in
theorem ggX8_laid_X8_lettered : GoodIn wsX8_laid wsX8_lettered := goodIn_r _ [10, 11, 12, 3, 13] (by decide +kernel) (by decide +kernel)
set_option maxRecDepth 20000 in
theorem gX8_laid_X8_lettered : GoodIn wsX8_laid (va_wsS RX8 142 yX8_lettered wsX8_lettered) := goodIn_app (goodIn_of _ (by decide +kernel)) ggX8_laid_X8_lettered
theorem dX8_laid_0 : decode cX8_laid 0 = .ok (.iload_n 0, 1) := by decide +kernel
theorem dX8_laid_1 : decode cX8_laid 1 = .ok (.ifCond .eq 9, 3) := by decide +kernel
theorem dX8_laid_4 : decode cX8_laid 4 = .ok (.iload_n 0, 1) := by decide +kernel
theorem dX8_laid_5 : decode cX8_laid 5 = .ok (.bipush 6, 2) := by decide +kernel
theorem dX8_laid_7 : decode cX8_laid 7 = .ok (.if_icmp .ne 10, 3) := by decide +kernel
theorem dX8_laid_10 : decode cX8_laid 10 = .ok (.iload_n 1, 1) := by decide +kernel
theorem dX8_laid_11 : decode cX8_laid 11 = .ok (.invokestatic 59, 3) := by decide +kernel
theorem dX8_laid_14 : decode cX8_laid 14 = .ok (.goto 10, 3) := by decide +kernel
theorem dX8_laid_17 : decode cX8_laid 17 = .ok (.bipush 64, 2) := by decide +kernel
theorem dX8_laid_19 : decode cX8_laid 19 = .ok (.iload_n 1, 1) := by decide +kernel
theorem dX8_laid_20 : decode cX8_laid 20 = .ok (.iadd, 1) := by decide +kernel
theorem dX8_laid_21 : decode cX8_laid 21 = .ok (.invokestatic 142, 3) := by decide +kernel
theorem dX8_laid_24 : decode cX8_laid 24 = .ok (.ireturn, 1) := by decide +kernel
set_option maxRecDepth 20000 in
theorem ggX8_packet_X8_in : GoodIn wsX8_packet wsX8_in := goodIn_r _ [10] (by decide +kernel) (by decide +kernel)
set_option maxRecDepth 20000 in
theorem gX8_packet_X8_in : GoodIn wsX8_packet (va_wsS RX8 70 yX8_in wsX8_in) := goodIn_app (goodIn_of _ (by decide +kernel)) ggX8_packet_X8_in
set_option maxRecDepth 20000 in
theorem ggX8_packet_X8_codeOf : GoodIn wsX8_packet wsX8_codeOf := goodIn_r _ [13, 14, 15, 9, 16] (by decide +kernel) (by decide +kernel)
set_option maxRecDepth 20000 in
theorem gX8_packet_X8_codeOf : GoodIn wsX8_packet (va_wsS RX8 59 yX8_codeOf wsX8_codeOf) := goodIn_app (goodIn_of _ (by decide +kernel)) ggX8_packet_X8_codeOf
set_option maxRecDepth 20000 in
theorem ggX8_packet_X8_laid : GoodIn wsX8_packet wsX8_laid := goodIn_r _ [19, 11, 12, 9, 13, 14, 15, 16, 20, 21, 22, 23, 24, 25] (by decide +kernel) (by decide +kernel)
set_option maxRecDepth 20000 in
theorem gX8_packet_X8_laid : GoodIn wsX8_packet (va_wsS RX8 147 yX8_laid wsX8_laid) := goodIn_app (goodIn_of _ (by decide +kernel)) ggX8_packet_X8_laid
set_option maxRecDepth 20000 in
theorem ggX8_packet_X8_comes : GoodIn wsX8_packet wsX8_comes := goodIn_r _ [29, 30, 31, 32, 33, 9, 34, 35, 36, 37, 38, 39, 40, 2, 3, 41, 42, 43, 44, 5, 45, 46, 47, 48, 49, 50, 51, 11, 12, 13, 14, 15, 16, 23, 24, 25, 52, 53, 54, 55, 7, 8, 10, 56, 57, 58, 59, 60, 61, 62, 63, 64, 65, 66, 67, 68, 69, 70, 71, 72, 73, 74, 75, 76, 77, 78, 79, 80, 81, 82, 83, 84, 85, 86, 87, 88, 89, 90, 91, 92, 93, 94, 95, 96, 97, 98, 99, 100, 101, 102, 103, 104, 105, 106, 107, 108, 109, 110, 111, 112] (by decide +kernel) (by decide +kernel)
set_option maxRecDepth 20000 in
theorem gX8_packet_X8_comes : GoodIn wsX8_packet (wsV RX8 139 RX8 yX8_comes wsX8_comes) := goodIn_app (goodIn_of _ (by decide +kernel)) ggX8_packet_X8_comes
theorem dX8_packet_0 : decode cX8_packet 0 = .ok (.aload_n 0, 1) := by decide +kernel
theorem dX8_packet_1 : decode cX8_packet 1 = .ok (.iconst 0, 1) := by decide +kernel
theorem dX8_packet_2 : decode cX8_packet 2 = .ok (.putfield 48, 3) := by decide +kernel
theorem dX8_packet_5 : decode cX8_packet 5 = .ok (.iload_n 1, 1) := by decide +kernel
theorem dX8_packet_6 : decode cX8_packet 6 = .ok (.i2l, 1) := by decide +kernel
theorem dX8_packet_7 : decode cX8_packet 7 = .ok (.lconst 0, 1) := by decide +kernel
theorem dX8_packet_8 : decode cX8_packet 8 = .ok (.ldc2_w 115, 3) := by decide +kernel
theorem dX8_packet_11 : decode cX8_packet 11 = .ok (.invokestatic 70, 3) := by decide +kernel
theorem dX8_packet_14 : decode cX8_packet 14 = .ok (.ifCond .eq 21, 3) := by decide +kernel
theorem dX8_packet_17 : decode cX8_packet 17 = .ok (.iload_n 2, 1) := by decide +kernel
theorem dX8_packet_18 : decode cX8_packet 18 = .ok (.i2l, 1) := by decide +kernel
theorem dX8_packet_19 : decode cX8_packet 19 = .ok (.lconst 0, 1) := by decide +kernel
theorem dX8_packet_20 : decode cX8_packet 20 = .ok (.ldc2_w 102, 3) := by decide +kernel
theorem dX8_packet_23 : decode cX8_packet 23 = .ok (.invokestatic 70, 3) := by decide +kernel
theorem dX8_packet_26 : decode cX8_packet 26 = .ok (.ifCond .eq 9, 3) := by decide +kernel
theorem dX8_packet_29 : decode cX8_packet 29 = .ok (.lload_n 3, 1) := by decide +kernel
theorem dX8_packet_30 : decode cX8_packet 30 = .ok (.lconst 0, 1) := by decide +kernel
theorem dX8_packet_31 : decode cX8_packet 31 = .ok (.lcmp, 1) := by decide +kernel
theorem dX8_packet_32 : decode cX8_packet 32 = .ok (.ifCond .ge 6, 3) := by decide +kernel
theorem dX8_packet_35 : decode cX8_packet 35 = .ok (.ldc 74, 2) := by decide +kernel
theorem dX8_packet_37 : decode cX8_packet 37 = .ok (.ireturn, 1) := by decide +kernel
theorem dX8_packet_38 : decode cX8_packet 38 = .ok (.aload_n 0, 1) := by decide +kernel
theorem dX8_packet_39 : decode cX8_packet 39 = .ok (.getfield 13, 3) := by decide +kernel
theorem dX8_packet_42 : decode cX8_packet 42 = .ok (.iconst 0, 1) := by decide +kernel
theorem dX8_packet_43 : decode cX8_packet 43 = .ok (.iload_n 1, 1) := by decide +kernel
theorem dX8_packet_44 : decode cX8_packet 44 = .ok (.invokestatic 59, 3) := by decide +kernel
theorem dX8_packet_47 : decode cX8_packet 47 = .ok (.iastore, 1) := by decide +kernel
theorem dX8_packet_48 : decode cX8_packet 48 = .ok (.aload_n 0, 1) := by decide +kernel
theorem dX8_packet_49 : decode cX8_packet 49 = .ok (.getfield 13, 3) := by decide +kernel
theorem dX8_packet_52 : decode cX8_packet 52 = .ok (.iconst 1, 1) := by decide +kernel
theorem dX8_packet_53 : decode cX8_packet 53 = .ok (.iload_n 2, 1) := by decide +kernel
theorem dX8_packet_54 : decode cX8_packet 54 = .ok (.invokestatic 59, 3) := by decide +kernel
theorem dX8_packet_57 : decode cX8_packet 57 = .ok (.iastore, 1) := by decide +kernel
theorem dX8_packet_58 : decode cX8_packet 58 = .ok (.lload_n 3, 1) := by decide +kernel
theorem dX8_packet_59 : decode cX8_packet 59 = .ok (.lstore 5, 2) := by decide +kernel
theorem dX8_packet_61 : decode cX8_packet 61 = .ok (.bipush 9, 2) := by decide +kernel
theorem dX8_packet_63 : decode cX8_packet 63 = .ok (.istore 7, 2) := by decide +kernel
theorem dX8_packet_65 : decode cX8_packet 65 = .ok (.iload 7, 2) := by decide +kernel
theorem dX8_packet_67 : decode cX8_packet 67 = .ok (.iconst 2, 1) := by decide +kernel
theorem dX8_packet_68 : decode cX8_packet 68 = .ok (.if_icmp .lt 35, 3) := by decide +kernel
theorem dX8_packet_71 : decode cX8_packet 71 = .ok (.aload_n 0, 1) := by decide +kernel
theorem dX8_packet_72 : decode cX8_packet 72 = .ok (.getfield 13, 3) := by decide +kernel
theorem dX8_packet_75 : decode cX8_packet 75 = .ok (.iload 7, 2) := by decide +kernel
theorem dX8_packet_77 : decode cX8_packet 77 = .ok (.iload_n 2, 1) := by decide +kernel
theorem dX8_packet_78 : decode cX8_packet 78 = .ok (.lload 5, 2) := by decide +kernel
theorem dX8_packet_80 : decode cX8_packet 80 = .ok (.ldc2_w 145, 3) := by decide +kernel
theorem dX8_packet_83 : decode cX8_packet 83 = .ok (.lrem, 1) := by decide +kernel
theorem dX8_packet_84 : decode cX8_packet 84 = .ok (.l2i, 1) := by decide +kernel
theorem dX8_packet_85 : decode cX8_packet 85 = .ok (.invokestatic 147, 3) := by decide +kernel
theorem dX8_packet_88 : decode cX8_packet 88 = .ok (.iastore, 1) := by decide +kernel
theorem dX8_packet_89 : decode cX8_packet 89 = .ok (.lload 5, 2) := by decide +kernel
theorem dX8_packet_91 : decode cX8_packet 91 = .ok (.ldc2_w 145, 3) := by decide +kernel
theorem dX8_packet_94 : decode cX8_packet 94 = .ok (.ldiv, 1) := by decide +kernel
theorem dX8_packet_95 : decode cX8_packet 95 = .ok (.lstore 5, 2) := by decide +kernel
theorem dX8_packet_97 : decode cX8_packet 97 = .ok (.iinc 7 (-1), 3) := by decide +kernel
theorem dX8_packet_100 : decode cX8_packet 100 = .ok (.goto (-35), 3) := by decide +kernel
theorem dX8_packet_103 : decode cX8_packet 103 = .ok (.aload_n 0, 1) := by decide +kernel
theorem dX8_packet_104 : decode cX8_packet 104 = .ok (.invokevirtual 139, 3) := by decide +kernel
theorem dX8_packet_107 : decode cX8_packet 107 = .ok (.ireturn, 1) := by decide +kernel
set_option maxRecDepth 20000 in
theorem ggX8_told_X8_in : GoodIn wsX8_told wsX8_in := goodIn_r _ [11] (by decide +kernel) (by decide +kernel)
set_option maxRecDepth 20000 in
theorem gX8_told_X8_in : GoodIn wsX8_told (va_wsS RX8 70 yX8_in wsX8_in) := goodIn_app (goodIn_of _ (by decide +kernel)) ggX8_told_X8_in
set_option maxRecDepth 20000 in
theorem ggX8_told_X8_wrong : GoodIn wsX8_told wsX8_wrong := goodIn_r _ [15, 6, 16, 17, 18, 19, 10, 20, 4, 8, 9, 11, 21, 22, 23, 24, 25, 26, 27, 28, 29, 30, 31, 32, 33, 34, 35, 36, 37, 38, 39, 40, 41, 42, 43, 44] (by decide +kernel) (by decide +kernel)
set_option maxRecDepth 20000 in
theorem gX8_told_X8_wrong : GoodIn wsX8_told (wsV RX8 153 RX8 yX8_wrong wsX8_wrong) := goodIn_app (goodIn_of _ (by decide +kernel)) ggX8_told_X8_wrong
theorem dX8_told_0 : decode cX8_told 0 = .ok (.aload_n 0, 1) := by decide +kernel
theorem dX8_told_1 : decode cX8_told 1 = .ok (.iconst 0, 1) := by decide +kernel
theorem dX8_told_2 : decode cX8_told 2 = .ok (.putfield 48, 3) := by decide +kernel
theorem dX8_told_5 : decode cX8_told 5 = .ok (.iload_n 1, 1) := by decide +kernel
theorem dX8_told_6 : decode cX8_told 6 = .ok (.i2l, 1) := by decide +kernel
theorem dX8_told_7 : decode cX8_told 7 = .ok (.lconst 0, 1) := by decide +kernel
theorem dX8_told_8 : decode cX8_told 8 = .ok (.ldc2_w 102, 3) := by decide +kernel
theorem dX8_told_11 : decode cX8_told 11 = .ok (.invokestatic 70, 3) := by decide +kernel
theorem dX8_told_14 : decode cX8_told 14 = .ok (.ifCond .ne 6, 3) := by decide +kernel
theorem dX8_told_17 : decode cX8_told 17 = .ok (.ldc 74, 2) := by decide +kernel
theorem dX8_told_19 : decode cX8_told 19 = .ok (.ireturn, 1) := by decide +kernel
theorem dX8_told_20 : decode cX8_told 20 = .ok (.iload_n 1, 1) := by decide +kernel
theorem dX8_told_21 : decode cX8_told 21 = .ok (.iconst 4, 1) := by decide +kernel
theorem dX8_told_22 : decode cX8_told 22 = .ok (.if_icmp .ge 10, 3) := by decide +kernel
theorem dX8_told_25 : decode cX8_told 25 = .ok (.aload_n 0, 1) := by decide +kernel
theorem dX8_told_26 : decode cX8_told 26 = .ok (.getfield 7, 3) := by decide +kernel
theorem dX8_told_29 : decode cX8_told 29 = .ok (.iload_n 1, 1) := by decide +kernel
theorem dX8_told_30 : decode cX8_told 30 = .ok (.iaload, 1) := by decide +kernel
theorem dX8_told_31 : decode cX8_told 31 = .ok (.ireturn, 1) := by decide +kernel
theorem dX8_told_32 : decode cX8_told 32 = .ok (.iload_n 1, 1) := by decide +kernel
theorem dX8_told_33 : decode cX8_told 33 = .ok (.iconst 4, 1) := by decide +kernel
theorem dX8_told_34 : decode cX8_told 34 = .ok (.if_icmp .ne 10, 3) := by decide +kernel
theorem dX8_told_37 : decode cX8_told 37 = .ok (.aload_n 0, 1) := by decide +kernel
theorem dX8_told_38 : decode cX8_told 38 = .ok (.getfield 136, 3) := by decide +kernel
theorem dX8_told_41 : decode cX8_told 41 = .ok (.goto 32, 3) := by decide +kernel
theorem dX8_told_44 : decode cX8_told 44 = .ok (.iload_n 1, 1) := by decide +kernel
theorem dX8_told_45 : decode cX8_told 45 = .ok (.iconst 5, 1) := by decide +kernel
theorem dX8_told_46 : decode cX8_told 46 = .ok (.if_icmp .ne 10, 3) := by decide +kernel
theorem dX8_told_49 : decode cX8_told 49 = .ok (.aload_n 0, 1) := by decide +kernel
theorem dX8_told_50 : decode cX8_told 50 = .ok (.getfield 150, 3) := by decide +kernel
theorem dX8_told_53 : decode cX8_told 53 = .ok (.goto 20, 3) := by decide +kernel
theorem dX8_told_56 : decode cX8_told 56 = .ok (.iload_n 1, 1) := by decide +kernel
theorem dX8_told_57 : decode cX8_told 57 = .ok (.bipush 6, 2) := by decide +kernel
theorem dX8_told_59 : decode cX8_told 59 = .ok (.if_icmp .ne 10, 3) := by decide +kernel
theorem dX8_told_62 : decode cX8_told 62 = .ok (.aload_n 0, 1) := by decide +kernel
theorem dX8_told_63 : decode cX8_told 63 = .ok (.invokevirtual 153, 3) := by decide +kernel
theorem dX8_told_66 : decode cX8_told 66 = .ok (.goto 7, 3) := by decide +kernel
theorem dX8_told_69 : decode cX8_told 69 = .ok (.aload_n 0, 1) := by decide +kernel
theorem dX8_told_70 : decode cX8_told 70 = .ok (.getfield 133, 3) := by decide +kernel
theorem dX8_told_73 : decode cX8_told 73 = .ok (.ireturn, 1) := by decide +kernel
set_option maxRecDepth 20000 in
theorem ggX8_open_X8_in : GoodIn wsX8_open wsX8_in := goodIn_r _ [8] (by decide +kernel) (by decide +kernel)
set_option maxRecDepth 20000 in
theorem gX8_open_X8_in : GoodIn wsX8_open (va_wsS RX8 70 yX8_in wsX8_in) := goodIn_app (goodIn_of _ (by decide +kernel)) ggX8_open_X8_in
theorem dX8_open_0 : decode cX8_open 0 = .ok (.aload_n 0, 1) := by decide +kernel
theorem dX8_open_1 : decode cX8_open 1 = .ok (.iconst 0, 1) := by decide +kernel
theorem dX8_open_2 : decode cX8_open 2 = .ok (.putfield 48, 3) := by decide +kernel
theorem dX8_open_5 : decode cX8_open 5 = .ok (.iload_n 1, 1) := by decide +kernel
theorem dX8_open_6 : decode cX8_open 6 = .ok (.i2l, 1) := by decide +kernel
theorem dX8_open_7 : decode cX8_open 7 = .ok (.lconst 0, 1) := by decide +kernel
theorem dX8_open_8 : decode cX8_open 8 = .ok (.ldc2_w 115, 3) := by decide +kernel
theorem dX8_open_11 : decode cX8_open 11 = .ok (.invokestatic 70, 3) := by decide +kernel
theorem dX8_open_14 : decode cX8_open 14 = .ok (.ifCond .eq 14, 3) := by decide +kernel
theorem dX8_open_17 : decode cX8_open 17 = .ok (.aload_n 0, 1) := by decide +kernel
theorem dX8_open_18 : decode cX8_open 18 = .ok (.getfield 7, 3) := by decide +kernel
theorem dX8_open_21 : decode cX8_open 21 = .ok (.iconst 4, 1) := by decide +kernel
theorem dX8_open_22 : decode cX8_open 22 = .ok (.iload_n 1, 1) := by decide +kernel
theorem dX8_open_23 : decode cX8_open 23 = .ok (.iadd, 1) := by decide +kernel
theorem dX8_open_24 : decode cX8_open 24 = .ok (.iaload, 1) := by decide +kernel
theorem dX8_open_25 : decode cX8_open 25 = .ok (.goto 5, 3) := by decide +kernel
theorem dX8_open_28 : decode cX8_open 28 = .ok (.ldc 156, 2) := by decide +kernel
theorem dX8_open_30 : decode cX8_open 30 = .ok (.ireturn, 1) := by decide +kernel
set_option maxRecDepth 20000 in
theorem ggX8_isPage_X8_in : GoodIn wsX8_isPage wsX8_in := goodIn_r _ [5] (by decide +kernel) (by decide +kernel)
set_option maxRecDepth 20000 in
theorem gX8_isPage_X8_in : GoodIn wsX8_isPage (va_wsS RX8 70 yX8_in wsX8_in) := goodIn_app (goodIn_of _ (by decide +kernel)) ggX8_isPage_X8_in
theorem dX8_isPage_0 : decode cX8_isPage 0 = .ok (.iload_n 1, 1) := by decide +kernel
theorem dX8_isPage_1 : decode cX8_isPage 1 = .ok (.i2l, 1) := by decide +kernel
theorem dX8_isPage_2 : decode cX8_isPage 2 = .ok (.lconst 0, 1) := by decide +kernel
theorem dX8_isPage_3 : decode cX8_isPage 3 = .ok (.aload_n 0, 1) := by decide +kernel
theorem dX8_isPage_4 : decode cX8_isPage 4 = .ok (.getfield 7, 3) := by decide +kernel
theorem dX8_isPage_7 : decode cX8_isPage 7 = .ok (.iconst 0, 1) := by decide +kernel
theorem dX8_isPage_8 : decode cX8_isPage 8 = .ok (.iaload, 1) := by decide +kernel
theorem dX8_isPage_9 : decode cX8_isPage 9 = .ok (.iconst 1, 1) := by decide +kernel
theorem dX8_isPage_10 : decode cX8_isPage 10 = .ok (.isub, 1) := by decide +kernel
theorem dX8_isPage_11 : decode cX8_isPage 11 = .ok (.i2l, 1) := by decide +kernel
theorem dX8_isPage_12 : decode cX8_isPage 12 = .ok (.invokestatic 70, 3) := by decide +kernel
theorem dX8_isPage_15 : decode cX8_isPage 15 = .ok (.ireturn, 1) := by decide +kernel
set_option maxRecDepth 20000 in
theorem ggX8_lacks_X8_of : GoodIn wsX8_lacks wsX8_of := goodIn_r _ [5, 6, 7, 8, 4, 9, 10, 11, 12, 13, 14, 15, 16, 17, 18, 19, 20, 21, 22, 23, 24, 25, 26] (by decide +kernel) (by decide +kernel)
set_option maxRecDepth 20000 in
theorem gX8_lacks_X8_of : GoodIn wsX8_lacks (wsV RX8 82 RX8 yX8_of wsX8_of) := goodIn_app (goodIn_of _ (by decide +kernel)) ggX8_lacks_X8_of
theorem dX8_lacks_0 : decode cX8_lacks 0 = .ok (.bipush 31, 2) := by decide +kernel
theorem dX8_lacks_2 : decode cX8_lacks 2 = .ok (.istore_n 2, 1) := by decide +kernel
theorem dX8_lacks_3 : decode cX8_lacks 3 = .ok (.iconst 0, 1) := by decide +kernel
theorem dX8_lacks_4 : decode cX8_lacks 4 = .ok (.istore_n 3, 1) := by decide +kernel
theorem dX8_lacks_5 : decode cX8_lacks 5 = .ok (.iload_n 3, 1) := by decide +kernel
theorem dX8_lacks_6 : decode cX8_lacks 6 = .ok (.bipush 40, 2) := by decide +kernel
theorem dX8_lacks_8 : decode cX8_lacks 8 = .ok (.if_icmp .ge 38, 3) := by decide +kernel
theorem dX8_lacks_11 : decode cX8_lacks 11 = .ok (.iload_n 2, 1) := by decide +kernel
theorem dX8_lacks_12 : decode cX8_lacks 12 = .ok (.aload_n 0, 1) := by decide +kernel
theorem dX8_lacks_13 : decode cX8_lacks 13 = .ok (.iload_n 1, 1) := by decide +kernel
theorem dX8_lacks_14 : decode cX8_lacks 14 = .ok (.bipush 10, 2) := by decide +kernel
theorem dX8_lacks_16 : decode cX8_lacks 16 = .ok (.iload_n 3, 1) := by decide +kernel
theorem dX8_lacks_17 : decode cX8_lacks 17 = .ok (.iadd, 1) := by decide +kernel
theorem dX8_lacks_18 : decode cX8_lacks 18 = .ok (.invokevirtual 82, 3) := by decide +kernel
theorem dX8_lacks_21 : decode cX8_lacks 21 = .ok (.iconst (-1), 1) := by decide +kernel
theorem dX8_lacks_22 : decode cX8_lacks 22 = .ok (.if_icmp .ne 8, 3) := by decide +kernel
theorem dX8_lacks_25 : decode cX8_lacks 25 = .ok (.bipush 31, 2) := by decide +kernel
theorem dX8_lacks_27 : decode cX8_lacks 27 = .ok (.goto 11, 3) := by decide +kernel
theorem dX8_lacks_30 : decode cX8_lacks 30 = .ok (.iconst 1, 1) := by decide +kernel
theorem dX8_lacks_31 : decode cX8_lacks 31 = .ok (.iload_n 3, 1) := by decide +kernel
theorem dX8_lacks_32 : decode cX8_lacks 32 = .ok (.bipush 8, 2) := by decide +kernel
theorem dX8_lacks_34 : decode cX8_lacks 34 = .ok (.idiv, 1) := by decide +kernel
theorem dX8_lacks_35 : decode cX8_lacks 35 = .ok (.ishl, 1) := by decide +kernel
theorem dX8_lacks_36 : decode cX8_lacks 36 = .ok (.iconst (-1), 1) := by decide +kernel
theorem dX8_lacks_37 : decode cX8_lacks 37 = .ok (.ixor, 1) := by decide +kernel
theorem dX8_lacks_38 : decode cX8_lacks 38 = .ok (.iand, 1) := by decide +kernel
theorem dX8_lacks_39 : decode cX8_lacks 39 = .ok (.istore_n 2, 1) := by decide +kernel
theorem dX8_lacks_40 : decode cX8_lacks 40 = .ok (.iinc 3 1, 3) := by decide +kernel
theorem dX8_lacks_43 : decode cX8_lacks 43 = .ok (.goto (-38), 3) := by decide +kernel
theorem dX8_lacks_46 : decode cX8_lacks 46 = .ok (.iload_n 2, 1) := by decide +kernel
theorem dX8_lacks_47 : decode cX8_lacks 47 = .ok (.ireturn, 1) := by decide +kernel
set_option maxRecDepth 20000 in
theorem ggX8_hasLinks_X8_of : GoodIn wsX8_hasLinks wsX8_of := goodIn_r _ [5, 6, 7, 8, 4, 9, 10, 11, 12, 13, 14, 15, 16, 17, 18, 19, 20, 21, 22, 23, 24, 25, 26] (by decide +kernel) (by decide +kernel)
set_option maxRecDepth 20000 in
theorem gX8_hasLinks_X8_of : GoodIn wsX8_hasLinks (wsV RX8 82 RX8 yX8_of wsX8_of) := goodIn_app (goodIn_of _ (by decide +kernel)) ggX8_hasLinks_X8_of
theorem dX8_hasLinks_0 : decode cX8_hasLinks 0 = .ok (.iconst 0, 1) := by decide +kernel
theorem dX8_hasLinks_1 : decode cX8_hasLinks 1 = .ok (.istore_n 2, 1) := by decide +kernel
theorem dX8_hasLinks_2 : decode cX8_hasLinks 2 = .ok (.iconst 0, 1) := by decide +kernel
theorem dX8_hasLinks_3 : decode cX8_hasLinks 3 = .ok (.istore_n 3, 1) := by decide +kernel
theorem dX8_hasLinks_4 : decode cX8_hasLinks 4 = .ok (.iload_n 3, 1) := by decide +kernel
theorem dX8_hasLinks_5 : decode cX8_hasLinks 5 = .ok (.iconst 4, 1) := by decide +kernel
theorem dX8_hasLinks_6 : decode cX8_hasLinks 6 = .ok (.if_icmp .ge 32, 3) := by decide +kernel
theorem dX8_hasLinks_9 : decode cX8_hasLinks 9 = .ok (.iload_n 2, 1) := by decide +kernel
theorem dX8_hasLinks_10 : decode cX8_hasLinks 10 = .ok (.ifCond .ne 16, 3) := by decide +kernel
theorem dX8_hasLinks_13 : decode cX8_hasLinks 13 = .ok (.aload_n 0, 1) := by decide +kernel
theorem dX8_hasLinks_14 : decode cX8_hasLinks 14 = .ok (.iload_n 1, 1) := by decide +kernel
theorem dX8_hasLinks_15 : decode cX8_hasLinks 15 = .ok (.bipush 6, 2) := by decide +kernel
theorem dX8_hasLinks_17 : decode cX8_hasLinks 17 = .ok (.iload_n 3, 1) := by decide +kernel
theorem dX8_hasLinks_18 : decode cX8_hasLinks 18 = .ok (.iadd, 1) := by decide +kernel
theorem dX8_hasLinks_19 : decode cX8_hasLinks 19 = .ok (.invokevirtual 82, 3) := by decide +kernel
theorem dX8_hasLinks_22 : decode cX8_hasLinks 22 = .ok (.iconst (-1), 1) := by decide +kernel
theorem dX8_hasLinks_23 : decode cX8_hasLinks 23 = .ok (.if_icmp .eq 7, 3) := by decide +kernel
theorem dX8_hasLinks_26 : decode cX8_hasLinks 26 = .ok (.iconst 1, 1) := by decide +kernel
theorem dX8_hasLinks_27 : decode cX8_hasLinks 27 = .ok (.goto 4, 3) := by decide +kernel
theorem dX8_hasLinks_30 : decode cX8_hasLinks 30 = .ok (.iconst 0, 1) := by decide +kernel
theorem dX8_hasLinks_31 : decode cX8_hasLinks 31 = .ok (.istore_n 2, 1) := by decide +kernel
theorem dX8_hasLinks_32 : decode cX8_hasLinks 32 = .ok (.iinc 3 1, 3) := by decide +kernel
theorem dX8_hasLinks_35 : decode cX8_hasLinks 35 = .ok (.goto (-31), 3) := by decide +kernel
theorem dX8_hasLinks_38 : decode cX8_hasLinks 38 = .ok (.iload_n 2, 1) := by decide +kernel
theorem dX8_hasLinks_39 : decode cX8_hasLinks 39 = .ok (.ireturn, 1) := by decide +kernel
set_option maxRecDepth 20000 in
theorem ggX8_lengthOf_X8_hasLinks : GoodIn wsX8_lengthOf wsX8_hasLinks := goodIn_r _ [5, 6, 7, 8, 4, 9, 10, 11, 12, 13, 18, 19, 20, 21, 22, 23, 24, 25, 26, 27, 28, 29, 30, 31, 32, 33, 34] (by decide +kernel) (by decide +kernel)
set_option maxRecDepth 20000 in
theorem gX8_lengthOf_X8_hasLinks : GoodIn wsX8_lengthOf (wsV RX8 157 RX8 yX8_hasLinks wsX8_hasLinks) := goodIn_app (goodIn_of _ (by decide +kernel)) ggX8_lengthOf_X8_hasLinks
set_option maxRecDepth 20000 in
theorem ggX8_lengthOf_X8_lacks : GoodIn wsX8_lengthOf wsX8_lacks := goodIn_r _ [17, 6, 7, 8, 4, 9, 10, 11, 12, 13, 18, 19, 20, 21, 22, 23, 24, 25, 26, 27, 28, 29, 30, 31, 32, 33, 34] (by decide +kernel) (by decide +kernel)
set_option maxRecDepth 20000 in
theorem gX8_lengthOf_X8_lacks : GoodIn wsX8_lengthOf (wsV RX8 160 RX8 yX8_lacks wsX8_lacks) := goodIn_app (goodIn_of _ (by decide +kernel)) ggX8_lengthOf_X8_lacks
theorem dX8_lengthOf_0 : decode cX8_lengthOf 0 = .ok (.aload_n 0, 1) := by decide +kernel
theorem dX8_lengthOf_1 : decode cX8_lengthOf 1 = .ok (.iload_n 1, 1) := by decide +kernel
theorem dX8_lengthOf_2 : decode cX8_lengthOf 2 = .ok (.invokevirtual 157, 3) := by decide +kernel
theorem dX8_lengthOf_5 : decode cX8_lengthOf 5 = .ok (.ifCond .eq 7, 3) := by decide +kernel
theorem dX8_lengthOf_8 : decode cX8_lengthOf 8 = .ok (.iconst 2, 1) := by decide +kernel
theorem dX8_lengthOf_9 : decode cX8_lengthOf 9 = .ok (.goto 4, 3) := by decide +kernel
theorem dX8_lengthOf_12 : decode cX8_lengthOf 12 = .ok (.iconst 1, 1) := by decide +kernel
theorem dX8_lengthOf_13 : decode cX8_lengthOf 13 = .ok (.istore_n 2, 1) := by decide +kernel
theorem dX8_lengthOf_14 : decode cX8_lengthOf 14 = .ok (.iconst 0, 1) := by decide +kernel
theorem dX8_lengthOf_15 : decode cX8_lengthOf 15 = .ok (.istore_n 3, 1) := by decide +kernel
theorem dX8_lengthOf_16 : decode cX8_lengthOf 16 = .ok (.iload_n 3, 1) := by decide +kernel
theorem dX8_lengthOf_17 : decode cX8_lengthOf 17 = .ok (.iconst 5, 1) := by decide +kernel
theorem dX8_lengthOf_18 : decode cX8_lengthOf 18 = .ok (.if_icmp .ge 23, 3) := by decide +kernel
theorem dX8_lengthOf_21 : decode cX8_lengthOf 21 = .ok (.iload_n 2, 1) := by decide +kernel
theorem dX8_lengthOf_22 : decode cX8_lengthOf 22 = .ok (.aload_n 0, 1) := by decide +kernel
theorem dX8_lengthOf_23 : decode cX8_lengthOf 23 = .ok (.iload_n 1, 1) := by decide +kernel
theorem dX8_lengthOf_24 : decode cX8_lengthOf 24 = .ok (.invokevirtual 160, 3) := by decide +kernel
theorem dX8_lengthOf_27 : decode cX8_lengthOf 27 = .ok (.iload_n 3, 1) := by decide +kernel
theorem dX8_lengthOf_28 : decode cX8_lengthOf 28 = .ok (.ishr, 1) := by decide +kernel
theorem dX8_lengthOf_29 : decode cX8_lengthOf 29 = .ok (.iconst 1, 1) := by decide +kernel
theorem dX8_lengthOf_30 : decode cX8_lengthOf 30 = .ok (.iand, 1) := by decide +kernel
theorem dX8_lengthOf_31 : decode cX8_lengthOf 31 = .ok (.iconst 1, 1) := by decide +kernel
theorem dX8_lengthOf_32 : decode cX8_lengthOf 32 = .ok (.ixor, 1) := by decide +kernel
theorem dX8_lengthOf_33 : decode cX8_lengthOf 33 = .ok (.iadd, 1) := by decide +kernel
theorem dX8_lengthOf_34 : decode cX8_lengthOf 34 = .ok (.istore_n 2, 1) := by decide +kernel
theorem dX8_lengthOf_35 : decode cX8_lengthOf 35 = .ok (.iinc 3 1, 3) := by decide +kernel
theorem dX8_lengthOf_38 : decode cX8_lengthOf 38 = .ok (.goto (-22), 3) := by decide +kernel
theorem dX8_lengthOf_41 : decode cX8_lengthOf 41 = .ok (.iload_n 2, 1) := by decide +kernel
theorem dX8_lengthOf_42 : decode cX8_lengthOf 42 = .ok (.ireturn, 1) := by decide +kernel
set_option maxRecDepth 20000 in
theorem ggX8_sure_X8_of : GoodIn wsX8_sure wsX8_of := goodIn_r _ [6, 7, 8, 9, 5, 10, 14, 15, 16, 17, 18, 19, 20, 21, 22, 23, 24, 25, 26, 27, 28, 29, 30] (by decide +kernel) (by decide +kernel)
set_option maxRecDepth 20000 in
theorem gX8_sure_X8_of : GoodIn wsX8_sure (wsV RX8 82 RX8 yX8_of wsX8_of) := goodIn_app (goodIn_of _ (by decide +kernel)) ggX8_sure_X8_of
set_option maxRecDepth 20000 in
theorem ggX8_sure_X8_in : GoodIn wsX8_sure wsX8_in := goodIn_r _ [13] (by decide +kernel) (by decide +kernel)
set_option maxRecDepth 20000 in
theorem gX8_sure_X8_in : GoodIn wsX8_sure (va_wsS RX8 70 yX8_in wsX8_in) := goodIn_app (goodIn_of _ (by decide +kernel)) ggX8_sure_X8_in
theorem dX8_sure_0 : decode cX8_sure 0 = .ok (.iconst 0, 1) := by decide +kernel
theorem dX8_sure_1 : decode cX8_sure 1 = .ok (.istore_n 2, 1) := by decide +kernel
theorem dX8_sure_2 : decode cX8_sure 2 = .ok (.iconst 0, 1) := by decide +kernel
theorem dX8_sure_3 : decode cX8_sure 3 = .ok (.istore_n 3, 1) := by decide +kernel
theorem dX8_sure_4 : decode cX8_sure 4 = .ok (.iload_n 3, 1) := by decide +kernel
theorem dX8_sure_5 : decode cX8_sure 5 = .ok (.bipush 40, 2) := by decide +kernel
theorem dX8_sure_7 : decode cX8_sure 7 = .ok (.if_icmp .ge 37, 3) := by decide +kernel
theorem dX8_sure_10 : decode cX8_sure 10 = .ok (.iload_n 2, 1) := by decide +kernel
theorem dX8_sure_11 : decode cX8_sure 11 = .ok (.aload_n 0, 1) := by decide +kernel
theorem dX8_sure_12 : decode cX8_sure 12 = .ok (.iload_n 1, 1) := by decide +kernel
theorem dX8_sure_13 : decode cX8_sure 13 = .ok (.bipush 10, 2) := by decide +kernel
theorem dX8_sure_15 : decode cX8_sure 15 = .ok (.iload_n 3, 1) := by decide +kernel
theorem dX8_sure_16 : decode cX8_sure 16 = .ok (.iadd, 1) := by decide +kernel
theorem dX8_sure_17 : decode cX8_sure 17 = .ok (.invokevirtual 82, 3) := by decide +kernel
theorem dX8_sure_20 : decode cX8_sure 20 = .ok (.i2l, 1) := by decide +kernel
theorem dX8_sure_21 : decode cX8_sure 21 = .ok (.lconst 0, 1) := by decide +kernel
theorem dX8_sure_22 : decode cX8_sure 22 = .ok (.ldc2_w 163, 3) := by decide +kernel
theorem dX8_sure_25 : decode cX8_sure 25 = .ok (.invokestatic 70, 3) := by decide +kernel
theorem dX8_sure_28 : decode cX8_sure 28 = .ok (.ifCond .eq 7, 3) := by decide +kernel
theorem dX8_sure_31 : decode cX8_sure 31 = .ok (.iconst 1, 1) := by decide +kernel
theorem dX8_sure_32 : decode cX8_sure 32 = .ok (.goto 4, 3) := by decide +kernel
theorem dX8_sure_35 : decode cX8_sure 35 = .ok (.iconst 0, 1) := by decide +kernel
theorem dX8_sure_36 : decode cX8_sure 36 = .ok (.iadd, 1) := by decide +kernel
theorem dX8_sure_37 : decode cX8_sure 37 = .ok (.istore_n 2, 1) := by decide +kernel
theorem dX8_sure_38 : decode cX8_sure 38 = .ok (.iinc 3 1, 3) := by decide +kernel
theorem dX8_sure_41 : decode cX8_sure 41 = .ok (.goto (-37), 3) := by decide +kernel
theorem dX8_sure_44 : decode cX8_sure 44 = .ok (.iload_n 2, 1) := by decide +kernel
theorem dX8_sure_45 : decode cX8_sure 45 = .ok (.ireturn, 1) := by decide +kernel
set_option maxRecDepth 20000 in
theorem ggX8_linked_X8_of : GoodIn wsX8_linked wsX8_of := goodIn_r _ [6, 1, 7, 8, 5, 9, 10, 11, 12, 13, 14, 15, 16, 17, 18, 19, 20, 21, 22, 23, 24, 25, 26] (by decide +kernel) (by decide +kernel)
set_option maxRecDepth 20000 in
theorem gX8_linked_X8_of : GoodIn wsX8_linked (wsV RX8 82 RX8 yX8_of wsX8_of) := goodIn_app (goodIn_of _ (by decide +kernel)) ggX8_linked_X8_of
theorem dX8_linked_0 : decode cX8_linked 0 = .ok (.iconst 0, 1) := by decide +kernel
theorem dX8_linked_1 : decode cX8_linked 1 = .ok (.istore_n 2, 1) := by decide +kernel
theorem dX8_linked_2 : decode cX8_linked 2 = .ok (.iconst 0, 1) := by decide +kernel
theorem dX8_linked_3 : decode cX8_linked 3 = .ok (.istore_n 3, 1) := by decide +kernel
theorem dX8_linked_4 : decode cX8_linked 4 = .ok (.iload_n 3, 1) := by decide +kernel
theorem dX8_linked_5 : decode cX8_linked 5 = .ok (.aload_n 0, 1) := by decide +kernel
theorem dX8_linked_6 : decode cX8_linked 6 = .ok (.getfield 7, 3) := by decide +kernel
theorem dX8_linked_9 : decode cX8_linked 9 = .ok (.iconst 0, 1) := by decide +kernel
theorem dX8_linked_10 : decode cX8_linked 10 = .ok (.iaload, 1) := by decide +kernel
theorem dX8_linked_11 : decode cX8_linked 11 = .ok (.if_icmp .ge 68, 3) := by decide +kernel
theorem dX8_linked_14 : decode cX8_linked 14 = .ok (.iconst 0, 1) := by decide +kernel
theorem dX8_linked_15 : decode cX8_linked 15 = .ok (.istore 4, 2) := by decide +kernel
theorem dX8_linked_17 : decode cX8_linked 17 = .ok (.iload 4, 2) := by decide +kernel
theorem dX8_linked_19 : decode cX8_linked 19 = .ok (.iconst 4, 1) := by decide +kernel
theorem dX8_linked_20 : decode cX8_linked 20 = .ok (.if_icmp .ge 53, 3) := by decide +kernel
theorem dX8_linked_23 : decode cX8_linked 23 = .ok (.iload_n 2, 1) := by decide +kernel
theorem dX8_linked_24 : decode cX8_linked 24 = .ok (.aload_n 0, 1) := by decide +kernel
theorem dX8_linked_25 : decode cX8_linked 25 = .ok (.iload_n 1, 1) := by decide +kernel
theorem dX8_linked_26 : decode cX8_linked 26 = .ok (.bipush 6, 2) := by decide +kernel
theorem dX8_linked_28 : decode cX8_linked 28 = .ok (.iload 4, 2) := by decide +kernel
theorem dX8_linked_30 : decode cX8_linked 30 = .ok (.iadd, 1) := by decide +kernel
theorem dX8_linked_31 : decode cX8_linked 31 = .ok (.invokevirtual 82, 3) := by decide +kernel
theorem dX8_linked_34 : decode cX8_linked 34 = .ok (.aload_n 0, 1) := by decide +kernel
theorem dX8_linked_35 : decode cX8_linked 35 = .ok (.iload_n 3, 1) := by decide +kernel
theorem dX8_linked_36 : decode cX8_linked 36 = .ok (.iconst 1, 1) := by decide +kernel
theorem dX8_linked_37 : decode cX8_linked 37 = .ok (.invokevirtual 82, 3) := by decide +kernel
theorem dX8_linked_40 : decode cX8_linked 40 = .ok (.if_icmp .ne 24, 3) := by decide +kernel
theorem dX8_linked_43 : decode cX8_linked 43 = .ok (.aload_n 0, 1) := by decide +kernel
theorem dX8_linked_44 : decode cX8_linked 44 = .ok (.iload_n 1, 1) := by decide +kernel
theorem dX8_linked_45 : decode cX8_linked 45 = .ok (.iconst 0, 1) := by decide +kernel
theorem dX8_linked_46 : decode cX8_linked 46 = .ok (.invokevirtual 82, 3) := by decide +kernel
theorem dX8_linked_49 : decode cX8_linked 49 = .ok (.aload_n 0, 1) := by decide +kernel
theorem dX8_linked_50 : decode cX8_linked 50 = .ok (.iload_n 3, 1) := by decide +kernel
theorem dX8_linked_51 : decode cX8_linked 51 = .ok (.iconst 0, 1) := by decide +kernel
theorem dX8_linked_52 : decode cX8_linked 52 = .ok (.invokevirtual 82, 3) := by decide +kernel
theorem dX8_linked_55 : decode cX8_linked 55 = .ok (.if_icmp .ne 9, 3) := by decide +kernel
theorem dX8_linked_58 : decode cX8_linked 58 = .ok (.iconst 1, 1) := by decide +kernel
theorem dX8_linked_59 : decode cX8_linked 59 = .ok (.iload_n 3, 1) := by decide +kernel
theorem dX8_linked_60 : decode cX8_linked 60 = .ok (.ishl, 1) := by decide +kernel
theorem dX8_linked_61 : decode cX8_linked 61 = .ok (.goto 4, 3) := by decide +kernel
theorem dX8_linked_64 : decode cX8_linked 64 = .ok (.iconst 0, 1) := by decide +kernel
theorem dX8_linked_65 : decode cX8_linked 65 = .ok (.ior, 1) := by decide +kernel
theorem dX8_linked_66 : decode cX8_linked 66 = .ok (.istore_n 2, 1) := by decide +kernel
theorem dX8_linked_67 : decode cX8_linked 67 = .ok (.iinc 4 1, 3) := by decide +kernel
theorem dX8_linked_70 : decode cX8_linked 70 = .ok (.goto (-53), 3) := by decide +kernel
theorem dX8_linked_73 : decode cX8_linked 73 = .ok (.iinc 3 1, 3) := by decide +kernel
theorem dX8_linked_76 : decode cX8_linked 76 = .ok (.goto (-72), 3) := by decide +kernel
theorem dX8_linked_79 : decode cX8_linked 79 = .ok (.iload_n 2, 1) := by decide +kernel
theorem dX8_linked_80 : decode cX8_linked 80 = .ok (.ireturn, 1) := by decide +kernel
set_option maxRecDepth 20000 in
theorem ggX8_page_X8_isPage : GoodIn wsX8_page wsX8_isPage := goodIn_r _ [9, 10, 11, 12, 8, 13, 42, 43, 44, 45, 46, 47, 48, 49, 50, 51, 52, 53, 54, 55, 56, 57, 58] (by decide +kernel) (by decide +kernel)
set_option maxRecDepth 20000 in
theorem gX8_page_X8_isPage : GoodIn wsX8_page (wsV RX8 165 RX8 yX8_isPage wsX8_isPage) := goodIn_app (goodIn_of _ (by decide +kernel)) ggX8_page_X8_isPage
set_option maxRecDepth 20000 in
theorem ggX8_page_X8_in : GoodIn wsX8_page wsX8_in := goodIn_r _ [13] (by decide +kernel) (by decide +kernel)
set_option maxRecDepth 20000 in
theorem gX8_page_X8_in : GoodIn wsX8_page (va_wsS RX8 70 yX8_in wsX8_in) := goodIn_app (goodIn_of _ (by decide +kernel)) ggX8_page_X8_in
set_option maxRecDepth 20000 in
theorem ggX8_page_X8_of : GoodIn wsX8_page wsX8_of := goodIn_r _ [17, 10, 18, 19, 8, 20, 42, 43, 44, 45, 46, 47, 48, 49, 50, 51, 52, 53, 54, 55, 56, 57, 58] (by decide +kernel) (by decide +kernel)
set_option maxRecDepth 20000 in
theorem gX8_page_X8_of : GoodIn wsX8_page (wsV RX8 82 RX8 yX8_of wsX8_of) := goodIn_app (goodIn_of _ (by decide +kernel)) ggX8_page_X8_of
set_option maxRecDepth 20000 in
theorem ggX8_page_X8_lengthOf : GoodIn wsX8_page wsX8_lengthOf := goodIn_r _ [24, 25, 26, 27, 8, 28, 14, 15, 16, 17, 10, 18, 19, 20, 29, 30, 31, 32, 42, 43, 44, 45, 46, 47, 48, 49, 50, 51, 52, 53, 54, 55, 56, 57, 58] (by decide +kernel) (by decide +kernel)
set_option maxRecDepth 20000 in
theorem gX8_page_X8_lengthOf : GoodIn wsX8_page (wsV RX8 170 RX8 yX8_lengthOf wsX8_lengthOf) := goodIn_app (goodIn_of _ (by decide +kernel)) ggX8_page_X8_lengthOf
set_option maxRecDepth 20000 in
theorem ggX8_page_X8_lacks : GoodIn wsX8_page wsX8_lacks := goodIn_r _ [32, 14, 15, 16, 8, 17, 10, 18, 19, 20, 42, 43, 44, 45, 46, 47, 48, 49, 50, 51, 52, 53, 54, 55, 56, 57, 58] (by decide +kernel) (by decide +kernel)
set_option maxRecDepth 20000 in
theorem gX8_page_X8_lacks : GoodIn wsX8_page (wsV RX8 160 RX8 yX8_lacks wsX8_lacks) := goodIn_app (goodIn_of _ (by decide +kernel)) ggX8_page_X8_lacks
set_option maxRecDepth 20000 in
theorem ggX8_page_X8_sure : GoodIn wsX8_page wsX8_sure := goodIn_r _ [36, 37, 14, 15, 16, 8, 17, 10, 18, 19, 20, 11, 12, 13, 42, 43, 44, 45, 46, 47, 48, 49, 50, 51, 52, 53, 54, 55, 56, 57, 58] (by decide +kernel) (by decide +kernel)
set_option maxRecDepth 20000 in
theorem gX8_page_X8_sure : GoodIn wsX8_page (wsV RX8 173 RX8 yX8_sure wsX8_sure) := goodIn_app (goodIn_of _ (by decide +kernel)) ggX8_page_X8_sure
set_option maxRecDepth 20000 in
theorem ggX8_page_X8_linked : GoodIn wsX8_page wsX8_linked := goodIn_r _ [41, 10, 14, 15, 16, 8, 17, 18, 19, 20, 42, 43, 44, 45, 46, 47, 48, 49, 50, 51, 52, 53, 54, 55, 56, 57, 58] (by decide +kernel) (by decide +kernel)
set_option maxRecDepth 20000 in
theorem gX8_page_X8_linked : GoodIn wsX8_page (wsV RX8 176 RX8 yX8_linked wsX8_linked) := goodIn_app (goodIn_of _ (by decide +kernel)) ggX8_page_X8_linked
theorem dX8_page_0 : decode cX8_page 0 = .ok (.aload_n 0, 1) := by decide +kernel
theorem dX8_page_1 : decode cX8_page 1 = .ok (.iconst 0, 1) := by decide +kernel
theorem dX8_page_2 : decode cX8_page 2 = .ok (.putfield 48, 3) := by decide +kernel
theorem dX8_page_5 : decode cX8_page 5 = .ok (.aload_n 0, 1) := by decide +kernel
theorem dX8_page_6 : decode cX8_page 6 = .ok (.iload_n 1, 1) := by decide +kernel
theorem dX8_page_7 : decode cX8_page 7 = .ok (.invokevirtual 165, 3) := by decide +kernel
theorem dX8_page_10 : decode cX8_page 10 = .ok (.ifCond .ne 6, 3) := by decide +kernel
theorem dX8_page_13 : decode cX8_page 13 = .ok (.ldc 156, 2) := by decide +kernel
theorem dX8_page_15 : decode cX8_page 15 = .ok (.ireturn, 1) := by decide +kernel
theorem dX8_page_16 : decode cX8_page 16 = .ok (.iload_n 2, 1) := by decide +kernel
theorem dX8_page_17 : decode cX8_page 17 = .ok (.i2l, 1) := by decide +kernel
theorem dX8_page_18 : decode cX8_page 18 = .ok (.lconst 0, 1) := by decide +kernel
theorem dX8_page_19 : decode cX8_page 19 = .ok (.ldc2_w 168, 3) := by decide +kernel
theorem dX8_page_22 : decode cX8_page 22 = .ok (.invokestatic 70, 3) := by decide +kernel
theorem dX8_page_25 : decode cX8_page 25 = .ok (.ifCond .ne 6, 3) := by decide +kernel
theorem dX8_page_28 : decode cX8_page 28 = .ok (.ldc 74, 2) := by decide +kernel
theorem dX8_page_30 : decode cX8_page 30 = .ok (.ireturn, 1) := by decide +kernel
theorem dX8_page_31 : decode cX8_page 31 = .ok (.iload_n 2, 1) := by decide +kernel
theorem dX8_page_32 : decode cX8_page 32 = .ok (.iconst 5, 1) := by decide +kernel
theorem dX8_page_33 : decode cX8_page 33 = .ok (.if_icmp .ge 10, 3) := by decide +kernel
theorem dX8_page_36 : decode cX8_page 36 = .ok (.aload_n 0, 1) := by decide +kernel
theorem dX8_page_37 : decode cX8_page 37 = .ok (.iload_n 1, 1) := by decide +kernel
theorem dX8_page_38 : decode cX8_page 38 = .ok (.iload_n 2, 1) := by decide +kernel
theorem dX8_page_39 : decode cX8_page 39 = .ok (.invokevirtual 82, 3) := by decide +kernel
theorem dX8_page_42 : decode cX8_page 42 = .ok (.ireturn, 1) := by decide +kernel
theorem dX8_page_43 : decode cX8_page 43 = .ok (.iload_n 2, 1) := by decide +kernel
theorem dX8_page_44 : decode cX8_page 44 = .ok (.iconst 5, 1) := by decide +kernel
theorem dX8_page_45 : decode cX8_page 45 = .ok (.if_icmp .ne 11, 3) := by decide +kernel
theorem dX8_page_48 : decode cX8_page 48 = .ok (.aload_n 0, 1) := by decide +kernel
theorem dX8_page_49 : decode cX8_page 49 = .ok (.iload_n 1, 1) := by decide +kernel
theorem dX8_page_50 : decode cX8_page 50 = .ok (.invokevirtual 170, 3) := by decide +kernel
theorem dX8_page_53 : decode cX8_page 53 = .ok (.goto 36, 3) := by decide +kernel
theorem dX8_page_56 : decode cX8_page 56 = .ok (.iload_n 2, 1) := by decide +kernel
theorem dX8_page_57 : decode cX8_page 57 = .ok (.bipush 6, 2) := by decide +kernel
theorem dX8_page_59 : decode cX8_page 59 = .ok (.if_icmp .ne 11, 3) := by decide +kernel
theorem dX8_page_62 : decode cX8_page 62 = .ok (.aload_n 0, 1) := by decide +kernel
theorem dX8_page_63 : decode cX8_page 63 = .ok (.iload_n 1, 1) := by decide +kernel
theorem dX8_page_64 : decode cX8_page 64 = .ok (.invokevirtual 160, 3) := by decide +kernel
theorem dX8_page_67 : decode cX8_page 67 = .ok (.goto 22, 3) := by decide +kernel
theorem dX8_page_70 : decode cX8_page 70 = .ok (.iload_n 2, 1) := by decide +kernel
theorem dX8_page_71 : decode cX8_page 71 = .ok (.bipush 7, 2) := by decide +kernel
theorem dX8_page_73 : decode cX8_page 73 = .ok (.if_icmp .ne 11, 3) := by decide +kernel
theorem dX8_page_76 : decode cX8_page 76 = .ok (.aload_n 0, 1) := by decide +kernel
theorem dX8_page_77 : decode cX8_page 77 = .ok (.iload_n 1, 1) := by decide +kernel
theorem dX8_page_78 : decode cX8_page 78 = .ok (.invokevirtual 173, 3) := by decide +kernel
theorem dX8_page_81 : decode cX8_page 81 = .ok (.goto 8, 3) := by decide +kernel
theorem dX8_page_84 : decode cX8_page 84 = .ok (.aload_n 0, 1) := by decide +kernel
theorem dX8_page_85 : decode cX8_page 85 = .ok (.iload_n 1, 1) := by decide +kernel
theorem dX8_page_86 : decode cX8_page 86 = .ok (.invokevirtual 176, 3) := by decide +kernel
theorem dX8_page_89 : decode cX8_page 89 = .ok (.ireturn, 1) := by decide +kernel
set_option maxRecDepth 20000 in
theorem ggX8_letter_X8_isPage : GoodIn wsX8_letter wsX8_isPage := goodIn_r _ [10, 11, 12, 13, 9, 14, 22, 23, 24, 25, 26, 27, 28, 29, 30, 31, 32, 33, 34, 35, 36, 37, 38] (by decide +kernel) (by decide +kernel)
set_option maxRecDepth 20000 in
theorem gX8_letter_X8_isPage : GoodIn wsX8_letter (wsV RX8 165 RX8 yX8_isPage wsX8_isPage) := goodIn_app (goodIn_of _ (by decide +kernel)) ggX8_letter_X8_isPage
set_option maxRecDepth 20000 in
theorem ggX8_letter_X8_in : GoodIn wsX8_letter wsX8_in := goodIn_r _ [14] (by decide +kernel) (by decide +kernel)
set_option maxRecDepth 20000 in
theorem gX8_letter_X8_in : GoodIn wsX8_letter (va_wsS RX8 70 yX8_in wsX8_in) := goodIn_app (goodIn_of _ (by decide +kernel)) ggX8_letter_X8_in
set_option maxRecDepth 20000 in
theorem ggX8_letter_X8_of : GoodIn wsX8_letter wsX8_of := goodIn_r _ [18, 11, 19, 20, 9, 21, 22, 23, 24, 25, 26, 27, 28, 29, 30, 31, 32, 33, 34, 35, 36, 37, 38] (by decide +kernel) (by decide +kernel)
set_option maxRecDepth 20000 in
theorem gX8_letter_X8_of : GoodIn wsX8_letter (wsV RX8 82 RX8 yX8_of wsX8_of) := goodIn_app (goodIn_of _ (by decide +kernel)) ggX8_letter_X8_of
theorem dX8_letter_0 : decode cX8_letter 0 = .ok (.aload_n 0, 1) := by decide +kernel
theorem dX8_letter_1 : decode cX8_letter 1 = .ok (.iconst 0, 1) := by decide +kernel
theorem dX8_letter_2 : decode cX8_letter 2 = .ok (.putfield 48, 3) := by decide +kernel
theorem dX8_letter_5 : decode cX8_letter 5 = .ok (.aload_n 0, 1) := by decide +kernel
theorem dX8_letter_6 : decode cX8_letter 6 = .ok (.iload_n 1, 1) := by decide +kernel
theorem dX8_letter_7 : decode cX8_letter 7 = .ok (.invokevirtual 165, 3) := by decide +kernel
theorem dX8_letter_10 : decode cX8_letter 10 = .ok (.ifCond .ne 6, 3) := by decide +kernel
theorem dX8_letter_13 : decode cX8_letter 13 = .ok (.ldc 156, 2) := by decide +kernel
theorem dX8_letter_15 : decode cX8_letter 15 = .ok (.ireturn, 1) := by decide +kernel
theorem dX8_letter_16 : decode cX8_letter 16 = .ok (.iload_n 2, 1) := by decide +kernel
theorem dX8_letter_17 : decode cX8_letter 17 = .ok (.i2l, 1) := by decide +kernel
theorem dX8_letter_18 : decode cX8_letter 18 = .ok (.lconst 0, 1) := by decide +kernel
theorem dX8_letter_19 : decode cX8_letter 19 = .ok (.ldc2_w 179, 3) := by decide +kernel
theorem dX8_letter_22 : decode cX8_letter 22 = .ok (.invokestatic 70, 3) := by decide +kernel
theorem dX8_letter_25 : decode cX8_letter 25 = .ok (.ifCond .eq 32, 3) := by decide +kernel
theorem dX8_letter_28 : decode cX8_letter 28 = .ok (.iload_n 3, 1) := by decide +kernel
theorem dX8_letter_29 : decode cX8_letter 29 = .ok (.i2l, 1) := by decide +kernel
theorem dX8_letter_30 : decode cX8_letter 30 = .ok (.lconst 0, 1) := by decide +kernel
theorem dX8_letter_31 : decode cX8_letter 31 = .ok (.ldc2_w 102, 3) := by decide +kernel
theorem dX8_letter_34 : decode cX8_letter 34 = .ok (.invokestatic 70, 3) := by decide +kernel
theorem dX8_letter_37 : decode cX8_letter 37 = .ok (.ifCond .eq 20, 3) := by decide +kernel
theorem dX8_letter_40 : decode cX8_letter 40 = .ok (.aload_n 0, 1) := by decide +kernel
theorem dX8_letter_41 : decode cX8_letter 41 = .ok (.iload_n 1, 1) := by decide +kernel
theorem dX8_letter_42 : decode cX8_letter 42 = .ok (.bipush 10, 2) := by decide +kernel
theorem dX8_letter_44 : decode cX8_letter 44 = .ok (.bipush 8, 2) := by decide +kernel
theorem dX8_letter_46 : decode cX8_letter 46 = .ok (.iload_n 2, 1) := by decide +kernel
theorem dX8_letter_47 : decode cX8_letter 47 = .ok (.imul, 1) := by decide +kernel
theorem dX8_letter_48 : decode cX8_letter 48 = .ok (.iadd, 1) := by decide +kernel
theorem dX8_letter_49 : decode cX8_letter 49 = .ok (.iload_n 3, 1) := by decide +kernel
theorem dX8_letter_50 : decode cX8_letter 50 = .ok (.iadd, 1) := by decide +kernel
theorem dX8_letter_51 : decode cX8_letter 51 = .ok (.invokevirtual 82, 3) := by decide +kernel
theorem dX8_letter_54 : decode cX8_letter 54 = .ok (.goto 5, 3) := by decide +kernel
theorem dX8_letter_57 : decode cX8_letter 57 = .ok (.ldc 74, 2) := by decide +kernel
theorem dX8_letter_59 : decode cX8_letter 59 = .ok (.ireturn, 1) := by decide +kernel
set_option maxRecDepth 20000 in
theorem ggX8_link_X8_isPage : GoodIn wsX8_link wsX8_isPage := goodIn_r _ [9, 10, 11, 12, 8, 13, 21, 22, 23, 24, 25, 26, 27, 28, 29, 30, 31, 32, 33, 34, 35, 36, 37] (by decide +kernel) (by decide +kernel)
set_option maxRecDepth 20000 in
theorem gX8_link_X8_isPage : GoodIn wsX8_link (wsV RX8 165 RX8 yX8_isPage wsX8_isPage) := goodIn_app (goodIn_of _ (by decide +kernel)) ggX8_link_X8_isPage
set_option maxRecDepth 20000 in
theorem ggX8_link_X8_in : GoodIn wsX8_link wsX8_in := goodIn_r _ [13] (by decide +kernel) (by decide +kernel)
set_option maxRecDepth 20000 in
theorem gX8_link_X8_in : GoodIn wsX8_link (va_wsS RX8 70 yX8_in wsX8_in) := goodIn_app (goodIn_of _ (by decide +kernel)) ggX8_link_X8_in
set_option maxRecDepth 20000 in
theorem ggX8_link_X8_of : GoodIn wsX8_link wsX8_of := goodIn_r _ [17, 10, 18, 19, 8, 20, 21, 22, 23, 24, 25, 26, 27, 28, 29, 30, 31, 32, 33, 34, 35, 36, 37] (by decide +kernel) (by decide +kernel)
set_option maxRecDepth 20000 in
theorem gX8_link_X8_of : GoodIn wsX8_link (wsV RX8 82 RX8 yX8_of wsX8_of) := goodIn_app (goodIn_of _ (by decide +kernel)) ggX8_link_X8_of
theorem dX8_link_0 : decode cX8_link 0 = .ok (.aload_n 0, 1) := by decide +kernel
theorem dX8_link_1 : decode cX8_link 1 = .ok (.iconst 0, 1) := by decide +kernel
theorem dX8_link_2 : decode cX8_link 2 = .ok (.putfield 48, 3) := by decide +kernel
theorem dX8_link_5 : decode cX8_link 5 = .ok (.aload_n 0, 1) := by decide +kernel
theorem dX8_link_6 : decode cX8_link 6 = .ok (.iload_n 1, 1) := by decide +kernel
theorem dX8_link_7 : decode cX8_link 7 = .ok (.invokevirtual 165, 3) := by decide +kernel
theorem dX8_link_10 : decode cX8_link 10 = .ok (.ifCond .ne 6, 3) := by decide +kernel
theorem dX8_link_13 : decode cX8_link 13 = .ok (.ldc 156, 2) := by decide +kernel
theorem dX8_link_15 : decode cX8_link 15 = .ok (.ireturn, 1) := by decide +kernel
theorem dX8_link_16 : decode cX8_link 16 = .ok (.iload_n 2, 1) := by decide +kernel
theorem dX8_link_17 : decode cX8_link 17 = .ok (.i2l, 1) := by decide +kernel
theorem dX8_link_18 : decode cX8_link 18 = .ok (.lconst 0, 1) := by decide +kernel
theorem dX8_link_19 : decode cX8_link 19 = .ok (.ldc2_w 115, 3) := by decide +kernel
theorem dX8_link_22 : decode cX8_link 22 = .ok (.invokestatic 70, 3) := by decide +kernel
theorem dX8_link_25 : decode cX8_link 25 = .ok (.ifCond .eq 15, 3) := by decide +kernel
theorem dX8_link_28 : decode cX8_link 28 = .ok (.aload_n 0, 1) := by decide +kernel
theorem dX8_link_29 : decode cX8_link 29 = .ok (.iload_n 1, 1) := by decide +kernel
theorem dX8_link_30 : decode cX8_link 30 = .ok (.bipush 6, 2) := by decide +kernel
theorem dX8_link_32 : decode cX8_link 32 = .ok (.iload_n 2, 1) := by decide +kernel
theorem dX8_link_33 : decode cX8_link 33 = .ok (.iadd, 1) := by decide +kernel
theorem dX8_link_34 : decode cX8_link 34 = .ok (.invokevirtual 82, 3) := by decide +kernel
theorem dX8_link_37 : decode cX8_link 37 = .ok (.goto 5, 3) := by decide +kernel
theorem dX8_link_40 : decode cX8_link 40 = .ok (.ldc 74, 2) := by decide +kernel
theorem dX8_link_42 : decode cX8_link 42 = .ok (.ireturn, 1) := by decide +kernel
set_option maxRecDepth 20000 in
theorem ggX8_far_X8_isPage : GoodIn wsX8_far wsX8_isPage := goodIn_r _ [8, 3, 9, 10, 7, 11, 23, 24, 25, 26, 27, 28, 29, 30, 31, 32, 33, 34, 35, 36, 37, 38, 39] (by decide +kernel) (by decide +kernel)
set_option maxRecDepth 20000 in
theorem gX8_far_X8_isPage : GoodIn wsX8_far (wsV RX8 165 RX8 yX8_isPage wsX8_isPage) := goodIn_app (goodIn_of _ (by decide +kernel)) ggX8_far_X8_isPage
set_option maxRecDepth 20000 in
theorem ggX8_far_X8_linked : GoodIn wsX8_far wsX8_linked := goodIn_r _ [15, 3, 16, 17, 18, 7, 19, 20, 21, 22, 23, 24, 25, 26, 27, 28, 29, 30, 31, 32, 33, 34, 35, 36, 37, 38, 39] (by decide +kernel) (by decide +kernel)
set_option maxRecDepth 20000 in
theorem gX8_far_X8_linked : GoodIn wsX8_far (wsV RX8 176 RX8 yX8_linked wsX8_linked) := goodIn_app (goodIn_of _ (by decide +kernel)) ggX8_far_X8_linked
theorem dX8_far_0 : decode cX8_far 0 = .ok (.aload_n 0, 1) := by decide +kernel
theorem dX8_far_1 : decode cX8_far 1 = .ok (.iconst 0, 1) := by decide +kernel
theorem dX8_far_2 : decode cX8_far 2 = .ok (.putfield 48, 3) := by decide +kernel
theorem dX8_far_5 : decode cX8_far 5 = .ok (.aload_n 0, 1) := by decide +kernel
theorem dX8_far_6 : decode cX8_far 6 = .ok (.iload_n 1, 1) := by decide +kernel
theorem dX8_far_7 : decode cX8_far 7 = .ok (.invokevirtual 165, 3) := by decide +kernel
theorem dX8_far_10 : decode cX8_far 10 = .ok (.ifCond .eq 11, 3) := by decide +kernel
theorem dX8_far_13 : decode cX8_far 13 = .ok (.aload_n 0, 1) := by decide +kernel
theorem dX8_far_14 : decode cX8_far 14 = .ok (.iload_n 2, 1) := by decide +kernel
theorem dX8_far_15 : decode cX8_far 15 = .ok (.invokevirtual 165, 3) := by decide +kernel
theorem dX8_far_18 : decode cX8_far 18 = .ok (.ifCond .ne 6, 3) := by decide +kernel
theorem dX8_far_21 : decode cX8_far 21 = .ok (.ldc 156, 2) := by decide +kernel
theorem dX8_far_23 : decode cX8_far 23 = .ok (.ireturn, 1) := by decide +kernel
theorem dX8_far_24 : decode cX8_far 24 = .ok (.iconst 1, 1) := by decide +kernel
theorem dX8_far_25 : decode cX8_far 25 = .ok (.iload_n 1, 1) := by decide +kernel
theorem dX8_far_26 : decode cX8_far 26 = .ok (.ishl, 1) := by decide +kernel
theorem dX8_far_27 : decode cX8_far 27 = .ok (.istore_n 3, 1) := by decide +kernel
theorem dX8_far_28 : decode cX8_far 28 = .ok (.iconst 0, 1) := by decide +kernel
theorem dX8_far_29 : decode cX8_far 29 = .ok (.istore 4, 2) := by decide +kernel
theorem dX8_far_31 : decode cX8_far 31 = .ok (.iload 4, 2) := by decide +kernel
theorem dX8_far_33 : decode cX8_far 33 = .ok (.bipush 10, 2) := by decide +kernel
theorem dX8_far_35 : decode cX8_far 35 = .ok (.if_icmp .ge 72, 3) := by decide +kernel
theorem dX8_far_38 : decode cX8_far 38 = .ok (.iload_n 3, 1) := by decide +kernel
theorem dX8_far_39 : decode cX8_far 39 = .ok (.iload_n 2, 1) := by decide +kernel
theorem dX8_far_40 : decode cX8_far 40 = .ok (.ishr, 1) := by decide +kernel
theorem dX8_far_41 : decode cX8_far 41 = .ok (.iconst 1, 1) := by decide +kernel
theorem dX8_far_42 : decode cX8_far 42 = .ok (.iand, 1) := by decide +kernel
theorem dX8_far_43 : decode cX8_far 43 = .ok (.iconst 1, 1) := by decide +kernel
theorem dX8_far_44 : decode cX8_far 44 = .ok (.if_icmp .ne 6, 3) := by decide +kernel
theorem dX8_far_47 : decode cX8_far 47 = .ok (.iload 4, 2) := by decide +kernel
theorem dX8_far_49 : decode cX8_far 49 = .ok (.ireturn, 1) := by decide +kernel
theorem dX8_far_50 : decode cX8_far 50 = .ok (.iload_n 3, 1) := by decide +kernel
theorem dX8_far_51 : decode cX8_far 51 = .ok (.istore 5, 2) := by decide +kernel
theorem dX8_far_53 : decode cX8_far 53 = .ok (.iconst 0, 1) := by decide +kernel
theorem dX8_far_54 : decode cX8_far 54 = .ok (.istore 6, 2) := by decide +kernel
theorem dX8_far_56 : decode cX8_far 56 = .ok (.iload 6, 2) := by decide +kernel
theorem dX8_far_58 : decode cX8_far 58 = .ok (.aload_n 0, 1) := by decide +kernel
theorem dX8_far_59 : decode cX8_far 59 = .ok (.getfield 7, 3) := by decide +kernel
theorem dX8_far_62 : decode cX8_far 62 = .ok (.iconst 0, 1) := by decide +kernel
theorem dX8_far_63 : decode cX8_far 63 = .ok (.iaload, 1) := by decide +kernel
theorem dX8_far_64 : decode cX8_far 64 = .ok (.if_icmp .ge 34, 3) := by decide +kernel
theorem dX8_far_67 : decode cX8_far 67 = .ok (.iload 5, 2) := by decide +kernel
theorem dX8_far_69 : decode cX8_far 69 = .ok (.iload_n 3, 1) := by decide +kernel
theorem dX8_far_70 : decode cX8_far 70 = .ok (.iload 6, 2) := by decide +kernel
theorem dX8_far_72 : decode cX8_far 72 = .ok (.ishr, 1) := by decide +kernel
theorem dX8_far_73 : decode cX8_far 73 = .ok (.iconst 1, 1) := by decide +kernel
theorem dX8_far_74 : decode cX8_far 74 = .ok (.iand, 1) := by decide +kernel
theorem dX8_far_75 : decode cX8_far 75 = .ok (.iconst 1, 1) := by decide +kernel
theorem dX8_far_76 : decode cX8_far 76 = .ok (.if_icmp .ne 12, 3) := by decide +kernel
theorem dX8_far_79 : decode cX8_far 79 = .ok (.aload_n 0, 1) := by decide +kernel
theorem dX8_far_80 : decode cX8_far 80 = .ok (.iload 6, 2) := by decide +kernel
theorem dX8_far_82 : decode cX8_far 82 = .ok (.invokevirtual 176, 3) := by decide +kernel
theorem dX8_far_85 : decode cX8_far 85 = .ok (.goto 4, 3) := by decide +kernel
theorem dX8_far_88 : decode cX8_far 88 = .ok (.iconst 0, 1) := by decide +kernel
theorem dX8_far_89 : decode cX8_far 89 = .ok (.ior, 1) := by decide +kernel
theorem dX8_far_90 : decode cX8_far 90 = .ok (.istore 5, 2) := by decide +kernel
theorem dX8_far_92 : decode cX8_far 92 = .ok (.iinc 6 1, 3) := by decide +kernel
theorem dX8_far_95 : decode cX8_far 95 = .ok (.goto (-39), 3) := by decide +kernel
theorem dX8_far_98 : decode cX8_far 98 = .ok (.iload 5, 2) := by decide +kernel
theorem dX8_far_100 : decode cX8_far 100 = .ok (.istore_n 3, 1) := by decide +kernel
theorem dX8_far_101 : decode cX8_far 101 = .ok (.iinc 4 1, 3) := by decide +kernel
theorem dX8_far_104 : decode cX8_far 104 = .ok (.goto (-73), 3) := by decide +kernel
theorem dX8_far_107 : decode cX8_far 107 = .ok (.iconst (-1), 1) := by decide +kernel
theorem dX8_far_108 : decode cX8_far 108 = .ok (.ireturn, 1) := by decide +kernel
set_option maxRecDepth 20000 in
theorem ggX8_find_X8_pageOf : GoodIn wsX8_find wsX8_pageOf := goodIn_r _ [6, 7, 8, 9, 10, 5, 11, 12, 13, 14, 15, 16, 17, 18, 19, 20, 21, 22, 23, 24, 25, 26, 27, 28, 29, 30, 31] (by decide +kernel) (by decide +kernel)
set_option maxRecDepth 20000 in
theorem gX8_find_X8_pageOf : GoodIn wsX8_find (wsV RX8 104 RX8 yX8_pageOf wsX8_pageOf) := goodIn_app (goodIn_of _ (by decide +kernel)) ggX8_find_X8_pageOf
theorem dX8_find_0 : decode cX8_find 0 = .ok (.aload_n 0, 1) := by decide +kernel
theorem dX8_find_1 : decode cX8_find 1 = .ok (.iconst 0, 1) := by decide +kernel
theorem dX8_find_2 : decode cX8_find 2 = .ok (.putfield 48, 3) := by decide +kernel
theorem dX8_find_5 : decode cX8_find 5 = .ok (.aload_n 0, 1) := by decide +kernel
theorem dX8_find_6 : decode cX8_find 6 = .ok (.iload_n 1, 1) := by decide +kernel
theorem dX8_find_7 : decode cX8_find 7 = .ok (.iload_n 2, 1) := by decide +kernel
theorem dX8_find_8 : decode cX8_find 8 = .ok (.iload_n 3, 1) := by decide +kernel
theorem dX8_find_9 : decode cX8_find 9 = .ok (.invokevirtual 104, 3) := by decide +kernel
theorem dX8_find_12 : decode cX8_find 12 = .ok (.ireturn, 1) := by decide +kernel
set_option maxRecDepth 20000 in
theorem ggX8_weight_X8_isPage : GoodIn wsX8_weight wsX8_isPage := goodIn_r _ [10, 5, 11, 12, 9, 13, 27, 28, 29, 30, 31, 32, 33, 34, 35, 36, 37, 38, 39, 40, 41, 42, 43] (by decide +kernel) (by decide +kernel)
set_option maxRecDepth 20000 in
theorem gX8_weight_X8_isPage : GoodIn wsX8_weight (wsV RX8 165 RX8 yX8_isPage wsX8_isPage) := goodIn_app (goodIn_of _ (by decide +kernel)) ggX8_weight_X8_isPage
set_option maxRecDepth 20000 in
theorem ggX8_weight_X8_in : GoodIn wsX8_weight wsX8_in := goodIn_r _ [13] (by decide +kernel) (by decide +kernel)
set_option maxRecDepth 20000 in
theorem gX8_weight_X8_in : GoodIn wsX8_weight (va_wsS RX8 70 yX8_in wsX8_in) := goodIn_app (goodIn_of _ (by decide +kernel)) ggX8_weight_X8_in
set_option maxRecDepth 20000 in
theorem ggX8_weight_X8_notes : GoodIn wsX8_weight wsX8_notes := goodIn_r _ [17, 18, 19, 5, 27, 28, 29, 30, 31, 32, 33, 34, 35, 36, 37, 38, 39, 40, 41, 42, 43] (by decide +kernel) (by decide +kernel)
set_option maxRecDepth 20000 in
theorem gX8_weight_X8_notes : GoodIn wsX8_weight (wsV RX8 126 RX8 yX8_notes wsX8_notes) := goodIn_app (goodIn_of _ (by decide +kernel)) ggX8_weight_X8_notes
set_option maxRecDepth 20000 in
theorem ggX8_weight_X8_of : GoodIn wsX8_weight wsX8_of := goodIn_r _ [23, 5, 24, 25, 9, 26, 27, 28, 29, 30, 31, 32, 33, 34, 35, 36, 37, 38, 39, 40, 41, 42, 43] (by decide +kernel) (by decide +kernel)
set_option maxRecDepth 20000 in
theorem gX8_weight_X8_of : GoodIn wsX8_weight (wsV RX8 82 RX8 yX8_of wsX8_of) := goodIn_app (goodIn_of _ (by decide +kernel)) ggX8_weight_X8_of
set_option maxRecDepth 20000 in
theorem ggX8_weight_X8_at : GoodIn wsX8_weight wsX8_at := goodIn_r _ [26] (by decide +kernel) (by decide +kernel)
set_option maxRecDepth 20000 in
theorem gX8_weight_X8_at : GoodIn wsX8_weight (va_wsS RX8 52 yX8_at wsX8_at) := goodIn_app (goodIn_of _ (by decide +kernel)) ggX8_weight_X8_at
theorem dX8_weight_0 : decode cX8_weight 0 = .ok (.aload_n 0, 1) := by decide +kernel
theorem dX8_weight_1 : decode cX8_weight 1 = .ok (.iconst 0, 1) := by decide +kernel
theorem dX8_weight_2 : decode cX8_weight 2 = .ok (.putfield 48, 3) := by decide +kernel
theorem dX8_weight_5 : decode cX8_weight 5 = .ok (.aload_n 0, 1) := by decide +kernel
theorem dX8_weight_6 : decode cX8_weight 6 = .ok (.iload_n 1, 1) := by decide +kernel
theorem dX8_weight_7 : decode cX8_weight 7 = .ok (.invokevirtual 165, 3) := by decide +kernel
theorem dX8_weight_10 : decode cX8_weight 10 = .ok (.ifCond .ne 6, 3) := by decide +kernel
theorem dX8_weight_13 : decode cX8_weight 13 = .ok (.ldc 156, 2) := by decide +kernel
theorem dX8_weight_15 : decode cX8_weight 15 = .ok (.ireturn, 1) := by decide +kernel
theorem dX8_weight_16 : decode cX8_weight 16 = .ok (.iload_n 2, 1) := by decide +kernel
theorem dX8_weight_17 : decode cX8_weight 17 = .ok (.i2l, 1) := by decide +kernel
theorem dX8_weight_18 : decode cX8_weight 18 = .ok (.lconst 1, 1) := by decide +kernel
theorem dX8_weight_19 : decode cX8_weight 19 = .ok (.ldc2_w 100, 3) := by decide +kernel
theorem dX8_weight_22 : decode cX8_weight 22 = .ok (.invokestatic 70, 3) := by decide +kernel
theorem dX8_weight_25 : decode cX8_weight 25 = .ok (.ifCond .ne 6, 3) := by decide +kernel
theorem dX8_weight_28 : decode cX8_weight 28 = .ok (.ldc 74, 2) := by decide +kernel
theorem dX8_weight_30 : decode cX8_weight 30 = .ok (.ireturn, 1) := by decide +kernel
theorem dX8_weight_31 : decode cX8_weight 31 = .ok (.aload_n 0, 1) := by decide +kernel
theorem dX8_weight_32 : decode cX8_weight 32 = .ok (.invokevirtual 126, 3) := by decide +kernel
theorem dX8_weight_35 : decode cX8_weight 35 = .ok (.aload_n 0, 1) := by decide +kernel
theorem dX8_weight_36 : decode cX8_weight 36 = .ok (.iload_n 1, 1) := by decide +kernel
theorem dX8_weight_37 : decode cX8_weight 37 = .ok (.iconst 4, 1) := by decide +kernel
theorem dX8_weight_38 : decode cX8_weight 38 = .ok (.invokevirtual 82, 3) := by decide +kernel
theorem dX8_weight_41 : decode cX8_weight 41 = .ok (.istore_n 3, 1) := by decide +kernel
theorem dX8_weight_42 : decode cX8_weight 42 = .ok (.aload_n 0, 1) := by decide +kernel
theorem dX8_weight_43 : decode cX8_weight 43 = .ok (.getfield 7, 3) := by decide +kernel
theorem dX8_weight_46 : decode cX8_weight 46 = .ok (.iload_n 1, 1) := by decide +kernel
theorem dX8_weight_47 : decode cX8_weight 47 = .ok (.invokestatic 52, 3) := by decide +kernel
theorem dX8_weight_50 : decode cX8_weight 50 = .ok (.iconst 4, 1) := by decide +kernel
theorem dX8_weight_51 : decode cX8_weight 51 = .ok (.iadd, 1) := by decide +kernel
theorem dX8_weight_52 : decode cX8_weight 52 = .ok (.iload_n 2, 1) := by decide +kernel
theorem dX8_weight_53 : decode cX8_weight 53 = .ok (.iastore, 1) := by decide +kernel
theorem dX8_weight_54 : decode cX8_weight 54 = .ok (.iload_n 3, 1) := by decide +kernel
theorem dX8_weight_55 : decode cX8_weight 55 = .ok (.ireturn, 1) := by decide +kernel
set_option maxRecDepth 20000 in
theorem ggX8_drop_X8_isPage : GoodIn wsX8_drop wsX8_isPage := goodIn_r _ [8, 3, 9, 10, 7, 11, 25, 26, 27, 28, 29, 30, 31, 32, 33, 34, 35, 36, 37, 38, 39, 40, 41] (by decide +kernel) (by decide +kernel)
set_option maxRecDepth 20000 in
theorem gX8_drop_X8_isPage : GoodIn wsX8_drop (wsV RX8 165 RX8 yX8_isPage wsX8_isPage) := goodIn_app (goodIn_of _ (by decide +kernel)) ggX8_drop_X8_isPage
set_option maxRecDepth 20000 in
theorem ggX8_drop_X8_notes : GoodIn wsX8_drop wsX8_notes := goodIn_r _ [15, 16, 17, 3, 25, 26, 27, 28, 29, 30, 31, 32, 33, 34, 35, 36, 37, 38, 39, 40, 41] (by decide +kernel) (by decide +kernel)
set_option maxRecDepth 20000 in
theorem gX8_drop_X8_notes : GoodIn wsX8_drop (wsV RX8 126 RX8 yX8_notes wsX8_notes) := goodIn_app (goodIn_of _ (by decide +kernel)) ggX8_drop_X8_notes
set_option maxRecDepth 20000 in
theorem ggX8_drop_X8_goes : GoodIn wsX8_drop wsX8_goes := goodIn_r _ [21, 3, 22, 23, 7, 24, 25, 26, 27, 28, 29, 30, 31, 32, 33, 34, 35, 36, 37, 38, 39, 40, 41] (by decide +kernel) (by decide +kernel)
set_option maxRecDepth 20000 in
theorem gX8_drop_X8_goes : GoodIn wsX8_drop (wsV RX8 90 RX8 yX8_goes wsX8_goes) := goodIn_app (goodIn_of _ (by decide +kernel)) ggX8_drop_X8_goes
theorem dX8_drop_0 : decode cX8_drop 0 = .ok (.aload_n 0, 1) := by decide +kernel
theorem dX8_drop_1 : decode cX8_drop 1 = .ok (.iconst 0, 1) := by decide +kernel
theorem dX8_drop_2 : decode cX8_drop 2 = .ok (.putfield 48, 3) := by decide +kernel
theorem dX8_drop_5 : decode cX8_drop 5 = .ok (.aload_n 0, 1) := by decide +kernel
theorem dX8_drop_6 : decode cX8_drop 6 = .ok (.iload_n 1, 1) := by decide +kernel
theorem dX8_drop_7 : decode cX8_drop 7 = .ok (.invokevirtual 165, 3) := by decide +kernel
theorem dX8_drop_10 : decode cX8_drop 10 = .ok (.ifCond .ne 6, 3) := by decide +kernel
theorem dX8_drop_13 : decode cX8_drop 13 = .ok (.ldc 156, 2) := by decide +kernel
theorem dX8_drop_15 : decode cX8_drop 15 = .ok (.ireturn, 1) := by decide +kernel
theorem dX8_drop_16 : decode cX8_drop 16 = .ok (.aload_n 0, 1) := by decide +kernel
theorem dX8_drop_17 : decode cX8_drop 17 = .ok (.invokevirtual 126, 3) := by decide +kernel
theorem dX8_drop_20 : decode cX8_drop 20 = .ok (.aload_n 0, 1) := by decide +kernel
theorem dX8_drop_21 : decode cX8_drop 21 = .ok (.iload_n 1, 1) := by decide +kernel
theorem dX8_drop_22 : decode cX8_drop 22 = .ok (.invokevirtual 90, 3) := by decide +kernel
theorem dX8_drop_25 : decode cX8_drop 25 = .ok (.aload_n 0, 1) := by decide +kernel
theorem dX8_drop_26 : decode cX8_drop 26 = .ok (.getfield 7, 3) := by decide +kernel
theorem dX8_drop_29 : decode cX8_drop 29 = .ok (.iconst 0, 1) := by decide +kernel
theorem dX8_drop_30 : decode cX8_drop 30 = .ok (.iaload, 1) := by decide +kernel
theorem dX8_drop_31 : decode cX8_drop 31 = .ok (.ireturn, 1) := by decide +kernel
theorem dX8_draw_0 : decode cX8_draw 0 = .ok (.aload_n 0, 1) := by decide +kernel
theorem dX8_draw_1 : decode cX8_draw 1 = .ok (.aload_n 0, 1) := by decide +kernel
theorem dX8_draw_2 : decode cX8_draw 2 = .ok (.getfield 181, 3) := by decide +kernel
theorem dX8_draw_5 : decode cX8_draw 5 = .ok (.ldc2_w 185, 3) := by decide +kernel
theorem dX8_draw_8 : decode cX8_draw 8 = .ok (.lmul, 1) := by decide +kernel
theorem dX8_draw_9 : decode cX8_draw 9 = .ok (.ldc2_w 187, 3) := by decide +kernel
theorem dX8_draw_12 : decode cX8_draw 12 = .ok (.ladd, 1) := by decide +kernel
theorem dX8_draw_13 : decode cX8_draw 13 = .ok (.ldc2_w 189, 3) := by decide +kernel
theorem dX8_draw_16 : decode cX8_draw 16 = .ok (.lrem, 1) := by decide +kernel
theorem dX8_draw_17 : decode cX8_draw 17 = .ok (.putfield 181, 3) := by decide +kernel
theorem dX8_draw_20 : decode cX8_draw 20 = .ok (.aload_n 0, 1) := by decide +kernel
theorem dX8_draw_21 : decode cX8_draw 21 = .ok (.getfield 181, 3) := by decide +kernel
theorem dX8_draw_24 : decode cX8_draw 24 = .ok (.ldc2_w 191, 3) := by decide +kernel
theorem dX8_draw_27 : decode cX8_draw 27 = .ok (.ldiv, 1) := by decide +kernel
theorem dX8_draw_28 : decode cX8_draw 28 = .ok (.iload_n 1, 1) := by decide +kernel
theorem dX8_draw_29 : decode cX8_draw 29 = .ok (.i2l, 1) := by decide +kernel
theorem dX8_draw_30 : decode cX8_draw 30 = .ok (.lrem, 1) := by decide +kernel
theorem dX8_draw_31 : decode cX8_draw 31 = .ok (.l2i, 1) := by decide +kernel
theorem dX8_draw_32 : decode cX8_draw 32 = .ok (.ireturn, 1) := by decide +kernel
set_option maxRecDepth 20000 in
theorem ggX8_drifts_X8_draw : GoodIn wsX8_drifts wsX8_draw := goodIn_r _ [6, 7, 8, 9, 10, 11, 102, 103, 104, 105, 106, 107, 108, 109, 110, 111, 112, 113, 114, 115, 116, 117, 118] (by decide +kernel) (by decide +kernel)
set_option maxRecDepth 20000 in
theorem gX8_drifts_X8_draw : GoodIn wsX8_drifts (wsV RX8 193 RX8 yX8_draw wsX8_draw) := goodIn_app (goodIn_of _ (by decide +kernel)) ggX8_drifts_X8_draw
set_option maxRecDepth 20000 in
theorem ggX8_drifts_X8_codeOf : GoodIn wsX8_drifts wsX8_codeOf := goodIn_r _ [14, 15, 16, 5, 17] (by decide +kernel) (by decide +kernel)
set_option maxRecDepth 20000 in
theorem gX8_drifts_X8_codeOf : GoodIn wsX8_drifts (va_wsS RX8 59 yX8_codeOf wsX8_codeOf) := goodIn_app (goodIn_of _ (by decide +kernel)) ggX8_drifts_X8_codeOf
set_option maxRecDepth 20000 in
theorem ggX8_drifts_X8_laid : GoodIn wsX8_drifts wsX8_laid := goodIn_r _ [20, 12, 13, 5, 14, 15, 16, 17, 21, 22, 23, 24, 25, 26] (by decide +kernel) (by decide +kernel)
set_option maxRecDepth 20000 in
theorem gX8_drifts_X8_laid : GoodIn wsX8_drifts (va_wsS RX8 147 yX8_laid wsX8_laid) := goodIn_app (goodIn_of _ (by decide +kernel)) ggX8_drifts_X8_laid
set_option maxRecDepth 20000 in
theorem ggX8_drifts_X8_comes : GoodIn wsX8_drifts wsX8_comes := goodIn_r _ [30, 31, 32, 33, 34, 5, 35, 36, 37, 38, 39, 40, 41, 42, 43, 44, 45, 46, 47, 1, 48, 49, 50, 51, 52, 53, 54, 12, 13, 14, 15, 16, 17, 24, 25, 26, 55, 56, 57, 58, 59, 60, 61, 62, 63, 64, 65, 66, 67, 68, 69, 70, 71, 72, 73, 74, 75, 76, 77, 78, 79, 80, 81, 82, 83, 84, 85, 86, 87, 88, 89, 90, 91, 92, 93, 94, 95, 96, 97, 98, 99, 100, 101, 102, 103, 104, 105, 106, 107, 108, 109, 110, 111, 112, 113, 114, 115, 116, 117, 118] (by decide +kernel) (by decide +kernel)
set_option maxRecDepth 20000 in
theorem gX8_drifts_X8_comes : GoodIn wsX8_drifts (wsV RX8 139 RX8 yX8_comes wsX8_comes) := goodIn_app (goodIn_of _ (by decide +kernel)) ggX8_drifts_X8_comes
theorem dX8_drifts_0 : decode cX8_drifts 0 = .ok (.aload_n 0, 1) := by decide +kernel
theorem dX8_drifts_1 : decode cX8_drifts 1 = .ok (.iconst 4, 1) := by decide +kernel
theorem dX8_drifts_2 : decode cX8_drifts 2 = .ok (.invokevirtual 193, 3) := by decide +kernel
theorem dX8_drifts_5 : decode cX8_drifts 5 = .ok (.istore_n 1, 1) := by decide +kernel
theorem dX8_drifts_6 : decode cX8_drifts 6 = .ok (.aload_n 0, 1) := by decide +kernel
theorem dX8_drifts_7 : decode cX8_drifts 7 = .ok (.bipush 8, 2) := by decide +kernel
theorem dX8_drifts_9 : decode cX8_drifts 9 = .ok (.invokevirtual 193, 3) := by decide +kernel
theorem dX8_drifts_12 : decode cX8_drifts 12 = .ok (.istore_n 2, 1) := by decide +kernel
theorem dX8_drifts_13 : decode cX8_drifts 13 = .ok (.aload_n 0, 1) := by decide +kernel
theorem dX8_drifts_14 : decode cX8_drifts 14 = .ok (.getfield 13, 3) := by decide +kernel
theorem dX8_drifts_17 : decode cX8_drifts 17 = .ok (.iconst 0, 1) := by decide +kernel
theorem dX8_drifts_18 : decode cX8_drifts 18 = .ok (.iload_n 1, 1) := by decide +kernel
theorem dX8_drifts_19 : decode cX8_drifts 19 = .ok (.invokestatic 59, 3) := by decide +kernel
theorem dX8_drifts_22 : decode cX8_drifts 22 = .ok (.iastore, 1) := by decide +kernel
theorem dX8_drifts_23 : decode cX8_drifts 23 = .ok (.aload_n 0, 1) := by decide +kernel
theorem dX8_drifts_24 : decode cX8_drifts 24 = .ok (.getfield 13, 3) := by decide +kernel
theorem dX8_drifts_27 : decode cX8_drifts 27 = .ok (.iconst 1, 1) := by decide +kernel
theorem dX8_drifts_28 : decode cX8_drifts 28 = .ok (.iload_n 2, 1) := by decide +kernel
theorem dX8_drifts_29 : decode cX8_drifts 29 = .ok (.invokestatic 59, 3) := by decide +kernel
theorem dX8_drifts_32 : decode cX8_drifts 32 = .ok (.iastore, 1) := by decide +kernel
theorem dX8_drifts_33 : decode cX8_drifts 33 = .ok (.iconst 2, 1) := by decide +kernel
theorem dX8_drifts_34 : decode cX8_drifts 34 = .ok (.istore_n 3, 1) := by decide +kernel
theorem dX8_drifts_35 : decode cX8_drifts 35 = .ok (.iload_n 3, 1) := by decide +kernel
theorem dX8_drifts_36 : decode cX8_drifts 36 = .ok (.bipush 10, 2) := by decide +kernel
theorem dX8_drifts_38 : decode cX8_drifts 38 = .ok (.if_icmp .ge 25, 3) := by decide +kernel
theorem dX8_drifts_41 : decode cX8_drifts 41 = .ok (.aload_n 0, 1) := by decide +kernel
theorem dX8_drifts_42 : decode cX8_drifts 42 = .ok (.getfield 13, 3) := by decide +kernel
theorem dX8_drifts_45 : decode cX8_drifts 45 = .ok (.iload_n 3, 1) := by decide +kernel
theorem dX8_drifts_46 : decode cX8_drifts 46 = .ok (.iload_n 2, 1) := by decide +kernel
theorem dX8_drifts_47 : decode cX8_drifts 47 = .ok (.aload_n 0, 1) := by decide +kernel
theorem dX8_drifts_48 : decode cX8_drifts 48 = .ok (.bipush 10, 2) := by decide +kernel
theorem dX8_drifts_50 : decode cX8_drifts 50 = .ok (.invokevirtual 193, 3) := by decide +kernel
theorem dX8_drifts_53 : decode cX8_drifts 53 = .ok (.invokestatic 147, 3) := by decide +kernel
theorem dX8_drifts_56 : decode cX8_drifts 56 = .ok (.iastore, 1) := by decide +kernel
theorem dX8_drifts_57 : decode cX8_drifts 57 = .ok (.iinc 3 1, 3) := by decide +kernel
theorem dX8_drifts_60 : decode cX8_drifts 60 = .ok (.goto (-25), 3) := by decide +kernel
theorem dX8_drifts_63 : decode cX8_drifts 63 = .ok (.aload_n 0, 1) := by decide +kernel
theorem dX8_drifts_64 : decode cX8_drifts 64 = .ok (.bipush 80, 2) := by decide +kernel
theorem dX8_drifts_66 : decode cX8_drifts 66 = .ok (.invokevirtual 193, 3) := by decide +kernel
theorem dX8_drifts_69 : decode cX8_drifts 69 = .ok (.istore_n 3, 1) := by decide +kernel
theorem dX8_drifts_70 : decode cX8_drifts 70 = .ok (.aload_n 0, 1) := by decide +kernel
theorem dX8_drifts_71 : decode cX8_drifts 71 = .ok (.getfield 13, 3) := by decide +kernel
theorem dX8_drifts_74 : decode cX8_drifts 74 = .ok (.iload_n 3, 1) := by decide +kernel
theorem dX8_drifts_75 : decode cX8_drifts 75 = .ok (.bipush 8, 2) := by decide +kernel
theorem dX8_drifts_77 : decode cX8_drifts 77 = .ok (.idiv, 1) := by decide +kernel
theorem dX8_drifts_78 : decode cX8_drifts 78 = .ok (.dup2, 1) := by decide +kernel
theorem dX8_drifts_79 : decode cX8_drifts 79 = .ok (.iaload, 1) := by decide +kernel
theorem dX8_drifts_80 : decode cX8_drifts 80 = .ok (.iconst 1, 1) := by decide +kernel
theorem dX8_drifts_81 : decode cX8_drifts 81 = .ok (.iload_n 3, 1) := by decide +kernel
theorem dX8_drifts_82 : decode cX8_drifts 82 = .ok (.bipush 8, 2) := by decide +kernel
theorem dX8_drifts_84 : decode cX8_drifts 84 = .ok (.irem, 1) := by decide +kernel
theorem dX8_drifts_85 : decode cX8_drifts 85 = .ok (.ishl, 1) := by decide +kernel
theorem dX8_drifts_86 : decode cX8_drifts 86 = .ok (.ixor, 1) := by decide +kernel
theorem dX8_drifts_87 : decode cX8_drifts 87 = .ok (.iastore, 1) := by decide +kernel
theorem dX8_drifts_88 : decode cX8_drifts 88 = .ok (.aload_n 0, 1) := by decide +kernel
theorem dX8_drifts_89 : decode cX8_drifts 89 = .ok (.invokevirtual 139, 3) := by decide +kernel
theorem dX8_drifts_92 : decode cX8_drifts 92 = .ok (.pop, 1) := by decide +kernel
theorem dX8_drifts_93 : decode cX8_drifts 93 = .ok (.return_, 1) := by decide +kernel
set_option maxRecDepth 20000 in
theorem ggX8_drift_X8_in : GoodIn wsX8_drift wsX8_in := goodIn_r _ [8] (by decide +kernel) (by decide +kernel)
set_option maxRecDepth 20000 in
theorem gX8_drift_X8_in : GoodIn wsX8_drift (va_wsS RX8 70 yX8_in wsX8_in) := goodIn_app (goodIn_of _ (by decide +kernel)) ggX8_drift_X8_in
set_option maxRecDepth 20000 in
theorem ggX8_drift_X8_drifts : GoodIn wsX8_drift wsX8_drifts := goodIn_r _ [12, 13, 14, 15, 16, 7, 17, 18, 19, 20, 21, 22, 23, 24, 25, 26, 27, 28, 29, 30, 31, 32, 33, 34, 35, 36, 37, 38, 39, 40, 41, 4, 42, 43, 44, 45, 46, 47, 48, 49, 50, 51, 52, 53, 54, 55, 56, 57, 58, 59, 60, 61, 62, 63, 64, 65, 66, 67, 68, 5, 6, 8, 69, 70, 71, 72, 73, 74, 75, 76, 77, 78, 79, 80, 81, 82, 83, 84, 85, 86, 87, 88, 89, 90, 91, 92, 93, 94, 95, 96, 97, 98, 99, 100, 101, 102, 103, 104, 105, 106, 107, 108, 109, 110, 111, 112, 113, 114, 115, 116, 117, 118, 119, 120, 121, 122, 123, 124, 125] (by decide +kernel) (by decide +kernel)
set_option maxRecDepth 20000 in
theorem gX8_drift_X8_drifts : GoodIn wsX8_drift (wsV RX8 196 RX8 yX8_drifts wsX8_drifts) := goodIn_app (goodIn_of _ (by decide +kernel)) ggX8_drift_X8_drifts
theorem dX8_drift_0 : decode cX8_drift 0 = .ok (.aload_n 0, 1) := by decide +kernel
theorem dX8_drift_1 : decode cX8_drift 1 = .ok (.iconst 0, 1) := by decide +kernel
theorem dX8_drift_2 : decode cX8_drift 2 = .ok (.putfield 48, 3) := by decide +kernel
theorem dX8_drift_5 : decode cX8_drift 5 = .ok (.iload_n 1, 1) := by decide +kernel
theorem dX8_drift_6 : decode cX8_drift 6 = .ok (.i2l, 1) := by decide +kernel
theorem dX8_drift_7 : decode cX8_drift 7 = .ok (.lconst 1, 1) := by decide +kernel
theorem dX8_drift_8 : decode cX8_drift 8 = .ok (.ldc2_w 145, 3) := by decide +kernel
theorem dX8_drift_11 : decode cX8_drift 11 = .ok (.invokestatic 70, 3) := by decide +kernel
theorem dX8_drift_14 : decode cX8_drift 14 = .ok (.ifCond .ne 6, 3) := by decide +kernel
theorem dX8_drift_17 : decode cX8_drift 17 = .ok (.ldc 74, 2) := by decide +kernel
theorem dX8_drift_19 : decode cX8_drift 19 = .ok (.ireturn, 1) := by decide +kernel
theorem dX8_drift_20 : decode cX8_drift 20 = .ok (.iconst 0, 1) := by decide +kernel
theorem dX8_drift_21 : decode cX8_drift 21 = .ok (.istore_n 2, 1) := by decide +kernel
theorem dX8_drift_22 : decode cX8_drift 22 = .ok (.iload_n 2, 1) := by decide +kernel
theorem dX8_drift_23 : decode cX8_drift 23 = .ok (.iload_n 1, 1) := by decide +kernel
theorem dX8_drift_24 : decode cX8_drift 24 = .ok (.if_icmp .ge 13, 3) := by decide +kernel
theorem dX8_drift_27 : decode cX8_drift 27 = .ok (.aload_n 0, 1) := by decide +kernel
theorem dX8_drift_28 : decode cX8_drift 28 = .ok (.invokevirtual 196, 3) := by decide +kernel
theorem dX8_drift_31 : decode cX8_drift 31 = .ok (.iinc 2 1, 3) := by decide +kernel
theorem dX8_drift_34 : decode cX8_drift 34 = .ok (.goto (-12), 3) := by decide +kernel
theorem dX8_drift_37 : decode cX8_drift 37 = .ok (.aload_n 0, 1) := by decide +kernel
theorem dX8_drift_38 : decode cX8_drift 38 = .ok (.getfield 7, 3) := by decide +kernel
theorem dX8_drift_41 : decode cX8_drift 41 = .ok (.iconst 0, 1) := by decide +kernel
theorem dX8_drift_42 : decode cX8_drift 42 = .ok (.iaload, 1) := by decide +kernel
theorem dX8_drift_43 : decode cX8_drift 43 = .ok (.ireturn, 1) := by decide +kernel
set_option maxRecDepth 20000 in
theorem ggX8_undo_X8_in : GoodIn wsX8_undo wsX8_in := goodIn_r _ [11] (by decide +kernel) (by decide +kernel)
set_option maxRecDepth 20000 in
theorem gX8_undo_X8_in : GoodIn wsX8_undo (va_wsS RX8 70 yX8_in wsX8_in) := goodIn_app (goodIn_of _ (by decide +kernel)) ggX8_undo_X8_in
theorem dX8_undo_0 : decode cX8_undo 0 = .ok (.aload_n 0, 1) := by decide +kernel
theorem dX8_undo_1 : decode cX8_undo 1 = .ok (.iconst 0, 1) := by decide +kernel
theorem dX8_undo_2 : decode cX8_undo 2 = .ok (.putfield 48, 3) := by decide +kernel
theorem dX8_undo_5 : decode cX8_undo 5 = .ok (.iload_n 1, 1) := by decide +kernel
theorem dX8_undo_6 : decode cX8_undo 6 = .ok (.i2l, 1) := by decide +kernel
theorem dX8_undo_7 : decode cX8_undo 7 = .ok (.lconst 1, 1) := by decide +kernel
theorem dX8_undo_8 : decode cX8_undo 8 = .ok (.ldc2_w 145, 3) := by decide +kernel
theorem dX8_undo_11 : decode cX8_undo 11 = .ok (.invokestatic 70, 3) := by decide +kernel
theorem dX8_undo_14 : decode cX8_undo 14 = .ok (.ifCond .ne 6, 3) := by decide +kernel
theorem dX8_undo_17 : decode cX8_undo 17 = .ok (.ldc 74, 2) := by decide +kernel
theorem dX8_undo_19 : decode cX8_undo 19 = .ok (.ireturn, 1) := by decide +kernel
theorem dX8_undo_20 : decode cX8_undo 20 = .ok (.iload_n 1, 1) := by decide +kernel
theorem dX8_undo_21 : decode cX8_undo 21 = .ok (.aload_n 0, 1) := by decide +kernel
theorem dX8_undo_22 : decode cX8_undo 22 = .ok (.getfield 133, 3) := by decide +kernel
theorem dX8_undo_25 : decode cX8_undo 25 = .ok (.if_icmp .le 6, 3) := by decide +kernel
theorem dX8_undo_28 : decode cX8_undo 28 = .ok (.ldc 199, 2) := by decide +kernel
theorem dX8_undo_30 : decode cX8_undo 30 = .ok (.ireturn, 1) := by decide +kernel
theorem dX8_undo_31 : decode cX8_undo 31 = .ok (.aload_n 0, 1) := by decide +kernel
theorem dX8_undo_32 : decode cX8_undo 32 = .ok (.dup, 1) := by decide +kernel
theorem dX8_undo_33 : decode cX8_undo 33 = .ok (.getfield 133, 3) := by decide +kernel
theorem dX8_undo_36 : decode cX8_undo 36 = .ok (.iload_n 1, 1) := by decide +kernel
theorem dX8_undo_37 : decode cX8_undo 37 = .ok (.isub, 1) := by decide +kernel
theorem dX8_undo_38 : decode cX8_undo 38 = .ok (.putfield 133, 3) := by decide +kernel
theorem dX8_undo_41 : decode cX8_undo 41 = .ok (.iconst 0, 1) := by decide +kernel
theorem dX8_undo_42 : decode cX8_undo 42 = .ok (.istore_n 2, 1) := by decide +kernel
theorem dX8_undo_43 : decode cX8_undo 43 = .ok (.iload_n 2, 1) := by decide +kernel
theorem dX8_undo_44 : decode cX8_undo 44 = .ok (.sipush 508, 3) := by decide +kernel
theorem dX8_undo_47 : decode cX8_undo 47 = .ok (.if_icmp .ge 30, 3) := by decide +kernel
theorem dX8_undo_50 : decode cX8_undo 50 = .ok (.aload_n 0, 1) := by decide +kernel
theorem dX8_undo_51 : decode cX8_undo 51 = .ok (.getfield 7, 3) := by decide +kernel
theorem dX8_undo_54 : decode cX8_undo 54 = .ok (.iload_n 2, 1) := by decide +kernel
theorem dX8_undo_55 : decode cX8_undo 55 = .ok (.aload_n 0, 1) := by decide +kernel
theorem dX8_undo_56 : decode cX8_undo 56 = .ok (.getfield 19, 3) := by decide +kernel
theorem dX8_undo_59 : decode cX8_undo 59 = .ok (.sipush 508, 3) := by decide +kernel
theorem dX8_undo_62 : decode cX8_undo 62 = .ok (.aload_n 0, 1) := by decide +kernel
theorem dX8_undo_63 : decode cX8_undo 63 = .ok (.getfield 133, 3) := by decide +kernel
theorem dX8_undo_66 : decode cX8_undo 66 = .ok (.imul, 1) := by decide +kernel
theorem dX8_undo_67 : decode cX8_undo 67 = .ok (.iload_n 2, 1) := by decide +kernel
theorem dX8_undo_68 : decode cX8_undo 68 = .ok (.iadd, 1) := by decide +kernel
theorem dX8_undo_69 : decode cX8_undo 69 = .ok (.iaload, 1) := by decide +kernel
theorem dX8_undo_70 : decode cX8_undo 70 = .ok (.iastore, 1) := by decide +kernel
theorem dX8_undo_71 : decode cX8_undo 71 = .ok (.iinc 2 1, 3) := by decide +kernel
theorem dX8_undo_74 : decode cX8_undo 74 = .ok (.goto (-31), 3) := by decide +kernel
theorem dX8_undo_77 : decode cX8_undo 77 = .ok (.aload_n 0, 1) := by decide +kernel
theorem dX8_undo_78 : decode cX8_undo 78 = .ok (.getfield 7, 3) := by decide +kernel
theorem dX8_undo_81 : decode cX8_undo 81 = .ok (.iconst 1, 1) := by decide +kernel
theorem dX8_undo_82 : decode cX8_undo 82 = .ok (.iaload, 1) := by decide +kernel
theorem dX8_undo_83 : decode cX8_undo 83 = .ok (.ireturn, 1) := by decide +kernel
set_option maxRecDepth 20000 in
theorem ggX8_isBetter_X8_of : GoodIn wsX8_isBetter wsX8_of := goodIn_r _ [7, 8, 9, 10, 6, 11, 24, 25, 26, 27, 28, 29, 30, 31, 32, 33, 34, 35, 36, 37, 38, 39, 40] (by decide +kernel) (by decide +kernel)
set_option maxRecDepth 20000 in
theorem gX8_isBetter_X8_of : GoodIn wsX8_isBetter (wsV RX8 82 RX8 yX8_of wsX8_of) := goodIn_app (goodIn_of _ (by decide +kernel)) ggX8_isBetter_X8_of
set_option maxRecDepth 20000 in
theorem ggX8_isBetter_X8_lengthOf : GoodIn wsX8_isBetter wsX8_lengthOf := goodIn_r _ [15, 16, 17, 18, 6, 19, 3, 4, 5, 7, 8, 9, 10, 11, 20, 21, 22, 23, 24, 25, 26, 27, 28, 29, 30, 31, 32, 33, 34, 35, 36, 37, 38, 39, 40] (by decide +kernel) (by decide +kernel)
set_option maxRecDepth 20000 in
theorem gX8_isBetter_X8_lengthOf : GoodIn wsX8_isBetter (wsV RX8 170 RX8 yX8_lengthOf wsX8_lengthOf) := goodIn_app (goodIn_of _ (by decide +kernel)) ggX8_isBetter_X8_lengthOf
theorem dX8_isBetter_0 : decode cX8_isBetter 0 = .ok (.iload_n 1, 1) := by decide +kernel
theorem dX8_isBetter_1 : decode cX8_isBetter 1 = .ok (.iconst 1, 1) := by decide +kernel
theorem dX8_isBetter_2 : decode cX8_isBetter 2 = .ok (.if_icmp .ne 48, 3) := by decide +kernel
theorem dX8_isBetter_5 : decode cX8_isBetter 5 = .ok (.aload_n 0, 1) := by decide +kernel
theorem dX8_isBetter_6 : decode cX8_isBetter 6 = .ok (.iload_n 2, 1) := by decide +kernel
theorem dX8_isBetter_7 : decode cX8_isBetter 7 = .ok (.iconst 4, 1) := by decide +kernel
theorem dX8_isBetter_8 : decode cX8_isBetter 8 = .ok (.invokevirtual 82, 3) := by decide +kernel
theorem dX8_isBetter_11 : decode cX8_isBetter 11 = .ok (.iload 4, 2) := by decide +kernel
theorem dX8_isBetter_13 : decode cX8_isBetter 13 = .ok (.aload_n 0, 1) := by decide +kernel
theorem dX8_isBetter_14 : decode cX8_isBetter 14 = .ok (.getfield 42, 3) := by decide +kernel
theorem dX8_isBetter_17 : decode cX8_isBetter 17 = .ok (.iload_n 2, 1) := by decide +kernel
theorem dX8_isBetter_18 : decode cX8_isBetter 18 = .ok (.iaload, 1) := by decide +kernel
theorem dX8_isBetter_19 : decode cX8_isBetter 19 = .ok (.isub, 1) := by decide +kernel
theorem dX8_isBetter_20 : decode cX8_isBetter 20 = .ok (.iconst 1, 1) := by decide +kernel
theorem dX8_isBetter_21 : decode cX8_isBetter 21 = .ok (.iadd, 1) := by decide +kernel
theorem dX8_isBetter_22 : decode cX8_isBetter 22 = .ok (.imul, 1) := by decide +kernel
theorem dX8_isBetter_23 : decode cX8_isBetter 23 = .ok (.aload_n 0, 1) := by decide +kernel
theorem dX8_isBetter_24 : decode cX8_isBetter 24 = .ok (.iload_n 3, 1) := by decide +kernel
theorem dX8_isBetter_25 : decode cX8_isBetter 25 = .ok (.iconst 4, 1) := by decide +kernel
theorem dX8_isBetter_26 : decode cX8_isBetter 26 = .ok (.invokevirtual 82, 3) := by decide +kernel
theorem dX8_isBetter_29 : decode cX8_isBetter 29 = .ok (.iload 4, 2) := by decide +kernel
theorem dX8_isBetter_31 : decode cX8_isBetter 31 = .ok (.aload_n 0, 1) := by decide +kernel
theorem dX8_isBetter_32 : decode cX8_isBetter 32 = .ok (.getfield 42, 3) := by decide +kernel
theorem dX8_isBetter_35 : decode cX8_isBetter 35 = .ok (.iload_n 3, 1) := by decide +kernel
theorem dX8_isBetter_36 : decode cX8_isBetter 36 = .ok (.iaload, 1) := by decide +kernel
theorem dX8_isBetter_37 : decode cX8_isBetter 37 = .ok (.isub, 1) := by decide +kernel
theorem dX8_isBetter_38 : decode cX8_isBetter 38 = .ok (.iconst 1, 1) := by decide +kernel
theorem dX8_isBetter_39 : decode cX8_isBetter 39 = .ok (.iadd, 1) := by decide +kernel
theorem dX8_isBetter_40 : decode cX8_isBetter 40 = .ok (.imul, 1) := by decide +kernel
theorem dX8_isBetter_41 : decode cX8_isBetter 41 = .ok (.if_icmp .le 7, 3) := by decide +kernel
theorem dX8_isBetter_44 : decode cX8_isBetter 44 = .ok (.iconst 1, 1) := by decide +kernel
theorem dX8_isBetter_45 : decode cX8_isBetter 45 = .ok (.goto 4, 3) := by decide +kernel
theorem dX8_isBetter_48 : decode cX8_isBetter 48 = .ok (.iconst 0, 1) := by decide +kernel
theorem dX8_isBetter_49 : decode cX8_isBetter 49 = .ok (.ireturn, 1) := by decide +kernel
theorem dX8_isBetter_50 : decode cX8_isBetter 50 = .ok (.aload_n 0, 1) := by decide +kernel
theorem dX8_isBetter_51 : decode cX8_isBetter 51 = .ok (.getfield 39, 3) := by decide +kernel
theorem dX8_isBetter_54 : decode cX8_isBetter 54 = .ok (.iload_n 2, 1) := by decide +kernel
theorem dX8_isBetter_55 : decode cX8_isBetter 55 = .ok (.iaload, 1) := by decide +kernel
theorem dX8_isBetter_56 : decode cX8_isBetter 56 = .ok (.iconst 1, 1) := by decide +kernel
theorem dX8_isBetter_57 : decode cX8_isBetter 57 = .ok (.iadd, 1) := by decide +kernel
theorem dX8_isBetter_58 : decode cX8_isBetter 58 = .ok (.aload_n 0, 1) := by decide +kernel
theorem dX8_isBetter_59 : decode cX8_isBetter 59 = .ok (.iload_n 2, 1) := by decide +kernel
theorem dX8_isBetter_60 : decode cX8_isBetter 60 = .ok (.invokevirtual 170, 3) := by decide +kernel
theorem dX8_isBetter_63 : decode cX8_isBetter 63 = .ok (.imul, 1) := by decide +kernel
theorem dX8_isBetter_64 : decode cX8_isBetter 64 = .ok (.istore 5, 2) := by decide +kernel
theorem dX8_isBetter_66 : decode cX8_isBetter 66 = .ok (.aload_n 0, 1) := by decide +kernel
theorem dX8_isBetter_67 : decode cX8_isBetter 67 = .ok (.getfield 39, 3) := by decide +kernel
theorem dX8_isBetter_70 : decode cX8_isBetter 70 = .ok (.iload_n 3, 1) := by decide +kernel
theorem dX8_isBetter_71 : decode cX8_isBetter 71 = .ok (.iaload, 1) := by decide +kernel
theorem dX8_isBetter_72 : decode cX8_isBetter 72 = .ok (.iconst 1, 1) := by decide +kernel
theorem dX8_isBetter_73 : decode cX8_isBetter 73 = .ok (.iadd, 1) := by decide +kernel
theorem dX8_isBetter_74 : decode cX8_isBetter 74 = .ok (.aload_n 0, 1) := by decide +kernel
theorem dX8_isBetter_75 : decode cX8_isBetter 75 = .ok (.iload_n 3, 1) := by decide +kernel
theorem dX8_isBetter_76 : decode cX8_isBetter 76 = .ok (.invokevirtual 170, 3) := by decide +kernel
theorem dX8_isBetter_79 : decode cX8_isBetter 79 = .ok (.imul, 1) := by decide +kernel
theorem dX8_isBetter_80 : decode cX8_isBetter 80 = .ok (.istore 6, 2) := by decide +kernel
theorem dX8_isBetter_82 : decode cX8_isBetter 82 = .ok (.iload_n 1, 1) := by decide +kernel
theorem dX8_isBetter_83 : decode cX8_isBetter 83 = .ok (.iconst 2, 1) := by decide +kernel
theorem dX8_isBetter_84 : decode cX8_isBetter 84 = .ok (.if_icmp .ne 32, 3) := by decide +kernel
theorem dX8_isBetter_87 : decode cX8_isBetter 87 = .ok (.iload 5, 2) := by decide +kernel
theorem dX8_isBetter_89 : decode cX8_isBetter 89 = .ok (.aload_n 0, 1) := by decide +kernel
theorem dX8_isBetter_90 : decode cX8_isBetter 90 = .ok (.iload_n 3, 1) := by decide +kernel
theorem dX8_isBetter_91 : decode cX8_isBetter 91 = .ok (.iconst 4, 1) := by decide +kernel
theorem dX8_isBetter_92 : decode cX8_isBetter 92 = .ok (.invokevirtual 82, 3) := by decide +kernel
theorem dX8_isBetter_95 : decode cX8_isBetter 95 = .ok (.imul, 1) := by decide +kernel
theorem dX8_isBetter_96 : decode cX8_isBetter 96 = .ok (.iload 6, 2) := by decide +kernel
theorem dX8_isBetter_98 : decode cX8_isBetter 98 = .ok (.aload_n 0, 1) := by decide +kernel
theorem dX8_isBetter_99 : decode cX8_isBetter 99 = .ok (.iload_n 2, 1) := by decide +kernel
theorem dX8_isBetter_100 : decode cX8_isBetter 100 = .ok (.iconst 4, 1) := by decide +kernel
theorem dX8_isBetter_101 : decode cX8_isBetter 101 = .ok (.invokevirtual 82, 3) := by decide +kernel
theorem dX8_isBetter_104 : decode cX8_isBetter 104 = .ok (.imul, 1) := by decide +kernel
theorem dX8_isBetter_105 : decode cX8_isBetter 105 = .ok (.if_icmp .ge 7, 3) := by decide +kernel
theorem dX8_isBetter_108 : decode cX8_isBetter 108 = .ok (.iconst 1, 1) := by decide +kernel
theorem dX8_isBetter_109 : decode cX8_isBetter 109 = .ok (.goto 19, 3) := by decide +kernel
theorem dX8_isBetter_112 : decode cX8_isBetter 112 = .ok (.iconst 0, 1) := by decide +kernel
theorem dX8_isBetter_113 : decode cX8_isBetter 113 = .ok (.goto 15, 3) := by decide +kernel
theorem dX8_isBetter_116 : decode cX8_isBetter 116 = .ok (.iload 5, 2) := by decide +kernel
theorem dX8_isBetter_118 : decode cX8_isBetter 118 = .ok (.iload 6, 2) := by decide +kernel
theorem dX8_isBetter_120 : decode cX8_isBetter 120 = .ok (.if_icmp .ge 7, 3) := by decide +kernel
theorem dX8_isBetter_123 : decode cX8_isBetter 123 = .ok (.iconst 1, 1) := by decide +kernel
theorem dX8_isBetter_124 : decode cX8_isBetter 124 = .ok (.goto 4, 3) := by decide +kernel
theorem dX8_isBetter_127 : decode cX8_isBetter 127 = .ok (.iconst 0, 1) := by decide +kernel
theorem dX8_isBetter_128 : decode cX8_isBetter 128 = .ok (.ireturn, 1) := by decide +kernel
set_option maxRecDepth 20000 in
theorem ggX8_sends_X8_isBetter : GoodIn wsX8_sends wsX8_isBetter := goodIn_r _ [10, 2, 1, 11, 12, 13, 9, 14, 4, 15, 16, 17, 18, 19, 20, 21, 22, 23, 24, 25, 26, 27, 28, 29, 34, 35, 36, 37, 38, 39, 40, 41, 42, 43, 44, 45, 46, 47, 48, 49, 50] (by decide +kernel) (by decide +kernel)
set_option maxRecDepth 20000 in
theorem gX8_sends_X8_isBetter : GoodIn wsX8_sends (wsV RX8 200 RX8 yX8_isBetter wsX8_isBetter) := goodIn_app (goodIn_of _ (by decide +kernel)) ggX8_sends_X8_isBetter
set_option maxRecDepth 20000 in
theorem ggX8_sends_X8_lengthOf : GoodIn wsX8_sends wsX8_lengthOf := goodIn_r _ [21, 22, 23, 24, 9, 25, 11, 12, 13, 14, 4, 15, 16, 17, 26, 27, 28, 29, 34, 35, 36, 37, 38, 39, 40, 41, 42, 43, 44, 45, 46, 47, 48, 49, 50] (by decide +kernel) (by decide +kernel)
set_option maxRecDepth 20000 in
theorem gX8_sends_X8_lengthOf : GoodIn wsX8_sends (wsV RX8 170 RX8 yX8_lengthOf wsX8_lengthOf) := goodIn_app (goodIn_of _ (by decide +kernel)) ggX8_sends_X8_lengthOf
set_option maxRecDepth 20000 in
theorem ggX8_sends_X8_waited : GoodIn wsX8_sends wsX8_waited := goodIn_r _ [33, 3, 2, 34, 35, 36, 37, 38, 39, 40, 41, 42, 43, 44, 45, 46, 47, 48, 49, 50] (by decide +kernel) (by decide +kernel)
set_option maxRecDepth 20000 in
theorem gX8_sends_X8_waited : GoodIn wsX8_sends (wsV RX8 204 RX8 yX8_waited wsX8_waited) := goodIn_app (goodIn_of _ (by decide +kernel)) ggX8_sends_X8_waited
theorem dX8_sends_0 : decode cX8_sends 0 = .ok (.iconst 0, 1) := by decide +kernel
theorem dX8_sends_1 : decode cX8_sends 1 = .ok (.istore_n 3, 1) := by decide +kernel
theorem dX8_sends_2 : decode cX8_sends 2 = .ok (.iload_n 3, 1) := by decide +kernel
theorem dX8_sends_3 : decode cX8_sends 3 = .ok (.bipush 10, 2) := by decide +kernel
theorem dX8_sends_5 : decode cX8_sends 5 = .ok (.if_icmp .ge 30, 3) := by decide +kernel
theorem dX8_sends_8 : decode cX8_sends 8 = .ok (.aload_n 0, 1) := by decide +kernel
theorem dX8_sends_9 : decode cX8_sends 9 = .ok (.getfield 39, 3) := by decide +kernel
theorem dX8_sends_12 : decode cX8_sends 12 = .ok (.iload_n 3, 1) := by decide +kernel
theorem dX8_sends_13 : decode cX8_sends 13 = .ok (.iconst 0, 1) := by decide +kernel
theorem dX8_sends_14 : decode cX8_sends 14 = .ok (.iastore, 1) := by decide +kernel
theorem dX8_sends_15 : decode cX8_sends 15 = .ok (.aload_n 0, 1) := by decide +kernel
theorem dX8_sends_16 : decode cX8_sends 16 = .ok (.getfield 42, 3) := by decide +kernel
theorem dX8_sends_19 : decode cX8_sends 19 = .ok (.iload_n 3, 1) := by decide +kernel
theorem dX8_sends_20 : decode cX8_sends 20 = .ok (.iconst 0, 1) := by decide +kernel
theorem dX8_sends_21 : decode cX8_sends 21 = .ok (.iastore, 1) := by decide +kernel
theorem dX8_sends_22 : decode cX8_sends 22 = .ok (.aload_n 0, 1) := by decide +kernel
theorem dX8_sends_23 : decode cX8_sends 23 = .ok (.getfield 45, 3) := by decide +kernel
theorem dX8_sends_26 : decode cX8_sends 26 = .ok (.iload_n 3, 1) := by decide +kernel
theorem dX8_sends_27 : decode cX8_sends 27 = .ok (.iconst 0, 1) := by decide +kernel
theorem dX8_sends_28 : decode cX8_sends 28 = .ok (.iastore, 1) := by decide +kernel
theorem dX8_sends_29 : decode cX8_sends 29 = .ok (.iinc 3 1, 3) := by decide +kernel
theorem dX8_sends_32 : decode cX8_sends 32 = .ok (.goto (-30), 3) := by decide +kernel
theorem dX8_sends_35 : decode cX8_sends 35 = .ok (.iconst 0, 1) := by decide +kernel
theorem dX8_sends_36 : decode cX8_sends 36 = .ok (.istore_n 3, 1) := by decide +kernel
theorem dX8_sends_37 : decode cX8_sends 37 = .ok (.iconst 0, 1) := by decide +kernel
theorem dX8_sends_38 : decode cX8_sends 38 = .ok (.istore 4, 2) := by decide +kernel
theorem dX8_sends_40 : decode cX8_sends 40 = .ok (.iload 4, 2) := by decide +kernel
theorem dX8_sends_42 : decode cX8_sends 42 = .ok (.iload_n 2, 1) := by decide +kernel
theorem dX8_sends_43 : decode cX8_sends 43 = .ok (.if_icmp .ge 118, 3) := by decide +kernel
theorem dX8_sends_46 : decode cX8_sends 46 = .ok (.iload_n 1, 1) := by decide +kernel
theorem dX8_sends_47 : decode cX8_sends 47 = .ok (.ifCond .ne 15, 3) := by decide +kernel
theorem dX8_sends_50 : decode cX8_sends 50 = .ok (.iload 4, 2) := by decide +kernel
theorem dX8_sends_52 : decode cX8_sends 52 = .ok (.aload_n 0, 1) := by decide +kernel
theorem dX8_sends_53 : decode cX8_sends 53 = .ok (.getfield 7, 3) := by decide +kernel
theorem dX8_sends_56 : decode cX8_sends 56 = .ok (.iconst 0, 1) := by decide +kernel
theorem dX8_sends_57 : decode cX8_sends 57 = .ok (.iaload, 1) := by decide +kernel
theorem dX8_sends_58 : decode cX8_sends 58 = .ok (.irem, 1) := by decide +kernel
theorem dX8_sends_59 : decode cX8_sends 59 = .ok (.goto 4, 3) := by decide +kernel
theorem dX8_sends_62 : decode cX8_sends 62 = .ok (.iconst 0, 1) := by decide +kernel
theorem dX8_sends_63 : decode cX8_sends 63 = .ok (.istore 5, 2) := by decide +kernel
theorem dX8_sends_65 : decode cX8_sends 65 = .ok (.iconst 1, 1) := by decide +kernel
theorem dX8_sends_66 : decode cX8_sends 66 = .ok (.istore 6, 2) := by decide +kernel
theorem dX8_sends_68 : decode cX8_sends 68 = .ok (.iload 6, 2) := by decide +kernel
theorem dX8_sends_70 : decode cX8_sends 70 = .ok (.aload_n 0, 1) := by decide +kernel
theorem dX8_sends_71 : decode cX8_sends 71 = .ok (.getfield 7, 3) := by decide +kernel
theorem dX8_sends_74 : decode cX8_sends 74 = .ok (.iconst 0, 1) := by decide +kernel
theorem dX8_sends_75 : decode cX8_sends 75 = .ok (.iaload, 1) := by decide +kernel
theorem dX8_sends_76 : decode cX8_sends 76 = .ok (.if_icmp .ge 35, 3) := by decide +kernel
theorem dX8_sends_79 : decode cX8_sends 79 = .ok (.iload_n 1, 1) := by decide +kernel
theorem dX8_sends_80 : decode cX8_sends 80 = .ok (.ifCond .le 31, 3) := by decide +kernel
theorem dX8_sends_83 : decode cX8_sends 83 = .ok (.aload_n 0, 1) := by decide +kernel
theorem dX8_sends_84 : decode cX8_sends 84 = .ok (.iload_n 1, 1) := by decide +kernel
theorem dX8_sends_85 : decode cX8_sends 85 = .ok (.iload 6, 2) := by decide +kernel
theorem dX8_sends_87 : decode cX8_sends 87 = .ok (.iload 5, 2) := by decide +kernel
theorem dX8_sends_89 : decode cX8_sends 89 = .ok (.iload_n 3, 1) := by decide +kernel
theorem dX8_sends_90 : decode cX8_sends 90 = .ok (.invokevirtual 200, 3) := by decide +kernel
theorem dX8_sends_93 : decode cX8_sends 93 = .ok (.ifCond .eq 8, 3) := by decide +kernel
theorem dX8_sends_96 : decode cX8_sends 96 = .ok (.iload 6, 2) := by decide +kernel
theorem dX8_sends_98 : decode cX8_sends 98 = .ok (.goto 5, 3) := by decide +kernel
theorem dX8_sends_101 : decode cX8_sends 101 = .ok (.iload 5, 2) := by decide +kernel
theorem dX8_sends_103 : decode cX8_sends 103 = .ok (.istore 5, 2) := by decide +kernel
theorem dX8_sends_105 : decode cX8_sends 105 = .ok (.iinc 6 1, 3) := by decide +kernel
theorem dX8_sends_108 : decode cX8_sends 108 = .ok (.goto (-40), 3) := by decide +kernel
theorem dX8_sends_111 : decode cX8_sends 111 = .ok (.aload_n 0, 1) := by decide +kernel
theorem dX8_sends_112 : decode cX8_sends 112 = .ok (.getfield 36, 3) := by decide +kernel
theorem dX8_sends_115 : decode cX8_sends 115 = .ok (.iload 4, 2) := by decide +kernel
theorem dX8_sends_117 : decode cX8_sends 117 = .ok (.iload 5, 2) := by decide +kernel
theorem dX8_sends_119 : decode cX8_sends 119 = .ok (.iastore, 1) := by decide +kernel
theorem dX8_sends_120 : decode cX8_sends 120 = .ok (.iload_n 3, 1) := by decide +kernel
theorem dX8_sends_121 : decode cX8_sends 121 = .ok (.aload_n 0, 1) := by decide +kernel
theorem dX8_sends_122 : decode cX8_sends 122 = .ok (.iload 5, 2) := by decide +kernel
theorem dX8_sends_124 : decode cX8_sends 124 = .ok (.invokevirtual 170, 3) := by decide +kernel
theorem dX8_sends_127 : decode cX8_sends 127 = .ok (.iadd, 1) := by decide +kernel
theorem dX8_sends_128 : decode cX8_sends 128 = .ok (.istore_n 3, 1) := by decide +kernel
theorem dX8_sends_129 : decode cX8_sends 129 = .ok (.aload_n 0, 1) := by decide +kernel
theorem dX8_sends_130 : decode cX8_sends 130 = .ok (.iload 5, 2) := by decide +kernel
theorem dX8_sends_132 : decode cX8_sends 132 = .ok (.iload_n 3, 1) := by decide +kernel
theorem dX8_sends_133 : decode cX8_sends 133 = .ok (.invokevirtual 204, 3) := by decide +kernel
theorem dX8_sends_136 : decode cX8_sends 136 = .ok (.aload_n 0, 1) := by decide +kernel
theorem dX8_sends_137 : decode cX8_sends 137 = .ok (.getfield 42, 3) := by decide +kernel
theorem dX8_sends_140 : decode cX8_sends 140 = .ok (.iload 5, 2) := by decide +kernel
theorem dX8_sends_142 : decode cX8_sends 142 = .ok (.iload_n 3, 1) := by decide +kernel
theorem dX8_sends_143 : decode cX8_sends 143 = .ok (.iastore, 1) := by decide +kernel
theorem dX8_sends_144 : decode cX8_sends 144 = .ok (.aload_n 0, 1) := by decide +kernel
theorem dX8_sends_145 : decode cX8_sends 145 = .ok (.getfield 39, 3) := by decide +kernel
theorem dX8_sends_148 : decode cX8_sends 148 = .ok (.iload 5, 2) := by decide +kernel
theorem dX8_sends_150 : decode cX8_sends 150 = .ok (.dup2, 1) := by decide +kernel
theorem dX8_sends_151 : decode cX8_sends 151 = .ok (.iaload, 1) := by decide +kernel
theorem dX8_sends_152 : decode cX8_sends 152 = .ok (.iconst 1, 1) := by decide +kernel
theorem dX8_sends_153 : decode cX8_sends 153 = .ok (.iadd, 1) := by decide +kernel
theorem dX8_sends_154 : decode cX8_sends 154 = .ok (.iastore, 1) := by decide +kernel
theorem dX8_sends_155 : decode cX8_sends 155 = .ok (.iinc 4 1, 3) := by decide +kernel
theorem dX8_sends_158 : decode cX8_sends 158 = .ok (.goto (-118), 3) := by decide +kernel
theorem dX8_sends_161 : decode cX8_sends 161 = .ok (.iconst 0, 1) := by decide +kernel
theorem dX8_sends_162 : decode cX8_sends 162 = .ok (.istore 4, 2) := by decide +kernel
theorem dX8_sends_164 : decode cX8_sends 164 = .ok (.iload 4, 2) := by decide +kernel
theorem dX8_sends_166 : decode cX8_sends 166 = .ok (.aload_n 0, 1) := by decide +kernel
theorem dX8_sends_167 : decode cX8_sends 167 = .ok (.getfield 7, 3) := by decide +kernel
theorem dX8_sends_170 : decode cX8_sends 170 = .ok (.iconst 0, 1) := by decide +kernel
theorem dX8_sends_171 : decode cX8_sends 171 = .ok (.iaload, 1) := by decide +kernel
theorem dX8_sends_172 : decode cX8_sends 172 = .ok (.if_icmp .ge 16, 3) := by decide +kernel
theorem dX8_sends_175 : decode cX8_sends 175 = .ok (.aload_n 0, 1) := by decide +kernel
theorem dX8_sends_176 : decode cX8_sends 176 = .ok (.iload 4, 2) := by decide +kernel
theorem dX8_sends_178 : decode cX8_sends 178 = .ok (.iload_n 3, 1) := by decide +kernel
theorem dX8_sends_179 : decode cX8_sends 179 = .ok (.invokevirtual 204, 3) := by decide +kernel
theorem dX8_sends_182 : decode cX8_sends 182 = .ok (.iinc 4 1, 3) := by decide +kernel
theorem dX8_sends_185 : decode cX8_sends 185 = .ok (.goto (-21), 3) := by decide +kernel
theorem dX8_sends_188 : decode cX8_sends 188 = .ok (.return_, 1) := by decide +kernel
theorem dX8_waited_0 : decode cX8_waited 0 = .ok (.aload_n 0, 1) := by decide +kernel
theorem dX8_waited_1 : decode cX8_waited 1 = .ok (.getfield 45, 3) := by decide +kernel
theorem dX8_waited_4 : decode cX8_waited 4 = .ok (.iload_n 1, 1) := by decide +kernel
theorem dX8_waited_5 : decode cX8_waited 5 = .ok (.iload_n 2, 1) := by decide +kernel
theorem dX8_waited_6 : decode cX8_waited 6 = .ok (.aload_n 0, 1) := by decide +kernel
theorem dX8_waited_7 : decode cX8_waited 7 = .ok (.getfield 42, 3) := by decide +kernel
theorem dX8_waited_10 : decode cX8_waited 10 = .ok (.iload_n 1, 1) := by decide +kernel
theorem dX8_waited_11 : decode cX8_waited 11 = .ok (.iaload, 1) := by decide +kernel
theorem dX8_waited_12 : decode cX8_waited 12 = .ok (.isub, 1) := by decide +kernel
theorem dX8_waited_13 : decode cX8_waited 13 = .ok (.aload_n 0, 1) := by decide +kernel
theorem dX8_waited_14 : decode cX8_waited 14 = .ok (.getfield 45, 3) := by decide +kernel
theorem dX8_waited_17 : decode cX8_waited 17 = .ok (.iload_n 1, 1) := by decide +kernel
theorem dX8_waited_18 : decode cX8_waited 18 = .ok (.iaload, 1) := by decide +kernel
theorem dX8_waited_19 : decode cX8_waited 19 = .ok (.if_icmp .le 14, 3) := by decide +kernel
theorem dX8_waited_22 : decode cX8_waited 22 = .ok (.iload_n 2, 1) := by decide +kernel
theorem dX8_waited_23 : decode cX8_waited 23 = .ok (.aload_n 0, 1) := by decide +kernel
theorem dX8_waited_24 : decode cX8_waited 24 = .ok (.getfield 42, 3) := by decide +kernel
theorem dX8_waited_27 : decode cX8_waited 27 = .ok (.iload_n 1, 1) := by decide +kernel
theorem dX8_waited_28 : decode cX8_waited 28 = .ok (.iaload, 1) := by decide +kernel
theorem dX8_waited_29 : decode cX8_waited 29 = .ok (.isub, 1) := by decide +kernel
theorem dX8_waited_30 : decode cX8_waited 30 = .ok (.goto 9, 3) := by decide +kernel
theorem dX8_waited_33 : decode cX8_waited 33 = .ok (.aload_n 0, 1) := by decide +kernel
theorem dX8_waited_34 : decode cX8_waited 34 = .ok (.getfield 45, 3) := by decide +kernel
theorem dX8_waited_37 : decode cX8_waited 37 = .ok (.iload_n 1, 1) := by decide +kernel
theorem dX8_waited_38 : decode cX8_waited 38 = .ok (.iaload, 1) := by decide +kernel
theorem dX8_waited_39 : decode cX8_waited 39 = .ok (.iastore, 1) := by decide +kernel
theorem dX8_waited_40 : decode cX8_waited 40 = .ok (.return_, 1) := by decide +kernel
set_option maxRecDepth 20000 in
theorem ggX8_sent_X8_in : GoodIn wsX8_sent wsX8_in := goodIn_r _ [10] (by decide +kernel) (by decide +kernel)
set_option maxRecDepth 20000 in
theorem gX8_sent_X8_in : GoodIn wsX8_sent (va_wsS RX8 70 yX8_in wsX8_in) := goodIn_app (goodIn_of _ (by decide +kernel)) ggX8_sent_X8_in
set_option maxRecDepth 20000 in
theorem ggX8_sent_X8_sends : GoodIn wsX8_sent wsX8_sends := goodIn_r _ [14, 15, 16, 17, 5, 6, 18, 19, 20, 9, 21, 22, 23, 24, 25, 26, 27, 28, 29, 30, 31, 32, 33, 34, 35, 36, 37, 38, 39, 40, 41, 42, 43, 44, 45, 46, 47, 48, 49, 50, 51, 52, 53, 54, 55, 56, 57, 58, 59, 60, 61] (by decide +kernel) (by decide +kernel)
set_option maxRecDepth 20000 in
theorem gX8_sent_X8_sends : GoodIn wsX8_sent (wsV RX8 209 RX8 yX8_sends wsX8_sends) := goodIn_app (goodIn_of _ (by decide +kernel)) ggX8_sent_X8_sends
theorem dX8_sent_0 : decode cX8_sent 0 = .ok (.aload_n 0, 1) := by decide +kernel
theorem dX8_sent_1 : decode cX8_sent 1 = .ok (.iconst 0, 1) := by decide +kernel
theorem dX8_sent_2 : decode cX8_sent 2 = .ok (.putfield 48, 3) := by decide +kernel
theorem dX8_sent_5 : decode cX8_sent 5 = .ok (.iload_n 1, 1) := by decide +kernel
theorem dX8_sent_6 : decode cX8_sent 6 = .ok (.i2l, 1) := by decide +kernel
theorem dX8_sent_7 : decode cX8_sent 7 = .ok (.lconst 0, 1) := by decide +kernel
theorem dX8_sent_8 : decode cX8_sent 8 = .ok (.ldc2_w 115, 3) := by decide +kernel
theorem dX8_sent_11 : decode cX8_sent 11 = .ok (.invokestatic 70, 3) := by decide +kernel
theorem dX8_sent_14 : decode cX8_sent 14 = .ok (.ifCond .eq 15, 3) := by decide +kernel
theorem dX8_sent_17 : decode cX8_sent 17 = .ok (.iload_n 2, 1) := by decide +kernel
theorem dX8_sent_18 : decode cX8_sent 18 = .ok (.i2l, 1) := by decide +kernel
theorem dX8_sent_19 : decode cX8_sent 19 = .ok (.lconst 0, 1) := by decide +kernel
theorem dX8_sent_20 : decode cX8_sent 20 = .ok (.ldc2_w 207, 3) := by decide +kernel
theorem dX8_sent_23 : decode cX8_sent 23 = .ok (.invokestatic 70, 3) := by decide +kernel
theorem dX8_sent_26 : decode cX8_sent 26 = .ok (.ifCond .ne 6, 3) := by decide +kernel
theorem dX8_sent_29 : decode cX8_sent 29 = .ok (.ldc 74, 2) := by decide +kernel
theorem dX8_sent_31 : decode cX8_sent 31 = .ok (.ireturn, 1) := by decide +kernel
theorem dX8_sent_32 : decode cX8_sent 32 = .ok (.aload_n 0, 1) := by decide +kernel
theorem dX8_sent_33 : decode cX8_sent 33 = .ok (.getfield 7, 3) := by decide +kernel
theorem dX8_sent_36 : decode cX8_sent 36 = .ok (.iconst 0, 1) := by decide +kernel
theorem dX8_sent_37 : decode cX8_sent 37 = .ok (.iaload, 1) := by decide +kernel
theorem dX8_sent_38 : decode cX8_sent 38 = .ok (.ifCond .ne 5, 3) := by decide +kernel
theorem dX8_sent_41 : decode cX8_sent 41 = .ok (.iconst (-1), 1) := by decide +kernel
theorem dX8_sent_42 : decode cX8_sent 42 = .ok (.ireturn, 1) := by decide +kernel
theorem dX8_sent_43 : decode cX8_sent 43 = .ok (.aload_n 0, 1) := by decide +kernel
theorem dX8_sent_44 : decode cX8_sent 44 = .ok (.iload_n 1, 1) := by decide +kernel
theorem dX8_sent_45 : decode cX8_sent 45 = .ok (.iload_n 2, 1) := by decide +kernel
theorem dX8_sent_46 : decode cX8_sent 46 = .ok (.iconst 1, 1) := by decide +kernel
theorem dX8_sent_47 : decode cX8_sent 47 = .ok (.iadd, 1) := by decide +kernel
theorem dX8_sent_48 : decode cX8_sent 48 = .ok (.invokevirtual 209, 3) := by decide +kernel
theorem dX8_sent_51 : decode cX8_sent 51 = .ok (.aload_n 0, 1) := by decide +kernel
theorem dX8_sent_52 : decode cX8_sent 52 = .ok (.getfield 36, 3) := by decide +kernel
theorem dX8_sent_55 : decode cX8_sent 55 = .ok (.iload_n 2, 1) := by decide +kernel
theorem dX8_sent_56 : decode cX8_sent 56 = .ok (.iaload, 1) := by decide +kernel
theorem dX8_sent_57 : decode cX8_sent 57 = .ok (.ireturn, 1) := by decide +kernel
set_option maxRecDepth 20000 in
theorem ggX8_waits_X8_isPage : GoodIn wsX8_waits wsX8_isPage := goodIn_r _ [11, 12, 13, 14, 10, 15, 50, 51, 52, 53, 54, 55, 56, 57, 58, 59, 60, 61, 62, 63, 64, 65, 66] (by decide +kernel) (by decide +kernel)
set_option maxRecDepth 20000 in
theorem gX8_waits_X8_isPage : GoodIn wsX8_waits (wsV RX8 165 RX8 yX8_isPage wsX8_isPage) := goodIn_app (goodIn_of _ (by decide +kernel)) ggX8_waits_X8_isPage
set_option maxRecDepth 20000 in
theorem ggX8_waits_X8_in : GoodIn wsX8_waits wsX8_in := goodIn_r _ [15] (by decide +kernel) (by decide +kernel)
set_option maxRecDepth 20000 in
theorem gX8_waits_X8_in : GoodIn wsX8_waits (va_wsS RX8 70 yX8_in wsX8_in) := goodIn_app (goodIn_of _ (by decide +kernel)) ggX8_waits_X8_in
set_option maxRecDepth 20000 in
theorem ggX8_waits_X8_sends : GoodIn wsX8_waits wsX8_sends := goodIn_r _ [19, 20, 21, 6, 12, 22, 23, 24, 25, 10, 26, 27, 28, 29, 30, 31, 32, 33, 34, 35, 36, 37, 38, 39, 40, 41, 42, 43, 44, 45, 46, 47, 48, 49, 50, 51, 52, 53, 54, 55, 56, 57, 58, 59, 60, 61, 62, 63, 64, 65, 66] (by decide +kernel) (by decide +kernel)
set_option maxRecDepth 20000 in
theorem gX8_waits_X8_sends : GoodIn wsX8_waits (wsV RX8 209 RX8 yX8_sends wsX8_sends) := goodIn_app (goodIn_of _ (by decide +kernel)) ggX8_waits_X8_sends
theorem dX8_waits_0 : decode cX8_waits 0 = .ok (.aload_n 0, 1) := by decide +kernel
theorem dX8_waits_1 : decode cX8_waits 1 = .ok (.iconst 0, 1) := by decide +kernel
theorem dX8_waits_2 : decode cX8_waits 2 = .ok (.putfield 48, 3) := by decide +kernel
theorem dX8_waits_5 : decode cX8_waits 5 = .ok (.aload_n 0, 1) := by decide +kernel
theorem dX8_waits_6 : decode cX8_waits 6 = .ok (.iload_n 1, 1) := by decide +kernel
theorem dX8_waits_7 : decode cX8_waits 7 = .ok (.invokevirtual 165, 3) := by decide +kernel
theorem dX8_waits_10 : decode cX8_waits 10 = .ok (.ifCond .ne 6, 3) := by decide +kernel
theorem dX8_waits_13 : decode cX8_waits 13 = .ok (.ldc 156, 2) := by decide +kernel
theorem dX8_waits_15 : decode cX8_waits 15 = .ok (.ireturn, 1) := by decide +kernel
theorem dX8_waits_16 : decode cX8_waits 16 = .ok (.iload_n 2, 1) := by decide +kernel
theorem dX8_waits_17 : decode cX8_waits 17 = .ok (.i2l, 1) := by decide +kernel
theorem dX8_waits_18 : decode cX8_waits 18 = .ok (.lconst 0, 1) := by decide +kernel
theorem dX8_waits_19 : decode cX8_waits 19 = .ok (.ldc2_w 115, 3) := by decide +kernel
theorem dX8_waits_22 : decode cX8_waits 22 = .ok (.invokestatic 70, 3) := by decide +kernel
theorem dX8_waits_25 : decode cX8_waits 25 = .ok (.ifCond .eq 15, 3) := by decide +kernel
theorem dX8_waits_28 : decode cX8_waits 28 = .ok (.iload_n 3, 1) := by decide +kernel
theorem dX8_waits_29 : decode cX8_waits 29 = .ok (.i2l, 1) := by decide +kernel
theorem dX8_waits_30 : decode cX8_waits 30 = .ok (.lconst 1, 1) := by decide +kernel
theorem dX8_waits_31 : decode cX8_waits 31 = .ok (.ldc2_w 212, 3) := by decide +kernel
theorem dX8_waits_34 : decode cX8_waits 34 = .ok (.invokestatic 70, 3) := by decide +kernel
theorem dX8_waits_37 : decode cX8_waits 37 = .ok (.ifCond .ne 6, 3) := by decide +kernel
theorem dX8_waits_40 : decode cX8_waits 40 = .ok (.ldc 74, 2) := by decide +kernel
theorem dX8_waits_42 : decode cX8_waits 42 = .ok (.ireturn, 1) := by decide +kernel
theorem dX8_waits_43 : decode cX8_waits 43 = .ok (.aload_n 0, 1) := by decide +kernel
theorem dX8_waits_44 : decode cX8_waits 44 = .ok (.iload_n 2, 1) := by decide +kernel
theorem dX8_waits_45 : decode cX8_waits 45 = .ok (.iload_n 3, 1) := by decide +kernel
theorem dX8_waits_46 : decode cX8_waits 46 = .ok (.invokevirtual 209, 3) := by decide +kernel
theorem dX8_waits_49 : decode cX8_waits 49 = .ok (.aload_n 0, 1) := by decide +kernel
theorem dX8_waits_50 : decode cX8_waits 50 = .ok (.getfield 45, 3) := by decide +kernel
theorem dX8_waits_53 : decode cX8_waits 53 = .ok (.iload_n 1, 1) := by decide +kernel
theorem dX8_waits_54 : decode cX8_waits 54 = .ok (.iaload, 1) := by decide +kernel
theorem dX8_waits_55 : decode cX8_waits 55 = .ok (.ireturn, 1) := by decide +kernel
set_option maxRecDepth 20000 in
theorem ggX8_worstBy_X8_sends : GoodIn wsX8_worstBy wsX8_sends := goodIn_r _ [7, 8, 9, 2, 1, 10, 11, 12, 13, 6, 14, 15, 16, 17, 18, 19, 20, 21, 22, 23, 24, 25, 26, 27, 28, 29, 30, 31, 32, 33, 34, 35, 36, 37, 38, 39, 40, 41, 42, 43, 44, 45, 46, 47, 48, 49, 50, 51, 52, 53, 54] (by decide +kernel) (by decide +kernel)
set_option maxRecDepth 20000 in
theorem gX8_worstBy_X8_sends : GoodIn wsX8_worstBy (wsV RX8 209 RX8 yX8_sends wsX8_sends) := goodIn_app (goodIn_of _ (by decide +kernel)) ggX8_worstBy_X8_sends
set_option maxRecDepth 20000 in
theorem ggX8_worstBy_X8_of : GoodIn wsX8_worstBy wsX8_of := goodIn_r _ [18, 1, 19, 20, 6, 21, 38, 39, 40, 41, 42, 43, 44, 45, 46, 47, 48, 49, 50, 51, 52, 53, 54] (by decide +kernel) (by decide +kernel)
set_option maxRecDepth 20000 in
theorem gX8_worstBy_X8_of : GoodIn wsX8_worstBy (wsV RX8 82 RX8 yX8_of wsX8_of) := goodIn_app (goodIn_of _ (by decide +kernel)) ggX8_worstBy_X8_of
theorem dX8_worstBy_0 : decode cX8_worstBy 0 = .ok (.aload_n 0, 1) := by decide +kernel
theorem dX8_worstBy_1 : decode cX8_worstBy 1 = .ok (.iload_n 1, 1) := by decide +kernel
theorem dX8_worstBy_2 : decode cX8_worstBy 2 = .ok (.iload_n 2, 1) := by decide +kernel
theorem dX8_worstBy_3 : decode cX8_worstBy 3 = .ok (.invokevirtual 209, 3) := by decide +kernel
theorem dX8_worstBy_6 : decode cX8_worstBy 6 = .ok (.iconst 0, 1) := by decide +kernel
theorem dX8_worstBy_7 : decode cX8_worstBy 7 = .ok (.istore_n 3, 1) := by decide +kernel
theorem dX8_worstBy_8 : decode cX8_worstBy 8 = .ok (.iconst 0, 1) := by decide +kernel
theorem dX8_worstBy_9 : decode cX8_worstBy 9 = .ok (.istore 4, 2) := by decide +kernel
theorem dX8_worstBy_11 : decode cX8_worstBy 11 = .ok (.iload 4, 2) := by decide +kernel
theorem dX8_worstBy_13 : decode cX8_worstBy 13 = .ok (.aload_n 0, 1) := by decide +kernel
theorem dX8_worstBy_14 : decode cX8_worstBy 14 = .ok (.getfield 7, 3) := by decide +kernel
theorem dX8_worstBy_17 : decode cX8_worstBy 17 = .ok (.iconst 0, 1) := by decide +kernel
theorem dX8_worstBy_18 : decode cX8_worstBy 18 = .ok (.iaload, 1) := by decide +kernel
theorem dX8_worstBy_19 : decode cX8_worstBy 19 = .ok (.if_icmp .ge 39, 3) := by decide +kernel
theorem dX8_worstBy_22 : decode cX8_worstBy 22 = .ok (.aload_n 0, 1) := by decide +kernel
theorem dX8_worstBy_23 : decode cX8_worstBy 23 = .ok (.iload 4, 2) := by decide +kernel
theorem dX8_worstBy_25 : decode cX8_worstBy 25 = .ok (.iconst 4, 1) := by decide +kernel
theorem dX8_worstBy_26 : decode cX8_worstBy 26 = .ok (.invokevirtual 82, 3) := by decide +kernel
theorem dX8_worstBy_29 : decode cX8_worstBy 29 = .ok (.aload_n 0, 1) := by decide +kernel
theorem dX8_worstBy_30 : decode cX8_worstBy 30 = .ok (.getfield 45, 3) := by decide +kernel
theorem dX8_worstBy_33 : decode cX8_worstBy 33 = .ok (.iload 4, 2) := by decide +kernel
theorem dX8_worstBy_35 : decode cX8_worstBy 35 = .ok (.iaload, 1) := by decide +kernel
theorem dX8_worstBy_36 : decode cX8_worstBy 36 = .ok (.imul, 1) := by decide +kernel
theorem dX8_worstBy_37 : decode cX8_worstBy 37 = .ok (.istore 5, 2) := by decide +kernel
theorem dX8_worstBy_39 : decode cX8_worstBy 39 = .ok (.iload 5, 2) := by decide +kernel
theorem dX8_worstBy_41 : decode cX8_worstBy 41 = .ok (.iload_n 3, 1) := by decide +kernel
theorem dX8_worstBy_42 : decode cX8_worstBy 42 = .ok (.if_icmp .le 8, 3) := by decide +kernel
theorem dX8_worstBy_45 : decode cX8_worstBy 45 = .ok (.iload 5, 2) := by decide +kernel
theorem dX8_worstBy_47 : decode cX8_worstBy 47 = .ok (.goto 4, 3) := by decide +kernel
theorem dX8_worstBy_50 : decode cX8_worstBy 50 = .ok (.iload_n 3, 1) := by decide +kernel
theorem dX8_worstBy_51 : decode cX8_worstBy 51 = .ok (.istore_n 3, 1) := by decide +kernel
theorem dX8_worstBy_52 : decode cX8_worstBy 52 = .ok (.iinc 4 1, 3) := by decide +kernel
theorem dX8_worstBy_55 : decode cX8_worstBy 55 = .ok (.goto (-44), 3) := by decide +kernel
theorem dX8_worstBy_58 : decode cX8_worstBy 58 = .ok (.iload_n 3, 1) := by decide +kernel
theorem dX8_worstBy_59 : decode cX8_worstBy 59 = .ok (.ireturn, 1) := by decide +kernel
set_option maxRecDepth 20000 in
theorem ggX8_bestRule_X8_in : GoodIn wsX8_bestRule wsX8_in := goodIn_r _ [8] (by decide +kernel) (by decide +kernel)
set_option maxRecDepth 20000 in
theorem gX8_bestRule_X8_in : GoodIn wsX8_bestRule (va_wsS RX8 70 yX8_in wsX8_in) := goodIn_app (goodIn_of _ (by decide +kernel)) ggX8_bestRule_X8_in
set_option maxRecDepth 20000 in
theorem ggX8_bestRule_X8_worstBy : GoodIn wsX8_bestRule wsX8_worstBy := goodIn_r _ [12, 4, 13, 14, 15, 16, 7, 17, 18, 19, 20, 21, 22, 23, 24, 25, 26, 27, 28, 29, 30, 31, 32, 33, 34, 35, 36, 37, 38, 39, 40, 41, 42, 43, 44, 45, 46, 47, 48, 49, 50, 51, 52, 53, 54, 55, 56, 57, 58, 59, 60, 61, 62, 63, 64] (by decide +kernel) (by decide +kernel)
set_option maxRecDepth 20000 in
theorem gX8_bestRule_X8_worstBy : GoodIn wsX8_bestRule (wsV RX8 214 RX8 yX8_worstBy wsX8_worstBy) := goodIn_app (goodIn_of _ (by decide +kernel)) ggX8_bestRule_X8_worstBy
theorem dX8_bestRule_0 : decode cX8_bestRule 0 = .ok (.aload_n 0, 1) := by decide +kernel
theorem dX8_bestRule_1 : decode cX8_bestRule 1 = .ok (.iconst 0, 1) := by decide +kernel
theorem dX8_bestRule_2 : decode cX8_bestRule 2 = .ok (.putfield 48, 3) := by decide +kernel
theorem dX8_bestRule_5 : decode cX8_bestRule 5 = .ok (.iload_n 1, 1) := by decide +kernel
theorem dX8_bestRule_6 : decode cX8_bestRule 6 = .ok (.i2l, 1) := by decide +kernel
theorem dX8_bestRule_7 : decode cX8_bestRule 7 = .ok (.lconst 1, 1) := by decide +kernel
theorem dX8_bestRule_8 : decode cX8_bestRule 8 = .ok (.ldc2_w 212, 3) := by decide +kernel
theorem dX8_bestRule_11 : decode cX8_bestRule 11 = .ok (.invokestatic 70, 3) := by decide +kernel
theorem dX8_bestRule_14 : decode cX8_bestRule 14 = .ok (.ifCond .ne 6, 3) := by decide +kernel
theorem dX8_bestRule_17 : decode cX8_bestRule 17 = .ok (.ldc 74, 2) := by decide +kernel
theorem dX8_bestRule_19 : decode cX8_bestRule 19 = .ok (.ireturn, 1) := by decide +kernel
theorem dX8_bestRule_20 : decode cX8_bestRule 20 = .ok (.aload_n 0, 1) := by decide +kernel
theorem dX8_bestRule_21 : decode cX8_bestRule 21 = .ok (.getfield 7, 3) := by decide +kernel
theorem dX8_bestRule_24 : decode cX8_bestRule 24 = .ok (.iconst 0, 1) := by decide +kernel
theorem dX8_bestRule_25 : decode cX8_bestRule 25 = .ok (.iaload, 1) := by decide +kernel
theorem dX8_bestRule_26 : decode cX8_bestRule 26 = .ok (.ifCond .ne 5, 3) := by decide +kernel
theorem dX8_bestRule_29 : decode cX8_bestRule 29 = .ok (.iconst (-1), 1) := by decide +kernel
theorem dX8_bestRule_30 : decode cX8_bestRule 30 = .ok (.ireturn, 1) := by decide +kernel
theorem dX8_bestRule_31 : decode cX8_bestRule 31 = .ok (.iconst 3, 1) := by decide +kernel
theorem dX8_bestRule_32 : decode cX8_bestRule 32 = .ok (.istore_n 2, 1) := by decide +kernel
theorem dX8_bestRule_33 : decode cX8_bestRule 33 = .ok (.iconst 2, 1) := by decide +kernel
theorem dX8_bestRule_34 : decode cX8_bestRule 34 = .ok (.istore_n 3, 1) := by decide +kernel
theorem dX8_bestRule_35 : decode cX8_bestRule 35 = .ok (.iload_n 3, 1) := by decide +kernel
theorem dX8_bestRule_36 : decode cX8_bestRule 36 = .ok (.ifCond .lt 30, 3) := by decide +kernel
theorem dX8_bestRule_39 : decode cX8_bestRule 39 = .ok (.aload_n 0, 1) := by decide +kernel
theorem dX8_bestRule_40 : decode cX8_bestRule 40 = .ok (.iload_n 3, 1) := by decide +kernel
theorem dX8_bestRule_41 : decode cX8_bestRule 41 = .ok (.iload_n 1, 1) := by decide +kernel
theorem dX8_bestRule_42 : decode cX8_bestRule 42 = .ok (.invokevirtual 214, 3) := by decide +kernel
theorem dX8_bestRule_45 : decode cX8_bestRule 45 = .ok (.aload_n 0, 1) := by decide +kernel
theorem dX8_bestRule_46 : decode cX8_bestRule 46 = .ok (.iload_n 2, 1) := by decide +kernel
theorem dX8_bestRule_47 : decode cX8_bestRule 47 = .ok (.iload_n 1, 1) := by decide +kernel
theorem dX8_bestRule_48 : decode cX8_bestRule 48 = .ok (.invokevirtual 214, 3) := by decide +kernel
theorem dX8_bestRule_51 : decode cX8_bestRule 51 = .ok (.if_icmp .gt 7, 3) := by decide +kernel
theorem dX8_bestRule_54 : decode cX8_bestRule 54 = .ok (.iload_n 3, 1) := by decide +kernel
theorem dX8_bestRule_55 : decode cX8_bestRule 55 = .ok (.goto 4, 3) := by decide +kernel
theorem dX8_bestRule_58 : decode cX8_bestRule 58 = .ok (.iload_n 2, 1) := by decide +kernel
theorem dX8_bestRule_59 : decode cX8_bestRule 59 = .ok (.istore_n 2, 1) := by decide +kernel
theorem dX8_bestRule_60 : decode cX8_bestRule 60 = .ok (.iinc 3 (-1), 3) := by decide +kernel
theorem dX8_bestRule_63 : decode cX8_bestRule 63 = .ok (.goto (-28), 3) := by decide +kernel
theorem dX8_bestRule_66 : decode cX8_bestRule 66 = .ok (.iload_n 2, 1) := by decide +kernel
theorem dX8_bestRule_67 : decode cX8_bestRule 67 = .ok (.ireturn, 1) := by decide +kernel
set_option maxRecDepth 20000 in
theorem ggX8_wrong_X8_isPage : GoodIn wsX8_wrong wsX8_isPage := goodIn_r _ [7, 8, 9, 10, 6, 11, 19, 20, 21, 22, 23, 24, 25, 26, 27, 28, 29, 30, 31, 32, 33, 34, 35] (by decide +kernel) (by decide +kernel)
set_option maxRecDepth 20000 in
theorem gX8_wrong_X8_isPage : GoodIn wsX8_wrong (wsV RX8 165 RX8 yX8_isPage wsX8_isPage) := goodIn_app (goodIn_of _ (by decide +kernel)) ggX8_wrong_X8_isPage
set_option maxRecDepth 20000 in
theorem ggX8_wrong_X8_of : GoodIn wsX8_wrong wsX8_of := goodIn_r _ [15, 8, 16, 17, 6, 18, 19, 20, 21, 22, 23, 24, 25, 26, 27, 28, 29, 30, 31, 32, 33, 34, 35] (by decide +kernel) (by decide +kernel)
set_option maxRecDepth 20000 in
theorem gX8_wrong_X8_of : GoodIn wsX8_wrong (wsV RX8 82 RX8 yX8_of wsX8_of) := goodIn_app (goodIn_of _ (by decide +kernel)) ggX8_wrong_X8_of
theorem dX8_wrong_0 : decode cX8_wrong 0 = .ok (.iconst 0, 1) := by decide +kernel
theorem dX8_wrong_1 : decode cX8_wrong 1 = .ok (.istore_n 1, 1) := by decide +kernel
theorem dX8_wrong_2 : decode cX8_wrong 2 = .ok (.iload_n 1, 1) := by decide +kernel
theorem dX8_wrong_3 : decode cX8_wrong 3 = .ok (.aload_n 0, 1) := by decide +kernel
theorem dX8_wrong_4 : decode cX8_wrong 4 = .ok (.getfield 150, 3) := by decide +kernel
theorem dX8_wrong_7 : decode cX8_wrong 7 = .ok (.if_icmp .ge 87, 3) := by decide +kernel
theorem dX8_wrong_10 : decode cX8_wrong 10 = .ok (.aload_n 0, 1) := by decide +kernel
theorem dX8_wrong_11 : decode cX8_wrong 11 = .ok (.getfield 33, 3) := by decide +kernel
theorem dX8_wrong_14 : decode cX8_wrong 14 = .ok (.iconst 4, 1) := by decide +kernel
theorem dX8_wrong_15 : decode cX8_wrong 15 = .ok (.iload_n 1, 1) := by decide +kernel
theorem dX8_wrong_16 : decode cX8_wrong 16 = .ok (.imul, 1) := by decide +kernel
theorem dX8_wrong_17 : decode cX8_wrong 17 = .ok (.iaload, 1) := by decide +kernel
theorem dX8_wrong_18 : decode cX8_wrong 18 = .ok (.istore_n 2, 1) := by decide +kernel
theorem dX8_wrong_19 : decode cX8_wrong 19 = .ok (.aload_n 0, 1) := by decide +kernel
theorem dX8_wrong_20 : decode cX8_wrong 20 = .ok (.iload_n 2, 1) := by decide +kernel
theorem dX8_wrong_21 : decode cX8_wrong 21 = .ok (.invokevirtual 165, 3) := by decide +kernel
theorem dX8_wrong_24 : decode cX8_wrong 24 = .ok (.ifCond .eq 38, 3) := by decide +kernel
theorem dX8_wrong_27 : decode cX8_wrong 27 = .ok (.aload_n 0, 1) := by decide +kernel
theorem dX8_wrong_28 : decode cX8_wrong 28 = .ok (.iload_n 2, 1) := by decide +kernel
theorem dX8_wrong_29 : decode cX8_wrong 29 = .ok (.bipush 10, 2) := by decide +kernel
theorem dX8_wrong_31 : decode cX8_wrong 31 = .ok (.bipush 8, 2) := by decide +kernel
theorem dX8_wrong_33 : decode cX8_wrong 33 = .ok (.aload_n 0, 1) := by decide +kernel
theorem dX8_wrong_34 : decode cX8_wrong 34 = .ok (.getfield 33, 3) := by decide +kernel
theorem dX8_wrong_37 : decode cX8_wrong 37 = .ok (.iconst 4, 1) := by decide +kernel
theorem dX8_wrong_38 : decode cX8_wrong 38 = .ok (.iload_n 1, 1) := by decide +kernel
theorem dX8_wrong_39 : decode cX8_wrong 39 = .ok (.imul, 1) := by decide +kernel
theorem dX8_wrong_40 : decode cX8_wrong 40 = .ok (.iconst 1, 1) := by decide +kernel
theorem dX8_wrong_41 : decode cX8_wrong 41 = .ok (.iadd, 1) := by decide +kernel
theorem dX8_wrong_42 : decode cX8_wrong 42 = .ok (.iaload, 1) := by decide +kernel
theorem dX8_wrong_43 : decode cX8_wrong 43 = .ok (.imul, 1) := by decide +kernel
theorem dX8_wrong_44 : decode cX8_wrong 44 = .ok (.iadd, 1) := by decide +kernel
theorem dX8_wrong_45 : decode cX8_wrong 45 = .ok (.aload_n 0, 1) := by decide +kernel
theorem dX8_wrong_46 : decode cX8_wrong 46 = .ok (.getfield 33, 3) := by decide +kernel
theorem dX8_wrong_49 : decode cX8_wrong 49 = .ok (.iconst 4, 1) := by decide +kernel
theorem dX8_wrong_50 : decode cX8_wrong 50 = .ok (.iload_n 1, 1) := by decide +kernel
theorem dX8_wrong_51 : decode cX8_wrong 51 = .ok (.imul, 1) := by decide +kernel
theorem dX8_wrong_52 : decode cX8_wrong 52 = .ok (.iconst 2, 1) := by decide +kernel
theorem dX8_wrong_53 : decode cX8_wrong 53 = .ok (.iadd, 1) := by decide +kernel
theorem dX8_wrong_54 : decode cX8_wrong 54 = .ok (.iaload, 1) := by decide +kernel
theorem dX8_wrong_55 : decode cX8_wrong 55 = .ok (.iadd, 1) := by decide +kernel
theorem dX8_wrong_56 : decode cX8_wrong 56 = .ok (.invokevirtual 82, 3) := by decide +kernel
theorem dX8_wrong_59 : decode cX8_wrong 59 = .ok (.goto 4, 3) := by decide +kernel
theorem dX8_wrong_62 : decode cX8_wrong 62 = .ok (.iconst (-1), 1) := by decide +kernel
theorem dX8_wrong_63 : decode cX8_wrong 63 = .ok (.istore_n 3, 1) := by decide +kernel
theorem dX8_wrong_64 : decode cX8_wrong 64 = .ok (.iload_n 3, 1) := by decide +kernel
theorem dX8_wrong_65 : decode cX8_wrong 65 = .ok (.iconst (-1), 1) := by decide +kernel
theorem dX8_wrong_66 : decode cX8_wrong 66 = .ok (.if_icmp .eq 20, 3) := by decide +kernel
theorem dX8_wrong_69 : decode cX8_wrong 69 = .ok (.iload_n 3, 1) := by decide +kernel
theorem dX8_wrong_70 : decode cX8_wrong 70 = .ok (.bipush 127, 2) := by decide +kernel
theorem dX8_wrong_72 : decode cX8_wrong 72 = .ok (.iand, 1) := by decide +kernel
theorem dX8_wrong_73 : decode cX8_wrong 73 = .ok (.aload_n 0, 1) := by decide +kernel
theorem dX8_wrong_74 : decode cX8_wrong 74 = .ok (.getfield 33, 3) := by decide +kernel
theorem dX8_wrong_77 : decode cX8_wrong 77 = .ok (.iconst 4, 1) := by decide +kernel
theorem dX8_wrong_78 : decode cX8_wrong 78 = .ok (.iload_n 1, 1) := by decide +kernel
theorem dX8_wrong_79 : decode cX8_wrong 79 = .ok (.imul, 1) := by decide +kernel
theorem dX8_wrong_80 : decode cX8_wrong 80 = .ok (.iconst 3, 1) := by decide +kernel
theorem dX8_wrong_81 : decode cX8_wrong 81 = .ok (.iadd, 1) := by decide +kernel
theorem dX8_wrong_82 : decode cX8_wrong 82 = .ok (.iaload, 1) := by decide +kernel
theorem dX8_wrong_83 : decode cX8_wrong 83 = .ok (.if_icmp .eq 5, 3) := by decide +kernel
theorem dX8_wrong_86 : decode cX8_wrong 86 = .ok (.iload_n 1, 1) := by decide +kernel
theorem dX8_wrong_87 : decode cX8_wrong 87 = .ok (.ireturn, 1) := by decide +kernel
theorem dX8_wrong_88 : decode cX8_wrong 88 = .ok (.iinc 1 1, 3) := by decide +kernel
theorem dX8_wrong_91 : decode cX8_wrong 91 = .ok (.goto (-89), 3) := by decide +kernel
theorem dX8_wrong_94 : decode cX8_wrong 94 = .ok (.iconst (-1), 1) := by decide +kernel
theorem dX8_wrong_95 : decode cX8_wrong 95 = .ok (.ireturn, 1) := by decide +kernel
set_option maxRecDepth 20000 in
theorem ggX8_write_X8_isPage : GoodIn wsX8_write wsX8_isPage := goodIn_r _ [14, 15, 16, 17, 13, 18, 19, 20, 21, 22, 23, 24, 25, 26, 27, 28, 29, 30, 31, 32, 33, 34, 35] (by decide +kernel) (by decide +kernel)
set_option maxRecDepth 20000 in
theorem gX8_write_X8_isPage : GoodIn wsX8_write (wsV RX8 165 RX8 yX8_isPage wsX8_isPage) := goodIn_app (goodIn_of _ (by decide +kernel)) ggX8_write_X8_isPage
set_option maxRecDepth 20000 in
theorem ggX8_write_X8_in : GoodIn wsX8_write wsX8_in := goodIn_r _ [18] (by decide +kernel) (by decide +kernel)
set_option maxRecDepth 20000 in
theorem gX8_write_X8_in : GoodIn wsX8_write (va_wsS RX8 70 yX8_in wsX8_in) := goodIn_app (goodIn_of _ (by decide +kernel)) ggX8_write_X8_in
theorem dX8_write_0 : decode cX8_write 0 = .ok (.aload_n 0, 1) := by decide +kernel
theorem dX8_write_1 : decode cX8_write 1 = .ok (.iconst 0, 1) := by decide +kernel
theorem dX8_write_2 : decode cX8_write 2 = .ok (.putfield 48, 3) := by decide +kernel
theorem dX8_write_5 : decode cX8_write 5 = .ok (.aload_n 0, 1) := by decide +kernel
theorem dX8_write_6 : decode cX8_write 6 = .ok (.iload_n 1, 1) := by decide +kernel
theorem dX8_write_7 : decode cX8_write 7 = .ok (.invokevirtual 165, 3) := by decide +kernel
theorem dX8_write_10 : decode cX8_write 10 = .ok (.ifCond .ne 6, 3) := by decide +kernel
theorem dX8_write_13 : decode cX8_write 13 = .ok (.ldc 156, 2) := by decide +kernel
theorem dX8_write_15 : decode cX8_write 15 = .ok (.ireturn, 1) := by decide +kernel
theorem dX8_write_16 : decode cX8_write 16 = .ok (.iload_n 2, 1) := by decide +kernel
theorem dX8_write_17 : decode cX8_write 17 = .ok (.i2l, 1) := by decide +kernel
theorem dX8_write_18 : decode cX8_write 18 = .ok (.lconst 0, 1) := by decide +kernel
theorem dX8_write_19 : decode cX8_write 19 = .ok (.ldc2_w 179, 3) := by decide +kernel
theorem dX8_write_22 : decode cX8_write 22 = .ok (.invokestatic 70, 3) := by decide +kernel
theorem dX8_write_25 : decode cX8_write 25 = .ok (.ifCond .eq 28, 3) := by decide +kernel
theorem dX8_write_28 : decode cX8_write 28 = .ok (.iload_n 3, 1) := by decide +kernel
theorem dX8_write_29 : decode cX8_write 29 = .ok (.i2l, 1) := by decide +kernel
theorem dX8_write_30 : decode cX8_write 30 = .ok (.lconst 0, 1) := by decide +kernel
theorem dX8_write_31 : decode cX8_write 31 = .ok (.ldc2_w 102, 3) := by decide +kernel
theorem dX8_write_34 : decode cX8_write 34 = .ok (.invokestatic 70, 3) := by decide +kernel
theorem dX8_write_37 : decode cX8_write 37 = .ok (.ifCond .eq 16, 3) := by decide +kernel
theorem dX8_write_40 : decode cX8_write 40 = .ok (.iload 4, 2) := by decide +kernel
theorem dX8_write_42 : decode cX8_write 42 = .ok (.i2l, 1) := by decide +kernel
theorem dX8_write_43 : decode cX8_write 43 = .ok (.lconst 0, 1) := by decide +kernel
theorem dX8_write_44 : decode cX8_write 44 = .ok (.ldc2_w 163, 3) := by decide +kernel
theorem dX8_write_47 : decode cX8_write 47 = .ok (.invokestatic 70, 3) := by decide +kernel
theorem dX8_write_50 : decode cX8_write 50 = .ok (.ifCond .ne 6, 3) := by decide +kernel
theorem dX8_write_53 : decode cX8_write 53 = .ok (.ldc 74, 2) := by decide +kernel
theorem dX8_write_55 : decode cX8_write 55 = .ok (.ireturn, 1) := by decide +kernel
theorem dX8_write_56 : decode cX8_write 56 = .ok (.aload_n 0, 1) := by decide +kernel
theorem dX8_write_57 : decode cX8_write 57 = .ok (.getfield 150, 3) := by decide +kernel
theorem dX8_write_60 : decode cX8_write 60 = .ok (.bipush 20, 2) := by decide +kernel
theorem dX8_write_62 : decode cX8_write 62 = .ok (.if_icmp .ne 6, 3) := by decide +kernel
theorem dX8_write_65 : decode cX8_write 65 = .ok (.ldc 217, 2) := by decide +kernel
theorem dX8_write_67 : decode cX8_write 67 = .ok (.ireturn, 1) := by decide +kernel
theorem dX8_write_68 : decode cX8_write 68 = .ok (.aload_n 0, 1) := by decide +kernel
theorem dX8_write_69 : decode cX8_write 69 = .ok (.getfield 33, 3) := by decide +kernel
theorem dX8_write_72 : decode cX8_write 72 = .ok (.iconst 4, 1) := by decide +kernel
theorem dX8_write_73 : decode cX8_write 73 = .ok (.aload_n 0, 1) := by decide +kernel
theorem dX8_write_74 : decode cX8_write 74 = .ok (.getfield 150, 3) := by decide +kernel
theorem dX8_write_77 : decode cX8_write 77 = .ok (.imul, 1) := by decide +kernel
theorem dX8_write_78 : decode cX8_write 78 = .ok (.iload_n 1, 1) := by decide +kernel
theorem dX8_write_79 : decode cX8_write 79 = .ok (.iastore, 1) := by decide +kernel
theorem dX8_write_80 : decode cX8_write 80 = .ok (.aload_n 0, 1) := by decide +kernel
theorem dX8_write_81 : decode cX8_write 81 = .ok (.getfield 33, 3) := by decide +kernel
theorem dX8_write_84 : decode cX8_write 84 = .ok (.iconst 4, 1) := by decide +kernel
theorem dX8_write_85 : decode cX8_write 85 = .ok (.aload_n 0, 1) := by decide +kernel
theorem dX8_write_86 : decode cX8_write 86 = .ok (.getfield 150, 3) := by decide +kernel
theorem dX8_write_89 : decode cX8_write 89 = .ok (.imul, 1) := by decide +kernel
theorem dX8_write_90 : decode cX8_write 90 = .ok (.iconst 1, 1) := by decide +kernel
theorem dX8_write_91 : decode cX8_write 91 = .ok (.iadd, 1) := by decide +kernel
theorem dX8_write_92 : decode cX8_write 92 = .ok (.iload_n 2, 1) := by decide +kernel
theorem dX8_write_93 : decode cX8_write 93 = .ok (.iastore, 1) := by decide +kernel
theorem dX8_write_94 : decode cX8_write 94 = .ok (.aload_n 0, 1) := by decide +kernel
theorem dX8_write_95 : decode cX8_write 95 = .ok (.getfield 33, 3) := by decide +kernel
theorem dX8_write_98 : decode cX8_write 98 = .ok (.iconst 4, 1) := by decide +kernel
theorem dX8_write_99 : decode cX8_write 99 = .ok (.aload_n 0, 1) := by decide +kernel
theorem dX8_write_100 : decode cX8_write 100 = .ok (.getfield 150, 3) := by decide +kernel
theorem dX8_write_103 : decode cX8_write 103 = .ok (.imul, 1) := by decide +kernel
theorem dX8_write_104 : decode cX8_write 104 = .ok (.iconst 2, 1) := by decide +kernel
theorem dX8_write_105 : decode cX8_write 105 = .ok (.iadd, 1) := by decide +kernel
theorem dX8_write_106 : decode cX8_write 106 = .ok (.iload_n 3, 1) := by decide +kernel
theorem dX8_write_107 : decode cX8_write 107 = .ok (.iastore, 1) := by decide +kernel
theorem dX8_write_108 : decode cX8_write 108 = .ok (.aload_n 0, 1) := by decide +kernel
theorem dX8_write_109 : decode cX8_write 109 = .ok (.getfield 33, 3) := by decide +kernel
theorem dX8_write_112 : decode cX8_write 112 = .ok (.iconst 4, 1) := by decide +kernel
theorem dX8_write_113 : decode cX8_write 113 = .ok (.aload_n 0, 1) := by decide +kernel
theorem dX8_write_114 : decode cX8_write 114 = .ok (.getfield 150, 3) := by decide +kernel
theorem dX8_write_117 : decode cX8_write 117 = .ok (.imul, 1) := by decide +kernel
theorem dX8_write_118 : decode cX8_write 118 = .ok (.iconst 3, 1) := by decide +kernel
theorem dX8_write_119 : decode cX8_write 119 = .ok (.iadd, 1) := by decide +kernel
theorem dX8_write_120 : decode cX8_write 120 = .ok (.iload 4, 2) := by decide +kernel
theorem dX8_write_122 : decode cX8_write 122 = .ok (.iastore, 1) := by decide +kernel
theorem dX8_write_123 : decode cX8_write 123 = .ok (.aload_n 0, 1) := by decide +kernel
theorem dX8_write_124 : decode cX8_write 124 = .ok (.dup, 1) := by decide +kernel
theorem dX8_write_125 : decode cX8_write 125 = .ok (.getfield 150, 3) := by decide +kernel
theorem dX8_write_128 : decode cX8_write 128 = .ok (.iconst 1, 1) := by decide +kernel
theorem dX8_write_129 : decode cX8_write 129 = .ok (.iadd, 1) := by decide +kernel
theorem dX8_write_130 : decode cX8_write 130 = .ok (.putfield 150, 3) := by decide +kernel
theorem dX8_write_133 : decode cX8_write 133 = .ok (.aload_n 0, 1) := by decide +kernel
theorem dX8_write_134 : decode cX8_write 134 = .ok (.getfield 150, 3) := by decide +kernel
theorem dX8_write_137 : decode cX8_write 137 = .ok (.ireturn, 1) := by decide +kernel
theorem dX8_tear_0 : decode cX8_tear 0 = .ok (.aload_n 0, 1) := by decide +kernel
theorem dX8_tear_1 : decode cX8_tear 1 = .ok (.iconst 0, 1) := by decide +kernel
theorem dX8_tear_2 : decode cX8_tear 2 = .ok (.putfield 48, 3) := by decide +kernel
theorem dX8_tear_5 : decode cX8_tear 5 = .ok (.aload_n 0, 1) := by decide +kernel
theorem dX8_tear_6 : decode cX8_tear 6 = .ok (.getfield 150, 3) := by decide +kernel
theorem dX8_tear_9 : decode cX8_tear 9 = .ok (.istore_n 1, 1) := by decide +kernel
theorem dX8_tear_10 : decode cX8_tear 10 = .ok (.aload_n 0, 1) := by decide +kernel
theorem dX8_tear_11 : decode cX8_tear 11 = .ok (.iconst 0, 1) := by decide +kernel
theorem dX8_tear_12 : decode cX8_tear 12 = .ok (.putfield 150, 3) := by decide +kernel
theorem dX8_tear_15 : decode cX8_tear 15 = .ok (.iload_n 1, 1) := by decide +kernel
theorem dX8_tear_16 : decode cX8_tear 16 = .ok (.ireturn, 1) := by decide +kernel
theorem dX8_seed_0 : decode cX8_seed 0 = .ok (.aload_n 0, 1) := by decide +kernel
theorem dX8_seed_1 : decode cX8_seed 1 = .ok (.iconst 0, 1) := by decide +kernel
theorem dX8_seed_2 : decode cX8_seed 2 = .ok (.putfield 48, 3) := by decide +kernel
theorem dX8_seed_5 : decode cX8_seed 5 = .ok (.iload_n 1, 1) := by decide +kernel
theorem dX8_seed_6 : decode cX8_seed 6 = .ok (.ifCond .ge 6, 3) := by decide +kernel
theorem dX8_seed_9 : decode cX8_seed 9 = .ok (.ldc 74, 2) := by decide +kernel
theorem dX8_seed_11 : decode cX8_seed 11 = .ok (.ireturn, 1) := by decide +kernel
theorem dX8_seed_12 : decode cX8_seed 12 = .ok (.aload_n 0, 1) := by decide +kernel
theorem dX8_seed_13 : decode cX8_seed 13 = .ok (.getfield 181, 3) := by decide +kernel
theorem dX8_seed_16 : decode cX8_seed 16 = .ok (.l2i, 1) := by decide +kernel
theorem dX8_seed_17 : decode cX8_seed 17 = .ok (.istore_n 2, 1) := by decide +kernel
theorem dX8_seed_18 : decode cX8_seed 18 = .ok (.aload_n 0, 1) := by decide +kernel
theorem dX8_seed_19 : decode cX8_seed 19 = .ok (.iload_n 1, 1) := by decide +kernel
theorem dX8_seed_20 : decode cX8_seed 20 = .ok (.i2l, 1) := by decide +kernel
theorem dX8_seed_21 : decode cX8_seed 21 = .ok (.putfield 181, 3) := by decide +kernel
theorem dX8_seed_24 : decode cX8_seed 24 = .ok (.iload_n 2, 1) := by decide +kernel
theorem dX8_seed_25 : decode cX8_seed 25 = .ok (.ireturn, 1) := by decide +kernel
set_option maxRecDepth 20000 in
theorem ggX8_keep_X8_in : GoodIn wsX8_keep wsX8_in := goodIn_r _ [12] (by decide +kernel) (by decide +kernel)
set_option maxRecDepth 20000 in
theorem gX8_keep_X8_in : GoodIn wsX8_keep (va_wsS RX8 70 yX8_in wsX8_in) := goodIn_app (goodIn_of _ (by decide +kernel)) ggX8_keep_X8_in
theorem dX8_keep_0 : decode cX8_keep 0 = .ok (.aload_n 0, 1) := by decide +kernel
theorem dX8_keep_1 : decode cX8_keep 1 = .ok (.iconst 0, 1) := by decide +kernel
theorem dX8_keep_2 : decode cX8_keep 2 = .ok (.putfield 48, 3) := by decide +kernel
theorem dX8_keep_5 : decode cX8_keep 5 = .ok (.iload_n 1, 1) := by decide +kernel
theorem dX8_keep_6 : decode cX8_keep 6 = .ok (.i2l, 1) := by decide +kernel
theorem dX8_keep_7 : decode cX8_keep 7 = .ok (.lconst 0, 1) := by decide +kernel
theorem dX8_keep_8 : decode cX8_keep 8 = .ok (.lconst 1, 1) := by decide +kernel
theorem dX8_keep_9 : decode cX8_keep 9 = .ok (.invokestatic 70, 3) := by decide +kernel
theorem dX8_keep_12 : decode cX8_keep 12 = .ok (.ifCond .ne 6, 3) := by decide +kernel
theorem dX8_keep_15 : decode cX8_keep 15 = .ok (.ldc 156, 2) := by decide +kernel
theorem dX8_keep_17 : decode cX8_keep 17 = .ok (.ireturn, 1) := by decide +kernel
theorem dX8_keep_18 : decode cX8_keep 18 = .ok (.iconst 0, 1) := by decide +kernel
theorem dX8_keep_19 : decode cX8_keep 19 = .ok (.istore_n 2, 1) := by decide +kernel
theorem dX8_keep_20 : decode cX8_keep 20 = .ok (.iload_n 2, 1) := by decide +kernel
theorem dX8_keep_21 : decode cX8_keep 21 = .ok (.sipush 508, 3) := by decide +kernel
theorem dX8_keep_24 : decode cX8_keep 24 = .ok (.if_icmp .ge 27, 3) := by decide +kernel
theorem dX8_keep_27 : decode cX8_keep 27 = .ok (.aload_n 0, 1) := by decide +kernel
theorem dX8_keep_28 : decode cX8_keep 28 = .ok (.getfield 22, 3) := by decide +kernel
theorem dX8_keep_31 : decode cX8_keep 31 = .ok (.sipush 508, 3) := by decide +kernel
theorem dX8_keep_34 : decode cX8_keep 34 = .ok (.iload_n 1, 1) := by decide +kernel
theorem dX8_keep_35 : decode cX8_keep 35 = .ok (.imul, 1) := by decide +kernel
theorem dX8_keep_36 : decode cX8_keep 36 = .ok (.iload_n 2, 1) := by decide +kernel
theorem dX8_keep_37 : decode cX8_keep 37 = .ok (.iadd, 1) := by decide +kernel
theorem dX8_keep_38 : decode cX8_keep 38 = .ok (.aload_n 0, 1) := by decide +kernel
theorem dX8_keep_39 : decode cX8_keep 39 = .ok (.getfield 7, 3) := by decide +kernel
theorem dX8_keep_42 : decode cX8_keep 42 = .ok (.iload_n 2, 1) := by decide +kernel
theorem dX8_keep_43 : decode cX8_keep 43 = .ok (.iaload, 1) := by decide +kernel
theorem dX8_keep_44 : decode cX8_keep 44 = .ok (.iastore, 1) := by decide +kernel
theorem dX8_keep_45 : decode cX8_keep 45 = .ok (.iinc 2 1, 3) := by decide +kernel
theorem dX8_keep_48 : decode cX8_keep 48 = .ok (.goto (-28), 3) := by decide +kernel
theorem dX8_keep_51 : decode cX8_keep 51 = .ok (.aload_n 0, 1) := by decide +kernel
theorem dX8_keep_52 : decode cX8_keep 52 = .ok (.getfield 25, 3) := by decide +kernel
theorem dX8_keep_55 : decode cX8_keep 55 = .ok (.iload_n 1, 1) := by decide +kernel
theorem dX8_keep_56 : decode cX8_keep 56 = .ok (.aload_n 0, 1) := by decide +kernel
theorem dX8_keep_57 : decode cX8_keep 57 = .ok (.getfield 181, 3) := by decide +kernel
theorem dX8_keep_60 : decode cX8_keep 60 = .ok (.lastore, 1) := by decide +kernel
theorem dX8_keep_61 : decode cX8_keep 61 = .ok (.aload_n 0, 1) := by decide +kernel
theorem dX8_keep_62 : decode cX8_keep 62 = .ok (.getfield 29, 3) := by decide +kernel
theorem dX8_keep_65 : decode cX8_keep 65 = .ok (.iload_n 1, 1) := by decide +kernel
theorem dX8_keep_66 : decode cX8_keep 66 = .ok (.iconst 1, 1) := by decide +kernel
theorem dX8_keep_67 : decode cX8_keep 67 = .ok (.bastore, 1) := by decide +kernel
theorem dX8_keep_68 : decode cX8_keep 68 = .ok (.aload_n 0, 1) := by decide +kernel
theorem dX8_keep_69 : decode cX8_keep 69 = .ok (.iconst 0, 1) := by decide +kernel
theorem dX8_keep_70 : decode cX8_keep 70 = .ok (.putfield 133, 3) := by decide +kernel
theorem dX8_keep_73 : decode cX8_keep 73 = .ok (.iconst 1, 1) := by decide +kernel
theorem dX8_keep_74 : decode cX8_keep 74 = .ok (.ireturn, 1) := by decide +kernel
set_option maxRecDepth 20000 in
theorem ggX8_goBack_X8_in : GoodIn wsX8_goBack wsX8_in := goodIn_r _ [13] (by decide +kernel) (by decide +kernel)
set_option maxRecDepth 20000 in
theorem gX8_goBack_X8_in : GoodIn wsX8_goBack (va_wsS RX8 70 yX8_in wsX8_in) := goodIn_app (goodIn_of _ (by decide +kernel)) ggX8_goBack_X8_in
theorem dX8_goBack_0 : decode cX8_goBack 0 = .ok (.aload_n 0, 1) := by decide +kernel
theorem dX8_goBack_1 : decode cX8_goBack 1 = .ok (.iconst 0, 1) := by decide +kernel
theorem dX8_goBack_2 : decode cX8_goBack 2 = .ok (.putfield 48, 3) := by decide +kernel
theorem dX8_goBack_5 : decode cX8_goBack 5 = .ok (.iload_n 1, 1) := by decide +kernel
theorem dX8_goBack_6 : decode cX8_goBack 6 = .ok (.i2l, 1) := by decide +kernel
theorem dX8_goBack_7 : decode cX8_goBack 7 = .ok (.lconst 0, 1) := by decide +kernel
theorem dX8_goBack_8 : decode cX8_goBack 8 = .ok (.lconst 1, 1) := by decide +kernel
theorem dX8_goBack_9 : decode cX8_goBack 9 = .ok (.invokestatic 70, 3) := by decide +kernel
theorem dX8_goBack_12 : decode cX8_goBack 12 = .ok (.ifCond .ne 6, 3) := by decide +kernel
theorem dX8_goBack_15 : decode cX8_goBack 15 = .ok (.ldc 156, 2) := by decide +kernel
theorem dX8_goBack_17 : decode cX8_goBack 17 = .ok (.ireturn, 1) := by decide +kernel
theorem dX8_goBack_18 : decode cX8_goBack 18 = .ok (.aload_n 0, 1) := by decide +kernel
theorem dX8_goBack_19 : decode cX8_goBack 19 = .ok (.getfield 29, 3) := by decide +kernel
theorem dX8_goBack_22 : decode cX8_goBack 22 = .ok (.iload_n 1, 1) := by decide +kernel
theorem dX8_goBack_23 : decode cX8_goBack 23 = .ok (.baload, 1) := by decide +kernel
theorem dX8_goBack_24 : decode cX8_goBack 24 = .ok (.ifCond .ne 6, 3) := by decide +kernel
theorem dX8_goBack_27 : decode cX8_goBack 27 = .ok (.ldc 199, 2) := by decide +kernel
theorem dX8_goBack_29 : decode cX8_goBack 29 = .ok (.ireturn, 1) := by decide +kernel
theorem dX8_goBack_30 : decode cX8_goBack 30 = .ok (.iconst 0, 1) := by decide +kernel
theorem dX8_goBack_31 : decode cX8_goBack 31 = .ok (.istore_n 2, 1) := by decide +kernel
theorem dX8_goBack_32 : decode cX8_goBack 32 = .ok (.iload_n 2, 1) := by decide +kernel
theorem dX8_goBack_33 : decode cX8_goBack 33 = .ok (.sipush 508, 3) := by decide +kernel
theorem dX8_goBack_36 : decode cX8_goBack 36 = .ok (.if_icmp .ge 27, 3) := by decide +kernel
theorem dX8_goBack_39 : decode cX8_goBack 39 = .ok (.aload_n 0, 1) := by decide +kernel
theorem dX8_goBack_40 : decode cX8_goBack 40 = .ok (.getfield 7, 3) := by decide +kernel
theorem dX8_goBack_43 : decode cX8_goBack 43 = .ok (.iload_n 2, 1) := by decide +kernel
theorem dX8_goBack_44 : decode cX8_goBack 44 = .ok (.aload_n 0, 1) := by decide +kernel
theorem dX8_goBack_45 : decode cX8_goBack 45 = .ok (.getfield 22, 3) := by decide +kernel
theorem dX8_goBack_48 : decode cX8_goBack 48 = .ok (.sipush 508, 3) := by decide +kernel
theorem dX8_goBack_51 : decode cX8_goBack 51 = .ok (.iload_n 1, 1) := by decide +kernel
theorem dX8_goBack_52 : decode cX8_goBack 52 = .ok (.imul, 1) := by decide +kernel
theorem dX8_goBack_53 : decode cX8_goBack 53 = .ok (.iload_n 2, 1) := by decide +kernel
theorem dX8_goBack_54 : decode cX8_goBack 54 = .ok (.iadd, 1) := by decide +kernel
theorem dX8_goBack_55 : decode cX8_goBack 55 = .ok (.iaload, 1) := by decide +kernel
theorem dX8_goBack_56 : decode cX8_goBack 56 = .ok (.iastore, 1) := by decide +kernel
theorem dX8_goBack_57 : decode cX8_goBack 57 = .ok (.iinc 2 1, 3) := by decide +kernel
theorem dX8_goBack_60 : decode cX8_goBack 60 = .ok (.goto (-28), 3) := by decide +kernel
theorem dX8_goBack_63 : decode cX8_goBack 63 = .ok (.aload_n 0, 1) := by decide +kernel
theorem dX8_goBack_64 : decode cX8_goBack 64 = .ok (.aload_n 0, 1) := by decide +kernel
theorem dX8_goBack_65 : decode cX8_goBack 65 = .ok (.getfield 25, 3) := by decide +kernel
theorem dX8_goBack_68 : decode cX8_goBack 68 = .ok (.iload_n 1, 1) := by decide +kernel
theorem dX8_goBack_69 : decode cX8_goBack 69 = .ok (.laload, 1) := by decide +kernel
theorem dX8_goBack_70 : decode cX8_goBack 70 = .ok (.putfield 181, 3) := by decide +kernel
theorem dX8_goBack_73 : decode cX8_goBack 73 = .ok (.aload_n 0, 1) := by decide +kernel
theorem dX8_goBack_74 : decode cX8_goBack 74 = .ok (.iconst 0, 1) := by decide +kernel
theorem dX8_goBack_75 : decode cX8_goBack 75 = .ok (.putfield 133, 3) := by decide +kernel
theorem dX8_goBack_78 : decode cX8_goBack 78 = .ok (.iconst 1, 1) := by decide +kernel
theorem dX8_goBack_79 : decode cX8_goBack 79 = .ok (.ireturn, 1) := by decide +kernel
