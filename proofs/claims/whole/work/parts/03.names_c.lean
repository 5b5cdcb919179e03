set_option maxRecDepth 20000 in
theorem ggX7_init_X5_init : GoodIn wsX7_init wsX5_init := goodIn_r _ [28, 29, 2, 3, 23, 30, 31, 32, 33, 34, 35, 58, 59, 60, 61, 62, 63, 64, 65] (by decide +kernel) (by decide +kernel)
set_option maxRecDepth 20000 in
theorem gX7_init_X5_init : GoodIn wsX7_init (wsX5_init) := ggX7_init_X5_init
set_option maxRecDepth 20000 in
theorem ggX7_init_X6_init : GoodIn wsX7_init wsX6_init := goodIn_r _ [38, 39, 2, 3, 40, 41, 5, 6, 42, 27, 28, 29, 23, 30, 31, 32, 33, 34, 35, 75, 76, 77, 58, 59, 60, 61, 62, 63, 64, 65] (by decide +kernel) (by decide +kernel)
set_option maxRecDepth 20000 in
theorem gX7_init_X6_init : GoodIn wsX7_init (wsX6_init) := ggX7_init_X6_init
set_option maxRecDepth 20000 in
theorem ggX7_init_X2_init : GoodIn wsX7_init wsX2_init := goodIn_r _ [44, 45, 2, 3, 23, 46, 47, 48, 49, 78, 79, 80, 81, 82] (by decide +kernel) (by decide +kernel)
set_option maxRecDepth 20000 in
theorem gX7_init_X2_init_n33 : GoodIn wsX7_init (wsX2_init) := ggX7_init_X2_init
set_option maxRecDepth 20000 in
theorem ggX7_init_X4_init : GoodIn wsX7_init wsX4_init := goodIn_r _ [51, 52, 2, 3, 23, 53, 54, 55, 56, 57, 83, 84, 85, 86, 87, 88, 89] (by decide +kernel) (by decide +kernel)
set_option maxRecDepth 20000 in
theorem gX7_init_X4_init_n40 : GoodIn wsX7_init (wsX4_init) := ggX7_init_X4_init
theorem dX7_init_0 : decode cX7_init 0 = .ok (.aload_n 0, 1) := by decide +kernel
theorem dX7_init_1 : decode cX7_init 1 = .ok (.invokespecial 1, 3) := by decide +kernel
theorem dX7_init_4 : decode cX7_init 4 = .ok (.aload_n 0, 1) := by decide +kernel
theorem dX7_init_5 : decode cX7_init 5 = .ok (.new 7, 3) := by decide +kernel
theorem dX7_init_8 : decode cX7_init 8 = .ok (.dup, 1) := by decide +kernel
theorem dX7_init_9 : decode cX7_init 9 = .ok (.invokespecial 9, 3) := by decide +kernel
theorem dX7_init_12 : decode cX7_init 12 = .ok (.putfield 10, 3) := by decide +kernel
theorem dX7_init_15 : decode cX7_init 15 = .ok (.aload_n 0, 1) := by decide +kernel
theorem dX7_init_16 : decode cX7_init 16 = .ok (.new 16, 3) := by decide +kernel
theorem dX7_init_19 : decode cX7_init 19 = .ok (.dup, 1) := by decide +kernel
theorem dX7_init_20 : decode cX7_init 20 = .ok (.invokespecial 18, 3) := by decide +kernel
theorem dX7_init_23 : decode cX7_init 23 = .ok (.putfield 19, 3) := by decide +kernel
theorem dX7_init_26 : decode cX7_init 26 = .ok (.aload_n 0, 1) := by decide +kernel
theorem dX7_init_27 : decode cX7_init 27 = .ok (.iconst 2, 1) := by decide +kernel
theorem dX7_init_28 : decode cX7_init 28 = .ok (.anewarray 7, 3) := by decide +kernel
theorem dX7_init_31 : decode cX7_init 31 = .ok (.dup, 1) := by decide +kernel
theorem dX7_init_32 : decode cX7_init 32 = .ok (.iconst 0, 1) := by decide +kernel
theorem dX7_init_33 : decode cX7_init 33 = .ok (.new 7, 3) := by decide +kernel
theorem dX7_init_36 : decode cX7_init 36 = .ok (.dup, 1) := by decide +kernel
theorem dX7_init_37 : decode cX7_init 37 = .ok (.invokespecial 9, 3) := by decide +kernel
theorem dX7_init_40 : decode cX7_init 40 = .ok (.aastore, 1) := by decide +kernel
theorem dX7_init_41 : decode cX7_init 41 = .ok (.dup, 1) := by decide +kernel
theorem dX7_init_42 : decode cX7_init 42 = .ok (.iconst 1, 1) := by decide +kernel
theorem dX7_init_43 : decode cX7_init 43 = .ok (.new 7, 3) := by decide +kernel
theorem dX7_init_46 : decode cX7_init 46 = .ok (.dup, 1) := by decide +kernel
theorem dX7_init_47 : decode cX7_init 47 = .ok (.invokespecial 9, 3) := by decide +kernel
theorem dX7_init_50 : decode cX7_init 50 = .ok (.aastore, 1) := by decide +kernel
theorem dX7_init_51 : decode cX7_init 51 = .ok (.putfield 23, 3) := by decide +kernel
theorem dX7_init_54 : decode cX7_init 54 = .ok (.aload_n 0, 1) := by decide +kernel
theorem dX7_init_55 : decode cX7_init 55 = .ok (.iconst 2, 1) := by decide +kernel
theorem dX7_init_56 : decode cX7_init 56 = .ok (.newarray .boolean, 2) := by decide +kernel
theorem dX7_init_58 : decode cX7_init 58 = .ok (.putfield 27, 3) := by decide +kernel
theorem dX7_init_61 : decode cX7_init 61 = .ok (.aload_n 0, 1) := by decide +kernel
theorem dX7_init_62 : decode cX7_init 62 = .ok (.new 31, 3) := by decide +kernel
theorem dX7_init_65 : decode cX7_init 65 = .ok (.dup, 1) := by decide +kernel
theorem dX7_init_66 : decode cX7_init 66 = .ok (.invokespecial 33, 3) := by decide +kernel
theorem dX7_init_69 : decode cX7_init 69 = .ok (.putfield 34, 3) := by decide +kernel
theorem dX7_init_72 : decode cX7_init 72 = .ok (.aload_n 0, 1) := by decide +kernel
theorem dX7_init_73 : decode cX7_init 73 = .ok (.new 38, 3) := by decide +kernel
theorem dX7_init_76 : decode cX7_init 76 = .ok (.dup, 1) := by decide +kernel
theorem dX7_init_77 : decode cX7_init 77 = .ok (.invokespecial 40, 3) := by decide +kernel
theorem dX7_init_80 : decode cX7_init 80 = .ok (.putfield 41, 3) := by decide +kernel
theorem dX7_init_83 : decode cX7_init 83 = .ok (.aload_n 0, 1) := by decide +kernel
theorem dX7_init_84 : decode cX7_init 84 = .ok (.bipush 10, 2) := by decide +kernel
theorem dX7_init_86 : decode cX7_init 86 = .ok (.newarray .int, 2) := by decide +kernel
theorem dX7_init_88 : decode cX7_init 88 = .ok (.putfield 45, 3) := by decide +kernel
theorem dX7_init_91 : decode cX7_init 91 = .ok (.aload_n 0, 1) := by decide +kernel
theorem dX7_init_92 : decode cX7_init 92 = .ok (.bipush 10, 2) := by decide +kernel
theorem dX7_init_94 : decode cX7_init 94 = .ok (.newarray .int, 2) := by decide +kernel
theorem dX7_init_96 : decode cX7_init 96 = .ok (.putfield 49, 3) := by decide +kernel
theorem dX7_init_99 : decode cX7_init 99 = .ok (.return_, 1) := by decide +kernel
set_option maxRecDepth 20000 in
theorem ggX7_coded_X7_isWithin : GoodIn wsX7_coded wsX7_isWithin := goodIn_r _ [5] (by decide +kernel) (by decide +kernel)
set_option maxRecDepth 20000 in
theorem gX7_coded_X7_isWithin : GoodIn wsX7_coded (va_wsS RX7 52 yX7_isWithin wsX7_isWithin) := goodIn_app (goodIn_of _ (by decide +kernel)) ggX7_coded_X7_isWithin
set_option maxRecDepth 20000 in
theorem ggX7_coded_X1_encode : GoodIn wsX7_coded wsX1_encode := goodIn_r _ [9, 10] (by decide +kernel) (by decide +kernel)
set_option maxRecDepth 20000 in
theorem gX7_coded_X1_encode : GoodIn wsX7_coded (va_wsS RX7 56 yX1_encode wsX1_encode) := goodIn_app (goodIn_of _ (by decide +kernel)) ggX7_coded_X1_encode
theorem dX7_coded_0 : decode cX7_coded 0 = .ok (.iload_n 1, 1) := by decide +kernel
theorem dX7_coded_1 : decode cX7_coded 1 = .ok (.iconst 0, 1) := by decide +kernel
theorem dX7_coded_2 : decode cX7_coded 2 = .ok (.bipush 15, 2) := by decide +kernel
theorem dX7_coded_4 : decode cX7_coded 4 = .ok (.invokestatic 52, 3) := by decide +kernel
theorem dX7_coded_7 : decode cX7_coded 7 = .ok (.ifCond .eq 10, 3) := by decide +kernel
theorem dX7_coded_10 : decode cX7_coded 10 = .ok (.iload_n 1, 1) := by decide +kernel
theorem dX7_coded_11 : decode cX7_coded 11 = .ok (.invokestatic 56, 3) := by decide +kernel
theorem dX7_coded_14 : decode cX7_coded 14 = .ok (.goto 5, 3) := by decide +kernel
theorem dX7_coded_17 : decode cX7_coded 17 = .ok (.ldc 62, 2) := by decide +kernel
theorem dX7_coded_19 : decode cX7_coded 19 = .ok (.ireturn, 1) := by decide +kernel
set_option maxRecDepth 20000 in
theorem ggX7_read_X7_isWithin : GoodIn wsX7_read wsX7_isWithin := goodIn_r _ [5] (by decide +kernel) (by decide +kernel)
set_option maxRecDepth 20000 in
theorem gX7_read_X7_isWithin : GoodIn wsX7_read (va_wsS RX7 52 yX7_isWithin wsX7_isWithin) := goodIn_app (goodIn_of _ (by decide +kernel)) ggX7_read_X7_isWithin
set_option maxRecDepth 20000 in
theorem ggX7_read_X1_decode : GoodIn wsX7_read wsX1_decode := goodIn_r _ [9, 10, 11, 12, 13, 14, 15, 16, 17] (by decide +kernel) (by decide +kernel)
set_option maxRecDepth 20000 in
theorem gX7_read_X1_decode : GoodIn wsX7_read (va_wsS RX7 63 yX1_decode wsX1_decode) := goodIn_app (goodIn_of _ (by decide +kernel)) ggX7_read_X1_decode
theorem dX7_read_0 : decode cX7_read 0 = .ok (.iload_n 1, 1) := by decide +kernel
theorem dX7_read_1 : decode cX7_read 1 = .ok (.iconst 0, 1) := by decide +kernel
theorem dX7_read_2 : decode cX7_read 2 = .ok (.sipush 255, 3) := by decide +kernel
theorem dX7_read_5 : decode cX7_read 5 = .ok (.invokestatic 52, 3) := by decide +kernel
theorem dX7_read_8 : decode cX7_read 8 = .ok (.ifCond .eq 10, 3) := by decide +kernel
theorem dX7_read_11 : decode cX7_read 11 = .ok (.iload_n 1, 1) := by decide +kernel
theorem dX7_read_12 : decode cX7_read 12 = .ok (.invokestatic 63, 3) := by decide +kernel
theorem dX7_read_15 : decode cX7_read 15 = .ok (.goto 5, 3) := by decide +kernel
theorem dX7_read_18 : decode cX7_read 18 = .ok (.ldc 62, 2) := by decide +kernel
theorem dX7_read_20 : decode cX7_read 20 = .ok (.ireturn, 1) := by decide +kernel
set_option maxRecDepth 20000 in
theorem ggX7_octet_X7_isWithin : GoodIn wsX7_octet wsX7_isWithin := goodIn_r _ [7] (by decide +kernel) (by decide +kernel)
set_option maxRecDepth 20000 in
theorem gX7_octet_X7_isWithin : GoodIn wsX7_octet (va_wsS RX7 52 yX7_isWithin wsX7_isWithin) := goodIn_app (goodIn_of _ (by decide +kernel)) ggX7_octet_X7_isWithin
set_option maxRecDepth 20000 in
theorem ggX7_octet_X7_comes : GoodIn wsX7_octet wsX7_comes := goodIn_r _ [11, 12, 13, 14, 15, 16, 17, 18, 19, 20, 21, 22, 23, 24, 25, 26, 27, 28, 29, 30, 31, 32, 33, 34, 35, 36, 37, 38, 39, 40, 41, 42, 43, 44, 45, 46, 47, 48, 49, 50, 51, 52, 53, 54, 55, 56, 57, 58, 59, 60, 61, 62, 63, 64, 65, 66, 67, 68, 69, 5, 6, 7, 70, 71, 72, 73, 74, 75, 76, 77, 78, 79, 80, 81, 82, 83, 84, 85, 86, 87, 88, 89, 90, 91, 92, 93, 94, 95, 96, 97, 98, 99, 100, 101, 102, 103, 104, 105, 106, 107, 108, 109, 110, 111, 112, 113, 114, 115, 116, 117, 118, 119, 120, 121, 122, 123, 124, 125, 126, 127, 128, 129, 130, 131, 132, 133, 134, 135, 136, 137, 138, 139, 140, 141, 142, 143, 144, 145, 146, 147, 148, 149, 150, 151, 152, 153, 154, 155, 156, 157, 158, 159, 160] (by decide +kernel) (by decide +kernel)
set_option maxRecDepth 20000 in
theorem gX7_octet_X7_comes : GoodIn wsX7_octet (wsV RX7 70 RX7 yX7_comes wsX7_comes) := goodIn_app (goodIn_of _ (by decide +kernel)) ggX7_octet_X7_comes
theorem dX7_octet_0 : decode cX7_octet 0 = .ok (.iload_n 1, 1) := by decide +kernel
theorem dX7_octet_1 : decode cX7_octet 1 = .ok (.iconst 0, 1) := by decide +kernel
theorem dX7_octet_2 : decode cX7_octet 2 = .ok (.sipush 255, 3) := by decide +kernel
theorem dX7_octet_5 : decode cX7_octet 5 = .ok (.invokestatic 52, 3) := by decide +kernel
theorem dX7_octet_8 : decode cX7_octet 8 = .ok (.ifCond .eq 16, 3) := by decide +kernel
theorem dX7_octet_11 : decode cX7_octet 11 = .ok (.aload_n 0, 1) := by decide +kernel
theorem dX7_octet_12 : decode cX7_octet 12 = .ok (.getfield 66, 3) := by decide +kernel
theorem dX7_octet_15 : decode cX7_octet 15 = .ok (.iconst 0, 1) := by decide +kernel
theorem dX7_octet_16 : decode cX7_octet 16 = .ok (.bipush 9, 2) := by decide +kernel
theorem dX7_octet_18 : decode cX7_octet 18 = .ok (.invokestatic 52, 3) := by decide +kernel
theorem dX7_octet_21 : decode cX7_octet 21 = .ok (.ifCond .ne 6, 3) := by decide +kernel
theorem dX7_octet_24 : decode cX7_octet 24 = .ok (.ldc 62, 2) := by decide +kernel
theorem dX7_octet_26 : decode cX7_octet 26 = .ok (.ireturn, 1) := by decide +kernel
theorem dX7_octet_27 : decode cX7_octet 27 = .ok (.aload_n 0, 1) := by decide +kernel
theorem dX7_octet_28 : decode cX7_octet 28 = .ok (.getfield 45, 3) := by decide +kernel
theorem dX7_octet_31 : decode cX7_octet 31 = .ok (.aload_n 0, 1) := by decide +kernel
theorem dX7_octet_32 : decode cX7_octet 32 = .ok (.getfield 66, 3) := by decide +kernel
theorem dX7_octet_35 : decode cX7_octet 35 = .ok (.iload_n 1, 1) := by decide +kernel
theorem dX7_octet_36 : decode cX7_octet 36 = .ok (.iastore, 1) := by decide +kernel
theorem dX7_octet_37 : decode cX7_octet 37 = .ok (.aload_n 0, 1) := by decide +kernel
theorem dX7_octet_38 : decode cX7_octet 38 = .ok (.dup, 1) := by decide +kernel
theorem dX7_octet_39 : decode cX7_octet 39 = .ok (.getfield 66, 3) := by decide +kernel
theorem dX7_octet_42 : decode cX7_octet 42 = .ok (.iconst 1, 1) := by decide +kernel
theorem dX7_octet_43 : decode cX7_octet 43 = .ok (.iadd, 1) := by decide +kernel
theorem dX7_octet_44 : decode cX7_octet 44 = .ok (.putfield 66, 3) := by decide +kernel
theorem dX7_octet_47 : decode cX7_octet 47 = .ok (.aload_n 0, 1) := by decide +kernel
theorem dX7_octet_48 : decode cX7_octet 48 = .ok (.getfield 66, 3) := by decide +kernel
theorem dX7_octet_51 : decode cX7_octet 51 = .ok (.bipush 10, 2) := by decide +kernel
theorem dX7_octet_53 : decode cX7_octet 53 = .ok (.if_icmp .ne 17, 3) := by decide +kernel
theorem dX7_octet_56 : decode cX7_octet 56 = .ok (.aload_n 0, 1) := by decide +kernel
theorem dX7_octet_57 : decode cX7_octet 57 = .ok (.iconst 0, 1) := by decide +kernel
theorem dX7_octet_58 : decode cX7_octet 58 = .ok (.putfield 66, 3) := by decide +kernel
theorem dX7_octet_61 : decode cX7_octet 61 = .ok (.aload_n 0, 1) := by decide +kernel
theorem dX7_octet_62 : decode cX7_octet 62 = .ok (.aload_n 0, 1) := by decide +kernel
theorem dX7_octet_63 : decode cX7_octet 63 = .ok (.getfield 45, 3) := by decide +kernel
theorem dX7_octet_66 : decode cX7_octet 66 = .ok (.invokevirtual 70, 3) := by decide +kernel
theorem dX7_octet_69 : decode cX7_octet 69 = .ok (.pop, 1) := by decide +kernel
theorem dX7_octet_70 : decode cX7_octet 70 = .ok (.aload_n 0, 1) := by decide +kernel
theorem dX7_octet_71 : decode cX7_octet 71 = .ok (.getfield 66, 3) := by decide +kernel
theorem dX7_octet_74 : decode cX7_octet 74 = .ok (.ireturn, 1) := by decide +kernel
set_option maxRecDepth 20000 in
theorem ggX7_packet_X7_isWithin : GoodIn wsX7_packet wsX7_isWithin := goodIn_r _ [6] (by decide +kernel) (by decide +kernel)
set_option maxRecDepth 20000 in
theorem gX7_packet_X7_isWithin : GoodIn wsX7_packet (va_wsS RX7 52 yX7_isWithin wsX7_isWithin) := goodIn_app (goodIn_of _ (by decide +kernel)) ggX7_packet_X7_isWithin
set_option maxRecDepth 20000 in
theorem ggX7_packet_X1_encode : GoodIn wsX7_packet wsX1_encode := goodIn_r _ [10, 11] (by decide +kernel) (by decide +kernel)
set_option maxRecDepth 20000 in
theorem gX7_packet_X1_encode : GoodIn wsX7_packet (va_wsS RX7 56 yX1_encode wsX1_encode) := goodIn_app (goodIn_of _ (by decide +kernel)) ggX7_packet_X1_encode
set_option maxRecDepth 20000 in
theorem ggX7_packet_X7_bodyOctet : GoodIn wsX7_packet wsX7_bodyOctet := goodIn_r _ [14, 7, 8, 9, 10, 11, 15, 16, 17, 18, 19, 20, 21, 22, 23, 24, 25, 26, 27] (by decide +kernel) (by decide +kernel)
set_option maxRecDepth 20000 in
theorem gX7_packet_X7_bodyOctet : GoodIn wsX7_packet (va_wsS RX7 74 yX7_bodyOctet wsX7_bodyOctet) := goodIn_app (goodIn_of _ (by decide +kernel)) ggX7_packet_X7_bodyOctet
set_option maxRecDepth 20000 in
theorem ggX7_packet_X7_comes : GoodIn wsX7_packet wsX7_comes := goodIn_r _ [31, 32, 33, 34, 35, 36, 37, 38, 39, 40, 41, 42, 43, 44, 45, 46, 47, 48, 49, 50, 51, 52, 53, 54, 55, 56, 57, 58, 59, 60, 61, 62, 63, 64, 65, 66, 67, 68, 69, 70, 71, 72, 73, 74, 75, 9, 76, 11, 21, 22, 23, 24, 25, 26, 27, 77, 8, 10, 78, 4, 5, 6, 79, 80, 81, 82, 83, 84, 85, 86, 87, 88, 89, 90, 91, 92, 93, 94, 95, 96, 97, 98, 99, 100, 101, 102, 103, 104, 105, 106, 107, 108, 109, 110, 111, 112, 113, 114, 115, 116, 117, 118, 119, 120, 121, 122, 123, 124, 125, 126, 127, 128, 129, 130, 131, 132, 133, 134, 135, 136, 137, 138, 139, 140, 141, 142, 143, 144, 19, 20, 145, 146, 147, 148, 149, 150, 151, 152, 153, 154, 155, 156, 157, 158, 159, 160, 161, 162, 163, 164, 165, 166, 167] (by decide +kernel) (by decide +kernel)
set_option maxRecDepth 20000 in
theorem gX7_packet_X7_comes : GoodIn wsX7_packet (wsV RX7 70 RX7 yX7_comes wsX7_comes) := goodIn_app (goodIn_of _ (by decide +kernel)) ggX7_packet_X7_comes
theorem dX7_packet_0 : decode cX7_packet 0 = .ok (.iload_n 1, 1) := by decide +kernel
theorem dX7_packet_1 : decode cX7_packet 1 = .ok (.iconst 0, 1) := by decide +kernel
theorem dX7_packet_2 : decode cX7_packet 2 = .ok (.iconst 3, 1) := by decide +kernel
theorem dX7_packet_3 : decode cX7_packet 3 = .ok (.invokestatic 52, 3) := by decide +kernel
theorem dX7_packet_6 : decode cX7_packet 6 = .ok (.ifCond .eq 19, 3) := by decide +kernel
theorem dX7_packet_9 : decode cX7_packet 9 = .ok (.iload_n 2, 1) := by decide +kernel
theorem dX7_packet_10 : decode cX7_packet 10 = .ok (.iconst 0, 1) := by decide +kernel
theorem dX7_packet_11 : decode cX7_packet 11 = .ok (.bipush 7, 2) := by decide +kernel
theorem dX7_packet_13 : decode cX7_packet 13 = .ok (.invokestatic 52, 3) := by decide +kernel
theorem dX7_packet_16 : decode cX7_packet 16 = .ok (.ifCond .eq 9, 3) := by decide +kernel
theorem dX7_packet_19 : decode cX7_packet 19 = .ok (.lload_n 3, 1) := by decide +kernel
theorem dX7_packet_20 : decode cX7_packet 20 = .ok (.lconst 0, 1) := by decide +kernel
theorem dX7_packet_21 : decode cX7_packet 21 = .ok (.lcmp, 1) := by decide +kernel
theorem dX7_packet_22 : decode cX7_packet 22 = .ok (.ifCond .ge 6, 3) := by decide +kernel
theorem dX7_packet_25 : decode cX7_packet 25 = .ok (.ldc 62, 2) := by decide +kernel
theorem dX7_packet_27 : decode cX7_packet 27 = .ok (.ireturn, 1) := by decide +kernel
theorem dX7_packet_28 : decode cX7_packet 28 = .ok (.aload_n 0, 1) := by decide +kernel
theorem dX7_packet_29 : decode cX7_packet 29 = .ok (.getfield 49, 3) := by decide +kernel
theorem dX7_packet_32 : decode cX7_packet 32 = .ok (.iconst 0, 1) := by decide +kernel
theorem dX7_packet_33 : decode cX7_packet 33 = .ok (.iload_n 1, 1) := by decide +kernel
theorem dX7_packet_34 : decode cX7_packet 34 = .ok (.invokestatic 56, 3) := by decide +kernel
theorem dX7_packet_37 : decode cX7_packet 37 = .ok (.iastore, 1) := by decide +kernel
theorem dX7_packet_38 : decode cX7_packet 38 = .ok (.aload_n 0, 1) := by decide +kernel
theorem dX7_packet_39 : decode cX7_packet 39 = .ok (.getfield 49, 3) := by decide +kernel
theorem dX7_packet_42 : decode cX7_packet 42 = .ok (.iconst 1, 1) := by decide +kernel
theorem dX7_packet_43 : decode cX7_packet 43 = .ok (.iload_n 2, 1) := by decide +kernel
theorem dX7_packet_44 : decode cX7_packet 44 = .ok (.invokestatic 56, 3) := by decide +kernel
theorem dX7_packet_47 : decode cX7_packet 47 = .ok (.iastore, 1) := by decide +kernel
theorem dX7_packet_48 : decode cX7_packet 48 = .ok (.iconst 2, 1) := by decide +kernel
theorem dX7_packet_49 : decode cX7_packet 49 = .ok (.istore 5, 2) := by decide +kernel
theorem dX7_packet_51 : decode cX7_packet 51 = .ok (.iload 5, 2) := by decide +kernel
theorem dX7_packet_53 : decode cX7_packet 53 = .ok (.bipush 10, 2) := by decide +kernel
theorem dX7_packet_55 : decode cX7_packet 55 = .ok (.if_icmp .ge 37, 3) := by decide +kernel
theorem dX7_packet_58 : decode cX7_packet 58 = .ok (.lload_n 3, 1) := by decide +kernel
theorem dX7_packet_59 : decode cX7_packet 59 = .ok (.iconst 4, 1) := by decide +kernel
theorem dX7_packet_60 : decode cX7_packet 60 = .ok (.bipush 9, 2) := by decide +kernel
theorem dX7_packet_62 : decode cX7_packet 62 = .ok (.iload 5, 2) := by decide +kernel
theorem dX7_packet_64 : decode cX7_packet 64 = .ok (.isub, 1) := by decide +kernel
theorem dX7_packet_65 : decode cX7_packet 65 = .ok (.imul, 1) := by decide +kernel
theorem dX7_packet_66 : decode cX7_packet 66 = .ok (.lushr, 1) := by decide +kernel
theorem dX7_packet_67 : decode cX7_packet 67 = .ok (.l2i, 1) := by decide +kernel
theorem dX7_packet_68 : decode cX7_packet 68 = .ok (.bipush 15, 2) := by decide +kernel
theorem dX7_packet_70 : decode cX7_packet 70 = .ok (.iand, 1) := by decide +kernel
theorem dX7_packet_71 : decode cX7_packet 71 = .ok (.istore 6, 2) := by decide +kernel
theorem dX7_packet_73 : decode cX7_packet 73 = .ok (.aload_n 0, 1) := by decide +kernel
theorem dX7_packet_74 : decode cX7_packet 74 = .ok (.getfield 49, 3) := by decide +kernel
theorem dX7_packet_77 : decode cX7_packet 77 = .ok (.iload 5, 2) := by decide +kernel
theorem dX7_packet_79 : decode cX7_packet 79 = .ok (.iload_n 2, 1) := by decide +kernel
theorem dX7_packet_80 : decode cX7_packet 80 = .ok (.iload 6, 2) := by decide +kernel
theorem dX7_packet_82 : decode cX7_packet 82 = .ok (.invokestatic 74, 3) := by decide +kernel
theorem dX7_packet_85 : decode cX7_packet 85 = .ok (.iastore, 1) := by decide +kernel
theorem dX7_packet_86 : decode cX7_packet 86 = .ok (.iinc 5 1, 3) := by decide +kernel
theorem dX7_packet_89 : decode cX7_packet 89 = .ok (.goto (-38), 3) := by decide +kernel
theorem dX7_packet_92 : decode cX7_packet 92 = .ok (.aload_n 0, 1) := by decide +kernel
theorem dX7_packet_93 : decode cX7_packet 93 = .ok (.aload_n 0, 1) := by decide +kernel
theorem dX7_packet_94 : decode cX7_packet 94 = .ok (.getfield 49, 3) := by decide +kernel
theorem dX7_packet_97 : decode cX7_packet 97 = .ok (.invokevirtual 70, 3) := by decide +kernel
theorem dX7_packet_100 : decode cX7_packet 100 = .ok (.ifCond .eq 7, 3) := by decide +kernel
theorem dX7_packet_103 : decode cX7_packet 103 = .ok (.iconst 1, 1) := by decide +kernel
theorem dX7_packet_104 : decode cX7_packet 104 = .ok (.goto 4, 3) := by decide +kernel
theorem dX7_packet_107 : decode cX7_packet 107 = .ok (.iconst 0, 1) := by decide +kernel
theorem dX7_packet_108 : decode cX7_packet 108 = .ok (.ireturn, 1) := by decide +kernel
set_option maxRecDepth 20000 in
theorem ggX7_told_X2_firstWrong : GoodIn wsX7_told wsX2_firstWrong := goodIn_r _ [16, 17, 18, 19, 20, 15, 21, 22, 23, 24, 25, 26, 27, 28, 29, 30, 31, 32, 33, 34, 35, 36, 37, 38, 39, 40, 41, 42, 43, 61, 62, 63, 64, 65, 53, 54, 55, 56, 57, 58, 59, 60] (by decide +kernel) (by decide +kernel)
set_option maxRecDepth 20000 in
theorem gX7_told_X2_firstWrong : GoodIn wsX7_told (wsV RX7 93 RX2 yX2_firstWrong wsX2_firstWrong) := goodIn_app (goodIn_of _ (by decide +kernel)) ggX7_told_X2_firstWrong
theorem dX7_told_0 : decode cX7_told 0 = .ok (.iload_n 1, 1) := by decide +kernel
theorem dX7_told_1 : decode cX7_told 1 = .ok (.tableswitch 112 0 7 #[47, 55, 63, 71, 79, 84, 92, 104], 47) := by decide +kernel
theorem dX7_told_48 : decode cX7_told 48 = .ok (.aload_n 0, 1) := by decide +kernel
theorem dX7_told_49 : decode cX7_told 49 = .ok (.getfield 10, 3) := by decide +kernel
theorem dX7_told_52 : decode cX7_told 52 = .ok (.getfield 78, 3) := by decide +kernel
theorem dX7_told_55 : decode cX7_told 55 = .ok (.ireturn, 1) := by decide +kernel
theorem dX7_told_56 : decode cX7_told 56 = .ok (.aload_n 0, 1) := by decide +kernel
theorem dX7_told_57 : decode cX7_told 57 = .ok (.getfield 10, 3) := by decide +kernel
theorem dX7_told_60 : decode cX7_told 60 = .ok (.getfield 81, 3) := by decide +kernel
theorem dX7_told_63 : decode cX7_told 63 = .ok (.ireturn, 1) := by decide +kernel
theorem dX7_told_64 : decode cX7_told 64 = .ok (.aload_n 0, 1) := by decide +kernel
theorem dX7_told_65 : decode cX7_told 65 = .ok (.getfield 10, 3) := by decide +kernel
theorem dX7_told_68 : decode cX7_told 68 = .ok (.getfield 84, 3) := by decide +kernel
theorem dX7_told_71 : decode cX7_told 71 = .ok (.ireturn, 1) := by decide +kernel
theorem dX7_told_72 : decode cX7_told 72 = .ok (.aload_n 0, 1) := by decide +kernel
theorem dX7_told_73 : decode cX7_told 73 = .ok (.getfield 10, 3) := by decide +kernel
theorem dX7_told_76 : decode cX7_told 76 = .ok (.getfield 87, 3) := by decide +kernel
theorem dX7_told_79 : decode cX7_told 79 = .ok (.ireturn, 1) := by decide +kernel
theorem dX7_told_80 : decode cX7_told 80 = .ok (.aload_n 0, 1) := by decide +kernel
theorem dX7_told_81 : decode cX7_told 81 = .ok (.getfield 66, 3) := by decide +kernel
theorem dX7_told_84 : decode cX7_told 84 = .ok (.ireturn, 1) := by decide +kernel
theorem dX7_told_85 : decode cX7_told 85 = .ok (.aload_n 0, 1) := by decide +kernel
theorem dX7_told_86 : decode cX7_told 86 = .ok (.getfield 34, 3) := by decide +kernel
theorem dX7_told_89 : decode cX7_told 89 = .ok (.getfield 90, 3) := by decide +kernel
theorem dX7_told_92 : decode cX7_told 92 = .ok (.ireturn, 1) := by decide +kernel
theorem dX7_told_93 : decode cX7_told 93 = .ok (.aload_n 0, 1) := by decide +kernel
theorem dX7_told_94 : decode cX7_told 94 = .ok (.getfield 34, 3) := by decide +kernel
theorem dX7_told_97 : decode cX7_told 97 = .ok (.aload_n 0, 1) := by decide +kernel
theorem dX7_told_98 : decode cX7_told 98 = .ok (.getfield 10, 3) := by decide +kernel
theorem dX7_told_101 : decode cX7_told 101 = .ok (.invokevirtual 93, 3) := by decide +kernel
theorem dX7_told_104 : decode cX7_told 104 = .ok (.ireturn, 1) := by decide +kernel
theorem dX7_told_105 : decode cX7_told 105 = .ok (.aload_n 0, 1) := by decide +kernel
theorem dX7_told_106 : decode cX7_told 106 = .ok (.getfield 19, 3) := by decide +kernel
theorem dX7_told_109 : decode cX7_told 109 = .ok (.getfield 97, 3) := by decide +kernel
theorem dX7_told_112 : decode cX7_told 112 = .ok (.ireturn, 1) := by decide +kernel
theorem dX7_told_113 : decode cX7_told 113 = .ok (.ldc 62, 2) := by decide +kernel
theorem dX7_told_115 : decode cX7_told 115 = .ok (.ireturn, 1) := by decide +kernel
set_option maxRecDepth 20000 in
theorem ggX7_open_X7_isWithin : GoodIn wsX7_open wsX7_isWithin := goodIn_r _ [7] (by decide +kernel) (by decide +kernel)
set_option maxRecDepth 20000 in
theorem gX7_open_X7_isWithin : GoodIn wsX7_open (va_wsS RX7 52 yX7_isWithin wsX7_isWithin) := goodIn_app (goodIn_of _ (by decide +kernel)) ggX7_open_X7_isWithin
theorem dX7_open_0 : decode cX7_open 0 = .ok (.iload_n 1, 1) := by decide +kernel
theorem dX7_open_1 : decode cX7_open 1 = .ok (.iconst 0, 1) := by decide +kernel
theorem dX7_open_2 : decode cX7_open 2 = .ok (.iconst 3, 1) := by decide +kernel
theorem dX7_open_3 : decode cX7_open 3 = .ok (.invokestatic 52, 3) := by decide +kernel
theorem dX7_open_6 : decode cX7_open 6 = .ok (.ifCond .eq 15, 3) := by decide +kernel
theorem dX7_open_9 : decode cX7_open 9 = .ok (.aload_n 0, 1) := by decide +kernel
theorem dX7_open_10 : decode cX7_open 10 = .ok (.getfield 10, 3) := by decide +kernel
theorem dX7_open_13 : decode cX7_open 13 = .ok (.getfield 100, 3) := by decide +kernel
theorem dX7_open_16 : decode cX7_open 16 = .ok (.iload_n 1, 1) := by decide +kernel
theorem dX7_open_17 : decode cX7_open 17 = .ok (.iaload, 1) := by decide +kernel
theorem dX7_open_18 : decode cX7_open 18 = .ok (.goto 5, 3) := by decide +kernel
theorem dX7_open_21 : decode cX7_open 21 = .ok (.ldc 103, 2) := by decide +kernel
theorem dX7_open_23 : decode cX7_open 23 = .ok (.ireturn, 1) := by decide +kernel
set_option maxRecDepth 20000 in
theorem ggX7_page_X5_has : GoodIn wsX7_page wsX5_has := goodIn_r _ [8, 9, 10, 11, 12, 71, 72, 73, 74, 75, 76, 77, 78] (by decide +kernel) (by decide +kernel)
set_option maxRecDepth 20000 in
theorem gX7_page_X5_has : GoodIn wsX7_page (wsV RX7 104 RX5 yX5_has wsX5_has) := goodIn_app (goodIn_of _ (by decide +kernel)) ggX7_page_X5_has
set_option maxRecDepth 20000 in
theorem ggX7_page_X5_get : GoodIn wsX7_page wsX5_get := goodIn_r _ [16, 17, 71, 72, 73, 74, 75, 76, 77, 78] (by decide +kernel) (by decide +kernel)
set_option maxRecDepth 20000 in
theorem gX7_page_X5_get : GoodIn wsX7_page (wsV RX7 108 RX5 yX5_get wsX5_get) := goodIn_app (goodIn_of _ (by decide +kernel)) ggX7_page_X5_get
set_option maxRecDepth 20000 in
theorem ggX7_page_X0_length : GoodIn wsX7_page wsX0_length := goodIn_r _ [21, 22, 23, 20, 24, 25, 26, 27, 28, 29, 30, 7, 31, 32, 14, 15, 16, 17, 33, 34, 35, 36, 37, 38, 39, 40, 41, 42, 43, 44, 45, 46, 71, 72, 73, 74, 75, 76, 77, 78] (by decide +kernel) (by decide +kernel)
set_option maxRecDepth 20000 in
theorem gX7_page_X0_length : GoodIn wsX7_page (va_wsS RX7 111 yX0_length wsX0_length) := goodIn_app (goodIn_of _ (by decide +kernel)) ggX7_page_X0_length
set_option maxRecDepth 20000 in
theorem ggX7_page_X0_lacks : GoodIn wsX7_page wsX0_lacks := goodIn_r _ [24, 25, 26, 20, 27, 28, 29, 30, 7, 31, 32, 14, 15, 16, 17, 71, 72, 73, 74, 75, 76, 77, 78] (by decide +kernel) (by decide +kernel)
set_option maxRecDepth 20000 in
theorem gX7_page_X0_lacks : GoodIn wsX7_page (va_wsS RX7 117 yX0_lacks wsX0_lacks) := goodIn_app (goodIn_of _ (by decide +kernel)) ggX7_page_X0_lacks
set_option maxRecDepth 20000 in
theorem ggX7_page_X0_sureOnes : GoodIn wsX7_page wsX0_sureOnes := goodIn_r _ [50, 28, 29, 30, 7, 31, 32, 14, 15, 16, 17, 51, 52, 53, 10, 11, 12, 71, 72, 73, 74, 75, 76, 77, 78] (by decide +kernel) (by decide +kernel)
set_option maxRecDepth 20000 in
theorem gX7_page_X0_sureOnes : GoodIn wsX7_page (va_wsS RX7 120 yX0_sureOnes wsX0_sureOnes) := goodIn_app (goodIn_of _ (by decide +kernel)) ggX7_page_X0_sureOnes
set_option maxRecDepth 20000 in
theorem ggX7_page_X0_linked : GoodIn wsX7_page wsX0_linked := goodIn_r _ [56, 57, 58, 59, 20, 60, 61, 14, 15, 7, 16, 17, 43, 44, 45, 46, 32, 71, 72, 73, 74, 75, 76, 77, 78] (by decide +kernel) (by decide +kernel)
set_option maxRecDepth 20000 in
theorem gX7_page_X0_linked : GoodIn wsX7_page (va_wsS RX7 123 yX0_linked wsX0_linked) := goodIn_app (goodIn_of _ (by decide +kernel)) ggX7_page_X0_linked
theorem dX7_page_0 : decode cX7_page 0 = .ok (.aload_n 0, 1) := by decide +kernel
theorem dX7_page_1 : decode cX7_page 1 = .ok (.getfield 10, 3) := by decide +kernel
theorem dX7_page_4 : decode cX7_page 4 = .ok (.iload_n 1, 1) := by decide +kernel
theorem dX7_page_5 : decode cX7_page 5 = .ok (.invokevirtual 104, 3) := by decide +kernel
theorem dX7_page_8 : decode cX7_page 8 = .ok (.ifCond .ne 6, 3) := by decide +kernel
theorem dX7_page_11 : decode cX7_page 11 = .ok (.ldc 103, 2) := by decide +kernel
theorem dX7_page_13 : decode cX7_page 13 = .ok (.ireturn, 1) := by decide +kernel
theorem dX7_page_14 : decode cX7_page 14 = .ok (.iload_n 2, 1) := by decide +kernel
theorem dX7_page_15 : decode cX7_page 15 = .ok (.tableswitch 135 0 8 #[49, 59, 69, 79, 89, 99, 108, 117, 126], 49) := by decide +kernel
theorem dX7_page_64 : decode cX7_page 64 = .ok (.aload_n 0, 1) := by decide +kernel
theorem dX7_page_65 : decode cX7_page 65 = .ok (.getfield 10, 3) := by decide +kernel
theorem dX7_page_68 : decode cX7_page 68 = .ok (.iload_n 1, 1) := by decide +kernel
theorem dX7_page_69 : decode cX7_page 69 = .ok (.iconst 0, 1) := by decide +kernel
theorem dX7_page_70 : decode cX7_page 70 = .ok (.invokevirtual 108, 3) := by decide +kernel
theorem dX7_page_73 : decode cX7_page 73 = .ok (.ireturn, 1) := by decide +kernel
theorem dX7_page_74 : decode cX7_page 74 = .ok (.aload_n 0, 1) := by decide +kernel
theorem dX7_page_75 : decode cX7_page 75 = .ok (.getfield 10, 3) := by decide +kernel
theorem dX7_page_78 : decode cX7_page 78 = .ok (.iload_n 1, 1) := by decide +kernel
theorem dX7_page_79 : decode cX7_page 79 = .ok (.iconst 1, 1) := by decide +kernel
theorem dX7_page_80 : decode cX7_page 80 = .ok (.invokevirtual 108, 3) := by decide +kernel
theorem dX7_page_83 : decode cX7_page 83 = .ok (.ireturn, 1) := by decide +kernel
theorem dX7_page_84 : decode cX7_page 84 = .ok (.aload_n 0, 1) := by decide +kernel
theorem dX7_page_85 : decode cX7_page 85 = .ok (.getfield 10, 3) := by decide +kernel
theorem dX7_page_88 : decode cX7_page 88 = .ok (.iload_n 1, 1) := by decide +kernel
theorem dX7_page_89 : decode cX7_page 89 = .ok (.iconst 2, 1) := by decide +kernel
theorem dX7_page_90 : decode cX7_page 90 = .ok (.invokevirtual 108, 3) := by decide +kernel
theorem dX7_page_93 : decode cX7_page 93 = .ok (.ireturn, 1) := by decide +kernel
theorem dX7_page_94 : decode cX7_page 94 = .ok (.aload_n 0, 1) := by decide +kernel
theorem dX7_page_95 : decode cX7_page 95 = .ok (.getfield 10, 3) := by decide +kernel
theorem dX7_page_98 : decode cX7_page 98 = .ok (.iload_n 1, 1) := by decide +kernel
theorem dX7_page_99 : decode cX7_page 99 = .ok (.iconst 3, 1) := by decide +kernel
theorem dX7_page_100 : decode cX7_page 100 = .ok (.invokevirtual 108, 3) := by decide +kernel
theorem dX7_page_103 : decode cX7_page 103 = .ok (.ireturn, 1) := by decide +kernel
theorem dX7_page_104 : decode cX7_page 104 = .ok (.aload_n 0, 1) := by decide +kernel
theorem dX7_page_105 : decode cX7_page 105 = .ok (.getfield 10, 3) := by decide +kernel
theorem dX7_page_108 : decode cX7_page 108 = .ok (.iload_n 1, 1) := by decide +kernel
theorem dX7_page_109 : decode cX7_page 109 = .ok (.iconst 4, 1) := by decide +kernel
theorem dX7_page_110 : decode cX7_page 110 = .ok (.invokevirtual 108, 3) := by decide +kernel
theorem dX7_page_113 : decode cX7_page 113 = .ok (.ireturn, 1) := by decide +kernel
theorem dX7_page_114 : decode cX7_page 114 = .ok (.aload_n 0, 1) := by decide +kernel
theorem dX7_page_115 : decode cX7_page 115 = .ok (.getfield 10, 3) := by decide +kernel
theorem dX7_page_118 : decode cX7_page 118 = .ok (.iload_n 1, 1) := by decide +kernel
theorem dX7_page_119 : decode cX7_page 119 = .ok (.invokestatic 111, 3) := by decide +kernel
theorem dX7_page_122 : decode cX7_page 122 = .ok (.ireturn, 1) := by decide +kernel
theorem dX7_page_123 : decode cX7_page 123 = .ok (.aload_n 0, 1) := by decide +kernel
theorem dX7_page_124 : decode cX7_page 124 = .ok (.getfield 10, 3) := by decide +kernel
theorem dX7_page_127 : decode cX7_page 127 = .ok (.iload_n 1, 1) := by decide +kernel
theorem dX7_page_128 : decode cX7_page 128 = .ok (.invokestatic 117, 3) := by decide +kernel
theorem dX7_page_131 : decode cX7_page 131 = .ok (.ireturn, 1) := by decide +kernel
theorem dX7_page_132 : decode cX7_page 132 = .ok (.aload_n 0, 1) := by decide +kernel
theorem dX7_page_133 : decode cX7_page 133 = .ok (.getfield 10, 3) := by decide +kernel
theorem dX7_page_136 : decode cX7_page 136 = .ok (.iload_n 1, 1) := by decide +kernel
theorem dX7_page_137 : decode cX7_page 137 = .ok (.invokestatic 120, 3) := by decide +kernel
theorem dX7_page_140 : decode cX7_page 140 = .ok (.ireturn, 1) := by decide +kernel
theorem dX7_page_141 : decode cX7_page 141 = .ok (.aload_n 0, 1) := by decide +kernel
theorem dX7_page_142 : decode cX7_page 142 = .ok (.getfield 10, 3) := by decide +kernel
theorem dX7_page_145 : decode cX7_page 145 = .ok (.iload_n 1, 1) := by decide +kernel
theorem dX7_page_146 : decode cX7_page 146 = .ok (.invokestatic 123, 3) := by decide +kernel
theorem dX7_page_149 : decode cX7_page 149 = .ok (.ireturn, 1) := by decide +kernel
theorem dX7_page_150 : decode cX7_page 150 = .ok (.ldc 62, 2) := by decide +kernel
theorem dX7_page_152 : decode cX7_page 152 = .ok (.ireturn, 1) := by decide +kernel
set_option maxRecDepth 20000 in
theorem ggX7_letter_X5_has : GoodIn wsX7_letter wsX5_has := goodIn_r _ [8, 9, 10, 11, 12, 35, 36, 37, 38, 39, 40, 41, 42] (by decide +kernel) (by decide +kernel)
set_option maxRecDepth 20000 in
theorem gX7_letter_X5_has : GoodIn wsX7_letter (wsV RX7 104 RX5 yX5_has wsX5_has) := goodIn_app (goodIn_of _ (by decide +kernel)) ggX7_letter_X5_has
set_option maxRecDepth 20000 in
theorem ggX7_letter_X7_isPlace : GoodIn wsX7_letter wsX7_isPlace := goodIn_r _ [15, 16, 10, 11, 12] (by decide +kernel) (by decide +kernel)
set_option maxRecDepth 20000 in
theorem gX7_letter_X7_isPlace : GoodIn wsX7_letter (va_wsS RX7 126 yX7_isPlace wsX7_isPlace) := goodIn_app (goodIn_of _ (by decide +kernel)) ggX7_letter_X7_isPlace
set_option maxRecDepth 20000 in
theorem ggX7_letter_X5_letterAt : GoodIn wsX7_letter wsX5_letterAt := goodIn_r _ [20, 21, 22, 23, 7, 24, 25, 35, 36, 37, 38, 39, 40, 41, 42] (by decide +kernel) (by decide +kernel)
set_option maxRecDepth 20000 in
theorem gX7_letter_X5_letterAt : GoodIn wsX7_letter (wsV RX7 130 RX5 yX5_letterAt wsX5_letterAt) := goodIn_app (goodIn_of _ (by decide +kernel)) ggX7_letter_X5_letterAt
theorem dX7_letter_0 : decode cX7_letter 0 = .ok (.aload_n 0, 1) := by decide +kernel
theorem dX7_letter_1 : decode cX7_letter 1 = .ok (.getfield 10, 3) := by decide +kernel
theorem dX7_letter_4 : decode cX7_letter 4 = .ok (.iload_n 1, 1) := by decide +kernel
theorem dX7_letter_5 : decode cX7_letter 5 = .ok (.invokevirtual 104, 3) := by decide +kernel
theorem dX7_letter_8 : decode cX7_letter 8 = .ok (.ifCond .ne 6, 3) := by decide +kernel
theorem dX7_letter_11 : decode cX7_letter 11 = .ok (.ldc 103, 2) := by decide +kernel
theorem dX7_letter_13 : decode cX7_letter 13 = .ok (.ireturn, 1) := by decide +kernel
theorem dX7_letter_14 : decode cX7_letter 14 = .ok (.iload_n 2, 1) := by decide +kernel
theorem dX7_letter_15 : decode cX7_letter 15 = .ok (.iload_n 3, 1) := by decide +kernel
theorem dX7_letter_16 : decode cX7_letter 16 = .ok (.invokestatic 126, 3) := by decide +kernel
theorem dX7_letter_19 : decode cX7_letter 19 = .ok (.ifCond .eq 16, 3) := by decide +kernel
theorem dX7_letter_22 : decode cX7_letter 22 = .ok (.aload_n 0, 1) := by decide +kernel
theorem dX7_letter_23 : decode cX7_letter 23 = .ok (.getfield 10, 3) := by decide +kernel
theorem dX7_letter_26 : decode cX7_letter 26 = .ok (.iload_n 1, 1) := by decide +kernel
theorem dX7_letter_27 : decode cX7_letter 27 = .ok (.iload_n 2, 1) := by decide +kernel
theorem dX7_letter_28 : decode cX7_letter 28 = .ok (.iload_n 3, 1) := by decide +kernel
theorem dX7_letter_29 : decode cX7_letter 29 = .ok (.invokevirtual 130, 3) := by decide +kernel
theorem dX7_letter_32 : decode cX7_letter 32 = .ok (.goto 5, 3) := by decide +kernel
theorem dX7_letter_35 : decode cX7_letter 35 = .ok (.ldc 62, 2) := by decide +kernel
theorem dX7_letter_37 : decode cX7_letter 37 = .ok (.ireturn, 1) := by decide +kernel
set_option maxRecDepth 20000 in
theorem ggX7_link_X5_has : GoodIn wsX7_link wsX5_has := goodIn_r _ [8, 9, 10, 11, 12, 32, 33, 34, 35, 36, 37, 38, 39] (by decide +kernel) (by decide +kernel)
set_option maxRecDepth 20000 in
theorem gX7_link_X5_has : GoodIn wsX7_link (wsV RX7 104 RX5 yX5_has wsX5_has) := goodIn_app (goodIn_of _ (by decide +kernel)) ggX7_link_X5_has
set_option maxRecDepth 20000 in
theorem ggX7_link_X7_isWithin : GoodIn wsX7_link wsX7_isWithin := goodIn_r _ [12] (by decide +kernel) (by decide +kernel)
set_option maxRecDepth 20000 in
theorem gX7_link_X7_isWithin : GoodIn wsX7_link (va_wsS RX7 52 yX7_isWithin wsX7_isWithin) := goodIn_app (goodIn_of _ (by decide +kernel)) ggX7_link_X7_isWithin
set_option maxRecDepth 20000 in
theorem ggX7_link_X5_linkAt : GoodIn wsX7_link wsX5_linkAt := goodIn_r _ [17, 18, 19, 20, 7, 21, 22, 32, 33, 34, 35, 36, 37, 38, 39] (by decide +kernel) (by decide +kernel)
set_option maxRecDepth 20000 in
theorem gX7_link_X5_linkAt : GoodIn wsX7_link (wsV RX7 134 RX5 yX5_linkAt wsX5_linkAt) := goodIn_app (goodIn_of _ (by decide +kernel)) ggX7_link_X5_linkAt
theorem dX7_link_0 : decode cX7_link 0 = .ok (.aload_n 0, 1) := by decide +kernel
theorem dX7_link_1 : decode cX7_link 1 = .ok (.getfield 10, 3) := by decide +kernel
theorem dX7_link_4 : decode cX7_link 4 = .ok (.iload_n 1, 1) := by decide +kernel
theorem dX7_link_5 : decode cX7_link 5 = .ok (.invokevirtual 104, 3) := by decide +kernel
theorem dX7_link_8 : decode cX7_link 8 = .ok (.ifCond .ne 6, 3) := by decide +kernel
theorem dX7_link_11 : decode cX7_link 11 = .ok (.ldc 103, 2) := by decide +kernel
theorem dX7_link_13 : decode cX7_link 13 = .ok (.ireturn, 1) := by decide +kernel
theorem dX7_link_14 : decode cX7_link 14 = .ok (.iload_n 2, 1) := by decide +kernel
theorem dX7_link_15 : decode cX7_link 15 = .ok (.iconst 0, 1) := by decide +kernel
theorem dX7_link_16 : decode cX7_link 16 = .ok (.iconst 3, 1) := by decide +kernel
theorem dX7_link_17 : decode cX7_link 17 = .ok (.invokestatic 52, 3) := by decide +kernel
theorem dX7_link_20 : decode cX7_link 20 = .ok (.ifCond .eq 15, 3) := by decide +kernel
theorem dX7_link_23 : decode cX7_link 23 = .ok (.aload_n 0, 1) := by decide +kernel
theorem dX7_link_24 : decode cX7_link 24 = .ok (.getfield 10, 3) := by decide +kernel
theorem dX7_link_27 : decode cX7_link 27 = .ok (.iload_n 1, 1) := by decide +kernel
theorem dX7_link_28 : decode cX7_link 28 = .ok (.iload_n 2, 1) := by decide +kernel
theorem dX7_link_29 : decode cX7_link 29 = .ok (.invokevirtual 134, 3) := by decide +kernel
theorem dX7_link_32 : decode cX7_link 32 = .ok (.goto 5, 3) := by decide +kernel
theorem dX7_link_35 : decode cX7_link 35 = .ok (.ldc 62, 2) := by decide +kernel
theorem dX7_link_37 : decode cX7_link 37 = .ok (.ireturn, 1) := by decide +kernel
set_option maxRecDepth 20000 in
theorem ggX7_far_X5_has : GoodIn wsX7_far wsX5_has := goodIn_r _ [7, 8, 9, 10, 11, 45, 46, 47, 48, 49, 50, 51, 52] (by decide +kernel) (by decide +kernel)
set_option maxRecDepth 20000 in
theorem gX7_far_X5_has : GoodIn wsX7_far (wsV RX7 104 RX5 yX5_has wsX5_has) := goodIn_app (goodIn_of _ (by decide +kernel)) ggX7_far_X5_has
set_option maxRecDepth 20000 in
theorem ggX7_far_X0_steps : GoodIn wsX7_far wsX0_steps := goodIn_r _ [15, 16, 17, 14, 18, 19, 20, 21, 22, 23, 24, 25, 26, 27, 28, 6, 29, 30, 31, 32, 33, 34, 35, 45, 46, 47, 48, 49, 50, 51, 52] (by decide +kernel) (by decide +kernel)
set_option maxRecDepth 20000 in
theorem gX7_far_X0_steps : GoodIn wsX7_far (va_wsS RX7 137 yX0_steps wsX0_steps) := goodIn_app (goodIn_of _ (by decide +kernel)) ggX7_far_X0_steps
theorem dX7_far_0 : decode cX7_far 0 = .ok (.aload_n 0, 1) := by decide +kernel
theorem dX7_far_1 : decode cX7_far 1 = .ok (.getfield 10, 3) := by decide +kernel
theorem dX7_far_4 : decode cX7_far 4 = .ok (.iload_n 1, 1) := by decide +kernel
theorem dX7_far_5 : decode cX7_far 5 = .ok (.invokevirtual 104, 3) := by decide +kernel
theorem dX7_far_8 : decode cX7_far 8 = .ok (.ifCond .eq 26, 3) := by decide +kernel
theorem dX7_far_11 : decode cX7_far 11 = .ok (.aload_n 0, 1) := by decide +kernel
theorem dX7_far_12 : decode cX7_far 12 = .ok (.getfield 10, 3) := by decide +kernel
theorem dX7_far_15 : decode cX7_far 15 = .ok (.iload_n 2, 1) := by decide +kernel
theorem dX7_far_16 : decode cX7_far 16 = .ok (.invokevirtual 104, 3) := by decide +kernel
theorem dX7_far_19 : decode cX7_far 19 = .ok (.ifCond .eq 15, 3) := by decide +kernel
theorem dX7_far_22 : decode cX7_far 22 = .ok (.aload_n 0, 1) := by decide +kernel
theorem dX7_far_23 : decode cX7_far 23 = .ok (.getfield 10, 3) := by decide +kernel
theorem dX7_far_26 : decode cX7_far 26 = .ok (.iload_n 1, 1) := by decide +kernel
theorem dX7_far_27 : decode cX7_far 27 = .ok (.iload_n 2, 1) := by decide +kernel
theorem dX7_far_28 : decode cX7_far 28 = .ok (.invokestatic 137, 3) := by decide +kernel
theorem dX7_far_31 : decode cX7_far 31 = .ok (.goto 5, 3) := by decide +kernel
theorem dX7_far_34 : decode cX7_far 34 = .ok (.ldc 103, 2) := by decide +kernel
theorem dX7_far_36 : decode cX7_far 36 = .ok (.ireturn, 1) := by decide +kernel
set_option maxRecDepth 20000 in
theorem ggX7_find_X5_search : GoodIn wsX7_find wsX5_search := goodIn_r _ [6, 7, 8, 9, 10, 5, 11, 12, 22, 23, 24, 25, 26, 27, 28, 29] (by decide +kernel) (by decide +kernel)
set_option maxRecDepth 20000 in
theorem gX7_find_X5_search : GoodIn wsX7_find (wsV RX7 141 RX5 yX5_search wsX5_search) := goodIn_app (goodIn_of _ (by decide +kernel)) ggX7_find_X5_search
theorem dX7_find_0 : decode cX7_find 0 = .ok (.aload_n 0, 1) := by decide +kernel
theorem dX7_find_1 : decode cX7_find 1 = .ok (.getfield 10, 3) := by decide +kernel
theorem dX7_find_4 : decode cX7_find 4 = .ok (.iload_n 1, 1) := by decide +kernel
theorem dX7_find_5 : decode cX7_find 5 = .ok (.iload_n 2, 1) := by decide +kernel
theorem dX7_find_6 : decode cX7_find 6 = .ok (.iload_n 3, 1) := by decide +kernel
theorem dX7_find_7 : decode cX7_find 7 = .ok (.invokevirtual 141, 3) := by decide +kernel
theorem dX7_find_10 : decode cX7_find 10 = .ok (.ireturn, 1) := by decide +kernel
set_option maxRecDepth 20000 in
theorem ggX7_weight_X5_has : GoodIn wsX7_weight wsX5_has := goodIn_r _ [9, 10, 11, 12, 13, 58, 59, 60, 61, 62, 63, 64, 65] (by decide +kernel) (by decide +kernel)
set_option maxRecDepth 20000 in
theorem gX7_weight_X5_has : GoodIn wsX7_weight (wsV RX7 104 RX5 yX5_has wsX5_has) := goodIn_app (goodIn_of _ (by decide +kernel)) ggX7_weight_X5_has
set_option maxRecDepth 20000 in
theorem ggX7_weight_X7_isWithin : GoodIn wsX7_weight wsX7_isWithin := goodIn_r _ [13] (by decide +kernel) (by decide +kernel)
set_option maxRecDepth 20000 in
theorem gX7_weight_X7_isWithin : GoodIn wsX7_weight (va_wsS RX7 52 yX7_isWithin wsX7_isWithin) := goodIn_app (goodIn_of _ (by decide +kernel)) ggX7_weight_X7_isWithin
set_option maxRecDepth 20000 in
theorem ggX7_weight_X6_remember : GoodIn wsX7_weight wsX6_remember := goodIn_r _ [19, 20, 21, 22, 23, 24, 25, 26, 27, 28, 29, 8, 30, 31, 10, 32, 33, 34, 35, 36, 37, 38, 39, 40, 66, 67, 68, 58, 59, 60, 61, 62, 63, 64, 65] (by decide +kernel) (by decide +kernel)
set_option maxRecDepth 20000 in
theorem gX7_weight_X6_remember : GoodIn wsX7_weight (wsV RX7 144 RX6 yX6_remember wsX6_remember) := goodIn_app (goodIn_of _ (by decide +kernel)) ggX7_weight_X6_remember
set_option maxRecDepth 20000 in
theorem ggX7_weight_X5_get : GoodIn wsX7_weight wsX5_get := goodIn_r _ [44, 31, 58, 59, 60, 61, 62, 63, 64, 65] (by decide +kernel) (by decide +kernel)
set_option maxRecDepth 20000 in
theorem gX7_weight_X5_get : GoodIn wsX7_weight (wsV RX7 108 RX5 yX5_get wsX5_get) := goodIn_app (goodIn_of _ (by decide +kernel)) ggX7_weight_X5_get
set_option maxRecDepth 20000 in
theorem ggX7_weight_X5_set : GoodIn wsX7_weight wsX5_set := goodIn_r _ [48, 31, 58, 59, 60, 61, 62, 63, 64, 65] (by decide +kernel) (by decide +kernel)
set_option maxRecDepth 20000 in
theorem gX7_weight_X5_set : GoodIn wsX7_weight (wsV RX7 148 RX5 yX5_set wsX5_set) := goodIn_app (goodIn_of _ (by decide +kernel)) ggX7_weight_X5_set
theorem dX7_weight_0 : decode cX7_weight 0 = .ok (.aload_n 0, 1) := by decide +kernel
theorem dX7_weight_1 : decode cX7_weight 1 = .ok (.getfield 10, 3) := by decide +kernel
theorem dX7_weight_4 : decode cX7_weight 4 = .ok (.iload_n 1, 1) := by decide +kernel
theorem dX7_weight_5 : decode cX7_weight 5 = .ok (.invokevirtual 104, 3) := by decide +kernel
theorem dX7_weight_8 : decode cX7_weight 8 = .ok (.ifCond .ne 6, 3) := by decide +kernel
theorem dX7_weight_11 : decode cX7_weight 11 = .ok (.ldc 103, 2) := by decide +kernel
theorem dX7_weight_13 : decode cX7_weight 13 = .ok (.ireturn, 1) := by decide +kernel
theorem dX7_weight_14 : decode cX7_weight 14 = .ok (.iload_n 2, 1) := by decide +kernel
theorem dX7_weight_15 : decode cX7_weight 15 = .ok (.iconst 1, 1) := by decide +kernel
theorem dX7_weight_16 : decode cX7_weight 16 = .ok (.bipush 9, 2) := by decide +kernel
theorem dX7_weight_18 : decode cX7_weight 18 = .ok (.invokestatic 52, 3) := by decide +kernel
theorem dX7_weight_21 : decode cX7_weight 21 = .ok (.ifCond .ne 6, 3) := by decide +kernel
theorem dX7_weight_24 : decode cX7_weight 24 = .ok (.ldc 62, 2) := by decide +kernel
theorem dX7_weight_26 : decode cX7_weight 26 = .ok (.ireturn, 1) := by decide +kernel
theorem dX7_weight_27 : decode cX7_weight 27 = .ok (.aload_n 0, 1) := by decide +kernel
theorem dX7_weight_28 : decode cX7_weight 28 = .ok (.getfield 19, 3) := by decide +kernel
theorem dX7_weight_31 : decode cX7_weight 31 = .ok (.aload_n 0, 1) := by decide +kernel
theorem dX7_weight_32 : decode cX7_weight 32 = .ok (.getfield 10, 3) := by decide +kernel
theorem dX7_weight_35 : decode cX7_weight 35 = .ok (.invokevirtual 144, 3) := by decide +kernel
theorem dX7_weight_38 : decode cX7_weight 38 = .ok (.aload_n 0, 1) := by decide +kernel
theorem dX7_weight_39 : decode cX7_weight 39 = .ok (.getfield 10, 3) := by decide +kernel
theorem dX7_weight_42 : decode cX7_weight 42 = .ok (.iload_n 1, 1) := by decide +kernel
theorem dX7_weight_43 : decode cX7_weight 43 = .ok (.iconst 4, 1) := by decide +kernel
theorem dX7_weight_44 : decode cX7_weight 44 = .ok (.invokevirtual 108, 3) := by decide +kernel
theorem dX7_weight_47 : decode cX7_weight 47 = .ok (.istore_n 3, 1) := by decide +kernel
theorem dX7_weight_48 : decode cX7_weight 48 = .ok (.aload_n 0, 1) := by decide +kernel
theorem dX7_weight_49 : decode cX7_weight 49 = .ok (.getfield 10, 3) := by decide +kernel
theorem dX7_weight_52 : decode cX7_weight 52 = .ok (.iload_n 1, 1) := by decide +kernel
theorem dX7_weight_53 : decode cX7_weight 53 = .ok (.iconst 4, 1) := by decide +kernel
theorem dX7_weight_54 : decode cX7_weight 54 = .ok (.iload_n 2, 1) := by decide +kernel
theorem dX7_weight_55 : decode cX7_weight 55 = .ok (.invokevirtual 148, 3) := by decide +kernel
theorem dX7_weight_58 : decode cX7_weight 58 = .ok (.iload_n 3, 1) := by decide +kernel
theorem dX7_weight_59 : decode cX7_weight 59 = .ok (.ireturn, 1) := by decide +kernel
set_option maxRecDepth 20000 in
theorem ggX7_drop_X5_has : GoodIn wsX7_drop wsX5_has := goodIn_r _ [9, 10, 11, 12, 13, 53, 54, 55, 56, 57, 58, 59, 60] (by decide +kernel) (by decide +kernel)
set_option maxRecDepth 20000 in
theorem gX7_drop_X5_has : GoodIn wsX7_drop (wsV RX7 104 RX5 yX5_has wsX5_has) := goodIn_app (goodIn_of _ (by decide +kernel)) ggX7_drop_X5_has
set_option maxRecDepth 20000 in
theorem ggX7_drop_X6_remember : GoodIn wsX7_drop wsX6_remember := goodIn_r _ [18, 19, 20, 21, 22, 23, 24, 25, 26, 27, 28, 8, 29, 30, 10, 31, 32, 33, 34, 35, 36, 37, 38, 39, 61, 62, 63, 53, 54, 55, 56, 57, 58, 59, 60] (by decide +kernel) (by decide +kernel)
set_option maxRecDepth 20000 in
theorem gX7_drop_X6_remember : GoodIn wsX7_drop (wsV RX7 144 RX6 yX6_remember wsX6_remember) := goodIn_app (goodIn_of _ (by decide +kernel)) ggX7_drop_X6_remember
set_option maxRecDepth 20000 in
theorem ggX7_drop_X5_remove : GoodIn wsX7_drop wsX5_remove := goodIn_r _ [43, 10, 30, 31, 32, 33, 34, 35, 53, 54, 55, 56, 57, 58, 59, 60] (by decide +kernel) (by decide +kernel)
set_option maxRecDepth 20000 in
theorem gX7_drop_X5_remove : GoodIn wsX7_drop (wsV RX7 152 RX5 yX5_remove wsX5_remove) := goodIn_app (goodIn_of _ (by decide +kernel)) ggX7_drop_X5_remove
theorem dX7_drop_0 : decode cX7_drop 0 = .ok (.aload_n 0, 1) := by decide +kernel
theorem dX7_drop_1 : decode cX7_drop 1 = .ok (.getfield 10, 3) := by decide +kernel
theorem dX7_drop_4 : decode cX7_drop 4 = .ok (.iload_n 1, 1) := by decide +kernel
theorem dX7_drop_5 : decode cX7_drop 5 = .ok (.invokevirtual 104, 3) := by decide +kernel
theorem dX7_drop_8 : decode cX7_drop 8 = .ok (.ifCond .ne 6, 3) := by decide +kernel
theorem dX7_drop_11 : decode cX7_drop 11 = .ok (.ldc 103, 2) := by decide +kernel
theorem dX7_drop_13 : decode cX7_drop 13 = .ok (.ireturn, 1) := by decide +kernel
theorem dX7_drop_14 : decode cX7_drop 14 = .ok (.aload_n 0, 1) := by decide +kernel
theorem dX7_drop_15 : decode cX7_drop 15 = .ok (.getfield 19, 3) := by decide +kernel
theorem dX7_drop_18 : decode cX7_drop 18 = .ok (.aload_n 0, 1) := by decide +kernel
theorem dX7_drop_19 : decode cX7_drop 19 = .ok (.getfield 10, 3) := by decide +kernel
theorem dX7_drop_22 : decode cX7_drop 22 = .ok (.invokevirtual 144, 3) := by decide +kernel
theorem dX7_drop_25 : decode cX7_drop 25 = .ok (.aload_n 0, 1) := by decide +kernel
theorem dX7_drop_26 : decode cX7_drop 26 = .ok (.getfield 10, 3) := by decide +kernel
theorem dX7_drop_29 : decode cX7_drop 29 = .ok (.iload_n 1, 1) := by decide +kernel
theorem dX7_drop_30 : decode cX7_drop 30 = .ok (.invokevirtual 152, 3) := by decide +kernel
theorem dX7_drop_33 : decode cX7_drop 33 = .ok (.aload_n 0, 1) := by decide +kernel
theorem dX7_drop_34 : decode cX7_drop 34 = .ok (.getfield 10, 3) := by decide +kernel
theorem dX7_drop_37 : decode cX7_drop 37 = .ok (.getfield 78, 3) := by decide +kernel
theorem dX7_drop_40 : decode cX7_drop 40 = .ok (.ireturn, 1) := by decide +kernel
set_option maxRecDepth 20000 in
theorem ggX7_drift_X7_isWithin : GoodIn wsX7_drift wsX7_isWithin := goodIn_r _ [8] (by decide +kernel) (by decide +kernel)
set_option maxRecDepth 20000 in
theorem gX7_drift_X7_isWithin : GoodIn wsX7_drift (va_wsS RX7 52 yX7_isWithin wsX7_isWithin) := goodIn_app (goodIn_of _ (by decide +kernel)) ggX7_drift_X7_isWithin
set_option maxRecDepth 20000 in
theorem ggX7_drift_X7_drawPacket : GoodIn wsX7_drift wsX7_drawPacket := goodIn_r _ [12, 3, 2, 13, 14, 15, 16, 17, 18, 19, 20, 21, 22, 23, 24, 25, 26, 27, 28, 29, 30, 31, 32, 33, 7, 34, 35, 36, 37, 38, 39, 40, 41, 42, 43, 44, 45, 46, 47, 166, 167, 168, 169, 170, 171, 172, 173, 174, 175, 176, 177, 178, 179, 180, 181, 182] (by decide +kernel) (by decide +kernel)
set_option maxRecDepth 20000 in
theorem gX7_drift_X7_drawPacket : GoodIn wsX7_drift (wsV RX7 156 RX7 yX7_drawPacket wsX7_drawPacket) := goodIn_app (goodIn_of _ (by decide +kernel)) ggX7_drift_X7_drawPacket
set_option maxRecDepth 20000 in
theorem ggX7_drift_X7_comes : GoodIn wsX7_drift wsX7_comes := goodIn_r _ [51, 52, 3, 53, 54, 55, 56, 57, 58, 59, 60, 61, 62, 63, 64, 65, 66, 67, 68, 69, 16, 70, 71, 72, 73, 74, 75, 76, 77, 78, 79, 80, 81, 82, 83, 84, 85, 86, 87, 88, 89, 90, 91, 92, 93, 29, 94, 31, 41, 42, 43, 44, 45, 46, 47, 95, 28, 30, 96, 6, 7, 8, 97, 98, 99, 100, 101, 102, 103, 104, 105, 106, 107, 108, 109, 110, 111, 112, 113, 114, 115, 116, 117, 118, 119, 120, 121, 122, 123, 124, 125, 126, 127, 128, 129, 130, 131, 132, 133, 134, 135, 136, 137, 138, 139, 140, 141, 142, 143, 144, 145, 146, 147, 148, 149, 150, 151, 152, 153, 154, 155, 156, 157, 158, 159, 160, 161, 162, 39, 40, 163, 164, 165, 166, 167, 168, 169, 170, 171, 172, 173, 174, 175, 176, 177, 178, 179, 180, 181, 182, 183, 184, 185] (by decide +kernel) (by decide +kernel)
set_option maxRecDepth 20000 in
theorem gX7_drift_X7_comes : GoodIn wsX7_drift (wsV RX7 70 RX7 yX7_comes wsX7_comes) := goodIn_app (goodIn_of _ (by decide +kernel)) ggX7_drift_X7_comes
theorem dX7_drift_0 : decode cX7_drift 0 = .ok (.iload_n 1, 1) := by decide +kernel
theorem dX7_drift_1 : decode cX7_drift 1 = .ok (.iconst 1, 1) := by decide +kernel
theorem dX7_drift_2 : decode cX7_drift 2 = .ok (.bipush 16, 2) := by decide +kernel
theorem dX7_drift_4 : decode cX7_drift 4 = .ok (.invokestatic 52, 3) := by decide +kernel
theorem dX7_drift_7 : decode cX7_drift 7 = .ok (.ifCond .ne 6, 3) := by decide +kernel
theorem dX7_drift_10 : decode cX7_drift 10 = .ok (.ldc 62, 2) := by decide +kernel
theorem dX7_drift_12 : decode cX7_drift 12 = .ok (.ireturn, 1) := by decide +kernel
theorem dX7_drift_13 : decode cX7_drift 13 = .ok (.iconst 0, 1) := by decide +kernel
theorem dX7_drift_14 : decode cX7_drift 14 = .ok (.istore_n 2, 1) := by decide +kernel
theorem dX7_drift_15 : decode cX7_drift 15 = .ok (.iload_n 2, 1) := by decide +kernel
theorem dX7_drift_16 : decode cX7_drift 16 = .ok (.iload_n 1, 1) := by decide +kernel
theorem dX7_drift_17 : decode cX7_drift 17 = .ok (.if_icmp .ge 22, 3) := by decide +kernel
theorem dX7_drift_20 : decode cX7_drift 20 = .ok (.aload_n 0, 1) := by decide +kernel
theorem dX7_drift_21 : decode cX7_drift 21 = .ok (.invokevirtual 156, 3) := by decide +kernel
theorem dX7_drift_24 : decode cX7_drift 24 = .ok (.aload_n 0, 1) := by decide +kernel
theorem dX7_drift_25 : decode cX7_drift 25 = .ok (.aload_n 0, 1) := by decide +kernel
theorem dX7_drift_26 : decode cX7_drift 26 = .ok (.getfield 49, 3) := by decide +kernel
theorem dX7_drift_29 : decode cX7_drift 29 = .ok (.invokevirtual 70, 3) := by decide +kernel
theorem dX7_drift_32 : decode cX7_drift 32 = .ok (.pop, 1) := by decide +kernel
theorem dX7_drift_33 : decode cX7_drift 33 = .ok (.iinc 2 1, 3) := by decide +kernel
theorem dX7_drift_36 : decode cX7_drift 36 = .ok (.goto (-21), 3) := by decide +kernel
theorem dX7_drift_39 : decode cX7_drift 39 = .ok (.aload_n 0, 1) := by decide +kernel
theorem dX7_drift_40 : decode cX7_drift 40 = .ok (.getfield 10, 3) := by decide +kernel
theorem dX7_drift_43 : decode cX7_drift 43 = .ok (.getfield 78, 3) := by decide +kernel
theorem dX7_drift_46 : decode cX7_drift 46 = .ok (.ireturn, 1) := by decide +kernel
set_option maxRecDepth 20000 in
theorem ggX7_undo_X7_isWithin : GoodIn wsX7_undo wsX7_isWithin := goodIn_r _ [10] (by decide +kernel) (by decide +kernel)
set_option maxRecDepth 20000 in
theorem gX7_undo_X7_isWithin : GoodIn wsX7_undo (va_wsS RX7 52 yX7_isWithin wsX7_isWithin) := goodIn_app (goodIn_of _ (by decide +kernel)) ggX7_undo_X7_isWithin
set_option maxRecDepth 20000 in
theorem ggX7_undo_X6_takeBack : GoodIn wsX7_undo wsX6_takeBack := goodIn_r _ [15, 16, 17, 18, 19, 20, 21, 22, 23, 24, 25, 26, 27, 28, 29, 30, 31, 32, 33, 34, 35, 36, 37, 38, 48, 49, 50, 51, 52, 53, 54, 55, 56, 57, 58] (by decide +kernel) (by decide +kernel)
set_option maxRecDepth 20000 in
theorem gX7_undo_X6_takeBack : GoodIn wsX7_undo (wsV RX7 160 RX6 yX6_takeBack wsX6_takeBack) := goodIn_app (goodIn_of _ (by decide +kernel)) ggX7_undo_X6_takeBack
theorem dX7_undo_0 : decode cX7_undo 0 = .ok (.iload_n 1, 1) := by decide +kernel
theorem dX7_undo_1 : decode cX7_undo 1 = .ok (.iconst 1, 1) := by decide +kernel
theorem dX7_undo_2 : decode cX7_undo 2 = .ok (.bipush 16, 2) := by decide +kernel
theorem dX7_undo_4 : decode cX7_undo 4 = .ok (.invokestatic 52, 3) := by decide +kernel
theorem dX7_undo_7 : decode cX7_undo 7 = .ok (.ifCond .ne 6, 3) := by decide +kernel
theorem dX7_undo_10 : decode cX7_undo 10 = .ok (.ldc 62, 2) := by decide +kernel
theorem dX7_undo_12 : decode cX7_undo 12 = .ok (.ireturn, 1) := by decide +kernel
theorem dX7_undo_13 : decode cX7_undo 13 = .ok (.iload_n 1, 1) := by decide +kernel
theorem dX7_undo_14 : decode cX7_undo 14 = .ok (.aload_n 0, 1) := by decide +kernel
theorem dX7_undo_15 : decode cX7_undo 15 = .ok (.getfield 19, 3) := by decide +kernel
theorem dX7_undo_18 : decode cX7_undo 18 = .ok (.getfield 97, 3) := by decide +kernel
theorem dX7_undo_21 : decode cX7_undo 21 = .ok (.if_icmp .le 6, 3) := by decide +kernel
theorem dX7_undo_24 : decode cX7_undo 24 = .ok (.ldc 159, 2) := by decide +kernel
theorem dX7_undo_26 : decode cX7_undo 26 = .ok (.ireturn, 1) := by decide +kernel
theorem dX7_undo_27 : decode cX7_undo 27 = .ok (.aload_n 0, 1) := by decide +kernel
theorem dX7_undo_28 : decode cX7_undo 28 = .ok (.getfield 19, 3) := by decide +kernel
theorem dX7_undo_31 : decode cX7_undo 31 = .ok (.aload_n 0, 1) := by decide +kernel
theorem dX7_undo_32 : decode cX7_undo 32 = .ok (.getfield 10, 3) := by decide +kernel
theorem dX7_undo_35 : decode cX7_undo 35 = .ok (.iload_n 1, 1) := by decide +kernel
theorem dX7_undo_36 : decode cX7_undo 36 = .ok (.invokevirtual 160, 3) := by decide +kernel
theorem dX7_undo_39 : decode cX7_undo 39 = .ok (.aload_n 0, 1) := by decide +kernel
theorem dX7_undo_40 : decode cX7_undo 40 = .ok (.getfield 10, 3) := by decide +kernel
theorem dX7_undo_43 : decode cX7_undo 43 = .ok (.getfield 81, 3) := by decide +kernel
theorem dX7_undo_46 : decode cX7_undo 46 = .ok (.ireturn, 1) := by decide +kernel
set_option maxRecDepth 20000 in
theorem ggX7_sent_X7_isWithin : GoodIn wsX7_sent wsX7_isWithin := goodIn_r _ [7] (by decide +kernel) (by decide +kernel)
set_option maxRecDepth 20000 in
theorem gX7_sent_X7_isWithin : GoodIn wsX7_sent (va_wsS RX7 52 yX7_isWithin wsX7_isWithin) := goodIn_app (goodIn_of _ (by decide +kernel)) ggX7_sent_X7_isWithin
set_option maxRecDepth 20000 in
theorem ggX7_sent_X4_prepare : GoodIn wsX7_sent wsX4_prepare := goodIn_r _ [12, 13, 14, 15, 16, 17, 18, 19, 20, 21, 22, 23, 24, 25, 26, 27, 28, 29, 30, 31, 32, 33, 34, 35, 36, 37, 38, 39, 40, 41, 42, 43, 44, 45, 46, 47, 48, 49, 50, 51, 52, 53, 54, 55, 100, 101, 102, 103, 104, 105, 106, 107, 108, 109, 110, 111, 112, 113, 114] (by decide +kernel) (by decide +kernel)
set_option maxRecDepth 20000 in
theorem gX7_sent_X4_prepare : GoodIn wsX7_sent (wsV RX7 164 RX4 yX4_prepare wsX4_prepare) := goodIn_app (goodIn_of _ (by decide +kernel)) ggX7_sent_X4_prepare
set_option maxRecDepth 20000 in
theorem ggX7_sent_X4_run : GoodIn wsX7_sent wsX4_run := goodIn_r _ [59, 60, 61, 62, 63, 18, 19, 64, 65, 66, 67, 68, 69, 70, 11, 71, 72, 73, 74, 75, 20, 76, 77, 78, 79, 80, 81, 82, 83, 84, 85, 86, 87, 88, 89, 16, 90, 108, 109, 110, 111, 112, 113, 114] (by decide +kernel) (by decide +kernel)
set_option maxRecDepth 20000 in
theorem gX7_sent_X4_run : GoodIn wsX7_sent (wsV RX7 167 RX4 yX4_run wsX4_run) := goodIn_app (goodIn_of _ (by decide +kernel)) ggX7_sent_X4_run
theorem dX7_sent_0 : decode cX7_sent 0 = .ok (.iload_n 1, 1) := by decide +kernel
theorem dX7_sent_1 : decode cX7_sent 1 = .ok (.iconst 0, 1) := by decide +kernel
theorem dX7_sent_2 : decode cX7_sent 2 = .ok (.iconst 3, 1) := by decide +kernel
theorem dX7_sent_3 : decode cX7_sent 3 = .ok (.invokestatic 52, 3) := by decide +kernel
theorem dX7_sent_6 : decode cX7_sent 6 = .ok (.ifCond .eq 13, 3) := by decide +kernel
theorem dX7_sent_9 : decode cX7_sent 9 = .ok (.iload_n 2, 1) := by decide +kernel
theorem dX7_sent_10 : decode cX7_sent 10 = .ok (.iconst 0, 1) := by decide +kernel
theorem dX7_sent_11 : decode cX7_sent 11 = .ok (.bipush 59, 2) := by decide +kernel
theorem dX7_sent_13 : decode cX7_sent 13 = .ok (.invokestatic 52, 3) := by decide +kernel
theorem dX7_sent_16 : decode cX7_sent 16 = .ok (.ifCond .ne 6, 3) := by decide +kernel
theorem dX7_sent_19 : decode cX7_sent 19 = .ok (.ldc 62, 2) := by decide +kernel
theorem dX7_sent_21 : decode cX7_sent 21 = .ok (.ireturn, 1) := by decide +kernel
theorem dX7_sent_22 : decode cX7_sent 22 = .ok (.aload_n 0, 1) := by decide +kernel
theorem dX7_sent_23 : decode cX7_sent 23 = .ok (.getfield 41, 3) := by decide +kernel
theorem dX7_sent_26 : decode cX7_sent 26 = .ok (.aload_n 0, 1) := by decide +kernel
theorem dX7_sent_27 : decode cX7_sent 27 = .ok (.getfield 10, 3) := by decide +kernel
theorem dX7_sent_30 : decode cX7_sent 30 = .ok (.invokevirtual 164, 3) := by decide +kernel
theorem dX7_sent_33 : decode cX7_sent 33 = .ok (.aload_n 0, 1) := by decide +kernel
theorem dX7_sent_34 : decode cX7_sent 34 = .ok (.getfield 41, 3) := by decide +kernel
theorem dX7_sent_37 : decode cX7_sent 37 = .ok (.iload_n 1, 1) := by decide +kernel
theorem dX7_sent_38 : decode cX7_sent 38 = .ok (.iload_n 2, 1) := by decide +kernel
theorem dX7_sent_39 : decode cX7_sent 39 = .ok (.iconst 1, 1) := by decide +kernel
theorem dX7_sent_40 : decode cX7_sent 40 = .ok (.iadd, 1) := by decide +kernel
theorem dX7_sent_41 : decode cX7_sent 41 = .ok (.invokevirtual 167, 3) := by decide +kernel
theorem dX7_sent_44 : decode cX7_sent 44 = .ok (.ireturn, 1) := by decide +kernel
set_option maxRecDepth 20000 in
theorem ggX7_waits_X5_has : GoodIn wsX7_waits wsX5_has := goodIn_r _ [9, 10, 11, 12, 13, 110, 111, 112, 113, 114, 115, 116, 117] (by decide +kernel) (by decide +kernel)
set_option maxRecDepth 20000 in
theorem gX7_waits_X5_has : GoodIn wsX7_waits (wsV RX7 104 RX5 yX5_has wsX5_has) := goodIn_app (goodIn_of _ (by decide +kernel)) ggX7_waits_X5_has
set_option maxRecDepth 20000 in
theorem ggX7_waits_X7_isWithin : GoodIn wsX7_waits wsX7_isWithin := goodIn_r _ [13] (by decide +kernel) (by decide +kernel)
set_option maxRecDepth 20000 in
theorem gX7_waits_X7_isWithin : GoodIn wsX7_waits (va_wsS RX7 52 yX7_isWithin wsX7_isWithin) := goodIn_app (goodIn_of _ (by decide +kernel)) ggX7_waits_X7_isWithin
set_option maxRecDepth 20000 in
theorem ggX7_waits_X4_prepare : GoodIn wsX7_waits wsX4_prepare := goodIn_r _ [19, 20, 21, 22, 23, 24, 25, 26, 27, 28, 29, 30, 31, 32, 33, 34, 35, 36, 37, 38, 39, 40, 8, 41, 42, 43, 44, 45, 46, 47, 48, 49, 50, 51, 52, 53, 54, 55, 56, 57, 58, 59, 60, 61, 110, 111, 112, 113, 114, 115, 116, 117, 118, 119, 120, 121, 122, 123, 124] (by decide +kernel) (by decide +kernel)
set_option maxRecDepth 20000 in
theorem gX7_waits_X4_prepare : GoodIn wsX7_waits (wsV RX7 164 RX4 yX4_prepare wsX4_prepare) := goodIn_app (goodIn_of _ (by decide +kernel)) ggX7_waits_X4_prepare
set_option maxRecDepth 20000 in
theorem ggX7_waits_X4_run : GoodIn wsX7_waits wsX4_run := goodIn_r _ [65, 66, 67, 68, 69, 25, 26, 70, 71, 72, 73, 74, 75, 76, 18, 77, 78, 79, 80, 81, 27, 82, 83, 84, 85, 86, 87, 88, 89, 90, 91, 92, 93, 94, 95, 23, 96, 118, 119, 120, 121, 122, 123, 124] (by decide +kernel) (by decide +kernel)
set_option maxRecDepth 20000 in
theorem gX7_waits_X4_run : GoodIn wsX7_waits (wsV RX7 167 RX4 yX4_run wsX4_run) := goodIn_app (goodIn_of _ (by decide +kernel)) ggX7_waits_X4_run
set_option maxRecDepth 20000 in
theorem ggX7_waits_X4_waitOf : GoodIn wsX7_waits wsX4_waitOf := goodIn_r _ [100, 25, 68, 11, 12, 13, 118, 119, 120, 121, 122, 123, 124] (by decide +kernel) (by decide +kernel)
set_option maxRecDepth 20000 in
theorem gX7_waits_X4_waitOf : GoodIn wsX7_waits (wsV RX7 170 RX4 yX4_waitOf wsX4_waitOf) := goodIn_app (goodIn_of _ (by decide +kernel)) ggX7_waits_X4_waitOf
theorem dX7_waits_0 : decode cX7_waits 0 = .ok (.aload_n 0, 1) := by decide +kernel
theorem dX7_waits_1 : decode cX7_waits 1 = .ok (.getfield 10, 3) := by decide +kernel
theorem dX7_waits_4 : decode cX7_waits 4 = .ok (.iload_n 1, 1) := by decide +kernel
theorem dX7_waits_5 : decode cX7_waits 5 = .ok (.invokevirtual 104, 3) := by decide +kernel
theorem dX7_waits_8 : decode cX7_waits 8 = .ok (.ifCond .ne 6, 3) := by decide +kernel
theorem dX7_waits_11 : decode cX7_waits 11 = .ok (.ldc 103, 2) := by decide +kernel
theorem dX7_waits_13 : decode cX7_waits 13 = .ok (.ireturn, 1) := by decide +kernel
theorem dX7_waits_14 : decode cX7_waits 14 = .ok (.iload_n 2, 1) := by decide +kernel
theorem dX7_waits_15 : decode cX7_waits 15 = .ok (.iconst 0, 1) := by decide +kernel
theorem dX7_waits_16 : decode cX7_waits 16 = .ok (.iconst 3, 1) := by decide +kernel
theorem dX7_waits_17 : decode cX7_waits 17 = .ok (.invokestatic 52, 3) := by decide +kernel
theorem dX7_waits_20 : decode cX7_waits 20 = .ok (.ifCond .eq 13, 3) := by decide +kernel
theorem dX7_waits_23 : decode cX7_waits 23 = .ok (.iload_n 3, 1) := by decide +kernel
theorem dX7_waits_24 : decode cX7_waits 24 = .ok (.iconst 1, 1) := by decide +kernel
theorem dX7_waits_25 : decode cX7_waits 25 = .ok (.bipush 60, 2) := by decide +kernel
theorem dX7_waits_27 : decode cX7_waits 27 = .ok (.invokestatic 52, 3) := by decide +kernel
theorem dX7_waits_30 : decode cX7_waits 30 = .ok (.ifCond .ne 6, 3) := by decide +kernel
theorem dX7_waits_33 : decode cX7_waits 33 = .ok (.ldc 62, 2) := by decide +kernel
theorem dX7_waits_35 : decode cX7_waits 35 = .ok (.ireturn, 1) := by decide +kernel
theorem dX7_waits_36 : decode cX7_waits 36 = .ok (.aload_n 0, 1) := by decide +kernel
theorem dX7_waits_37 : decode cX7_waits 37 = .ok (.getfield 41, 3) := by decide +kernel
theorem dX7_waits_40 : decode cX7_waits 40 = .ok (.aload_n 0, 1) := by decide +kernel
theorem dX7_waits_41 : decode cX7_waits 41 = .ok (.getfield 10, 3) := by decide +kernel
theorem dX7_waits_44 : decode cX7_waits 44 = .ok (.invokevirtual 164, 3) := by decide +kernel
theorem dX7_waits_47 : decode cX7_waits 47 = .ok (.aload_n 0, 1) := by decide +kernel
theorem dX7_waits_48 : decode cX7_waits 48 = .ok (.getfield 41, 3) := by decide +kernel
theorem dX7_waits_51 : decode cX7_waits 51 = .ok (.iload_n 2, 1) := by decide +kernel
theorem dX7_waits_52 : decode cX7_waits 52 = .ok (.iload_n 3, 1) := by decide +kernel
theorem dX7_waits_53 : decode cX7_waits 53 = .ok (.invokevirtual 167, 3) := by decide +kernel
theorem dX7_waits_56 : decode cX7_waits 56 = .ok (.pop, 1) := by decide +kernel
theorem dX7_waits_57 : decode cX7_waits 57 = .ok (.aload_n 0, 1) := by decide +kernel
theorem dX7_waits_58 : decode cX7_waits 58 = .ok (.getfield 41, 3) := by decide +kernel
theorem dX7_waits_61 : decode cX7_waits 61 = .ok (.iload_n 1, 1) := by decide +kernel
theorem dX7_waits_62 : decode cX7_waits 62 = .ok (.invokevirtual 170, 3) := by decide +kernel
theorem dX7_waits_65 : decode cX7_waits 65 = .ok (.ireturn, 1) := by decide +kernel
set_option maxRecDepth 20000 in
theorem ggX7_bestRule_X7_isWithin : GoodIn wsX7_bestRule wsX7_isWithin := goodIn_r _ [7] (by decide +kernel) (by decide +kernel)
set_option maxRecDepth 20000 in
theorem gX7_bestRule_X7_isWithin : GoodIn wsX7_bestRule (va_wsS RX7 52 yX7_isWithin wsX7_isWithin) := goodIn_app (goodIn_of _ (by decide +kernel)) ggX7_bestRule_X7_isWithin
set_option maxRecDepth 20000 in
theorem ggX7_bestRule_X4_prepare : GoodIn wsX7_bestRule wsX4_prepare := goodIn_r _ [12, 13, 14, 15, 16, 17, 18, 19, 20, 21, 22, 23, 24, 25, 26, 27, 28, 29, 30, 31, 32, 33, 34, 35, 36, 37, 38, 39, 40, 41, 42, 43, 44, 45, 46, 47, 48, 49, 50, 51, 52, 53, 54, 55, 108, 109, 110, 111, 112, 113, 114, 115, 116, 117, 118, 119, 120, 121, 122] (by decide +kernel) (by decide +kernel)
set_option maxRecDepth 20000 in
theorem gX7_bestRule_X4_prepare : GoodIn wsX7_bestRule (wsV RX7 164 RX4 yX4_prepare wsX4_prepare) := goodIn_app (goodIn_of _ (by decide +kernel)) ggX7_bestRule_X4_prepare
set_option maxRecDepth 20000 in
theorem ggX7_bestRule_X4_best : GoodIn wsX7_bestRule wsX4_best := goodIn_r _ [59, 18, 60, 61, 62, 11, 63, 20, 64, 65, 66, 16, 67, 68, 69, 70, 71, 72, 73, 74, 19, 75, 76, 77, 78, 79, 80, 81, 82, 83, 84, 85, 86, 87, 88, 89, 90, 91, 92, 93, 94, 95, 96, 97, 98, 116, 117, 118, 119, 120, 121, 122] (by decide +kernel) (by decide +kernel)
set_option maxRecDepth 20000 in
theorem gX7_bestRule_X4_best : GoodIn wsX7_bestRule (wsV RX7 173 RX4 yX4_best wsX4_best) := goodIn_app (goodIn_of _ (by decide +kernel)) ggX7_bestRule_X4_best
theorem dX7_bestRule_0 : decode cX7_bestRule 0 = .ok (.iload_n 1, 1) := by decide +kernel
theorem dX7_bestRule_1 : decode cX7_bestRule 1 = .ok (.iconst 1, 1) := by decide +kernel
theorem dX7_bestRule_2 : decode cX7_bestRule 2 = .ok (.bipush 60, 2) := by decide +kernel
theorem dX7_bestRule_4 : decode cX7_bestRule 4 = .ok (.invokestatic 52, 3) := by decide +kernel
theorem dX7_bestRule_7 : decode cX7_bestRule 7 = .ok (.ifCond .ne 6, 3) := by decide +kernel
theorem dX7_bestRule_10 : decode cX7_bestRule 10 = .ok (.ldc 62, 2) := by decide +kernel
theorem dX7_bestRule_12 : decode cX7_bestRule 12 = .ok (.ireturn, 1) := by decide +kernel
theorem dX7_bestRule_13 : decode cX7_bestRule 13 = .ok (.aload_n 0, 1) := by decide +kernel
theorem dX7_bestRule_14 : decode cX7_bestRule 14 = .ok (.getfield 41, 3) := by decide +kernel
theorem dX7_bestRule_17 : decode cX7_bestRule 17 = .ok (.aload_n 0, 1) := by decide +kernel
theorem dX7_bestRule_18 : decode cX7_bestRule 18 = .ok (.getfield 10, 3) := by decide +kernel
theorem dX7_bestRule_21 : decode cX7_bestRule 21 = .ok (.invokevirtual 164, 3) := by decide +kernel
theorem dX7_bestRule_24 : decode cX7_bestRule 24 = .ok (.aload_n 0, 1) := by decide +kernel
theorem dX7_bestRule_25 : decode cX7_bestRule 25 = .ok (.getfield 41, 3) := by decide +kernel
theorem dX7_bestRule_28 : decode cX7_bestRule 28 = .ok (.iload_n 1, 1) := by decide +kernel
theorem dX7_bestRule_29 : decode cX7_bestRule 29 = .ok (.invokevirtual 173, 3) := by decide +kernel
theorem dX7_bestRule_32 : decode cX7_bestRule 32 = .ok (.ireturn, 1) := by decide +kernel
set_option maxRecDepth 20000 in
theorem ggX7_write_X5_has : GoodIn wsX7_write wsX5_has := goodIn_r _ [11, 12, 13, 14, 15, 44, 45, 46, 47, 48, 49, 50, 51] (by decide +kernel) (by decide +kernel)
set_option maxRecDepth 20000 in
theorem gX7_write_X5_has : GoodIn wsX7_write (wsV RX7 104 RX5 yX5_has wsX5_has) := goodIn_app (goodIn_of _ (by decide +kernel)) ggX7_write_X5_has
set_option maxRecDepth 20000 in
theorem ggX7_write_X7_isPlace : GoodIn wsX7_write wsX7_isPlace := goodIn_r _ [18, 19, 13, 14, 15] (by decide +kernel) (by decide +kernel)
set_option maxRecDepth 20000 in
theorem gX7_write_X7_isPlace : GoodIn wsX7_write (va_wsS RX7 126 yX7_isPlace wsX7_isPlace) := goodIn_app (goodIn_of _ (by decide +kernel)) ggX7_write_X7_isPlace
set_option maxRecDepth 20000 in
theorem ggX7_write_X7_isWithin : GoodIn wsX7_write wsX7_isWithin := goodIn_r _ [15] (by decide +kernel) (by decide +kernel)
set_option maxRecDepth 20000 in
theorem gX7_write_X7_isWithin : GoodIn wsX7_write (va_wsS RX7 52 yX7_isWithin wsX7_isWithin) := goodIn_app (goodIn_of _ (by decide +kernel)) ggX7_write_X7_isWithin
set_option maxRecDepth 20000 in
theorem ggX7_write_X2_add : GoodIn wsX7_write wsX2_add := goodIn_r _ [24, 25, 26, 27, 28, 29, 13, 14, 15, 39, 40, 41, 42, 43] (by decide +kernel) (by decide +kernel)
set_option maxRecDepth 20000 in
theorem gX7_write_X2_add : GoodIn wsX7_write (wsV RX7 176 RX2 yX2_add wsX2_add) := goodIn_app (goodIn_of _ (by decide +kernel)) ggX7_write_X2_add
theorem dX7_write_0 : decode cX7_write 0 = .ok (.aload_n 0, 1) := by decide +kernel
theorem dX7_write_1 : decode cX7_write 1 = .ok (.getfield 10, 3) := by decide +kernel
theorem dX7_write_4 : decode cX7_write 4 = .ok (.iload_n 1, 1) := by decide +kernel
theorem dX7_write_5 : decode cX7_write 5 = .ok (.invokevirtual 104, 3) := by decide +kernel
theorem dX7_write_8 : decode cX7_write 8 = .ok (.ifCond .ne 6, 3) := by decide +kernel
theorem dX7_write_11 : decode cX7_write 11 = .ok (.ldc 103, 2) := by decide +kernel
theorem dX7_write_13 : decode cX7_write 13 = .ok (.ireturn, 1) := by decide +kernel
theorem dX7_write_14 : decode cX7_write 14 = .ok (.iload_n 2, 1) := by decide +kernel
theorem dX7_write_15 : decode cX7_write 15 = .ok (.iload_n 3, 1) := by decide +kernel
theorem dX7_write_16 : decode cX7_write 16 = .ok (.invokestatic 126, 3) := by decide +kernel
theorem dX7_write_19 : decode cX7_write 19 = .ok (.ifCond .eq 14, 3) := by decide +kernel
theorem dX7_write_22 : decode cX7_write 22 = .ok (.iload 4, 2) := by decide +kernel
theorem dX7_write_24 : decode cX7_write 24 = .ok (.iconst 0, 1) := by decide +kernel
theorem dX7_write_25 : decode cX7_write 25 = .ok (.bipush 127, 2) := by decide +kernel
theorem dX7_write_27 : decode cX7_write 27 = .ok (.invokestatic 52, 3) := by decide +kernel
theorem dX7_write_30 : decode cX7_write 30 = .ok (.ifCond .ne 6, 3) := by decide +kernel
theorem dX7_write_33 : decode cX7_write 33 = .ok (.ldc 62, 2) := by decide +kernel
theorem dX7_write_35 : decode cX7_write 35 = .ok (.ireturn, 1) := by decide +kernel
theorem dX7_write_36 : decode cX7_write 36 = .ok (.aload_n 0, 1) := by decide +kernel
theorem dX7_write_37 : decode cX7_write 37 = .ok (.getfield 34, 3) := by decide +kernel
theorem dX7_write_40 : decode cX7_write 40 = .ok (.iload_n 1, 1) := by decide +kernel
theorem dX7_write_41 : decode cX7_write 41 = .ok (.iload_n 2, 1) := by decide +kernel
theorem dX7_write_42 : decode cX7_write 42 = .ok (.iload_n 3, 1) := by decide +kernel
theorem dX7_write_43 : decode cX7_write 43 = .ok (.iload 4, 2) := by decide +kernel
theorem dX7_write_45 : decode cX7_write 45 = .ok (.invokevirtual 176, 3) := by decide +kernel
theorem dX7_write_48 : decode cX7_write 48 = .ok (.ifCond .eq 13, 3) := by decide +kernel
theorem dX7_write_51 : decode cX7_write 51 = .ok (.aload_n 0, 1) := by decide +kernel
theorem dX7_write_52 : decode cX7_write 52 = .ok (.getfield 34, 3) := by decide +kernel
theorem dX7_write_55 : decode cX7_write 55 = .ok (.getfield 90, 3) := by decide +kernel
theorem dX7_write_58 : decode cX7_write 58 = .ok (.goto 5, 3) := by decide +kernel
theorem dX7_write_61 : decode cX7_write 61 = .ok (.ldc 180, 2) := by decide +kernel
theorem dX7_write_63 : decode cX7_write 63 = .ok (.ireturn, 1) := by decide +kernel
theorem dX7_tear_0 : decode cX7_tear 0 = .ok (.aload_n 0, 1) := by decide +kernel
theorem dX7_tear_1 : decode cX7_tear 1 = .ok (.getfield 34, 3) := by decide +kernel
theorem dX7_tear_4 : decode cX7_tear 4 = .ok (.getfield 90, 3) := by decide +kernel
theorem dX7_tear_7 : decode cX7_tear 7 = .ok (.istore_n 1, 1) := by decide +kernel
theorem dX7_tear_8 : decode cX7_tear 8 = .ok (.aload_n 0, 1) := by decide +kernel
theorem dX7_tear_9 : decode cX7_tear 9 = .ok (.getfield 34, 3) := by decide +kernel
theorem dX7_tear_12 : decode cX7_tear 12 = .ok (.iconst 0, 1) := by decide +kernel
theorem dX7_tear_13 : decode cX7_tear 13 = .ok (.putfield 90, 3) := by decide +kernel
theorem dX7_tear_16 : decode cX7_tear 16 = .ok (.iload_n 1, 1) := by decide +kernel
theorem dX7_tear_17 : decode cX7_tear 17 = .ok (.ireturn, 1) := by decide +kernel
theorem dX7_seed_0 : decode cX7_seed 0 = .ok (.iload_n 1, 1) := by decide +kernel
theorem dX7_seed_1 : decode cX7_seed 1 = .ok (.ifCond .ge 6, 3) := by decide +kernel
theorem dX7_seed_4 : decode cX7_seed 4 = .ok (.ldc 62, 2) := by decide +kernel
theorem dX7_seed_6 : decode cX7_seed 6 = .ok (.ireturn, 1) := by decide +kernel
theorem dX7_seed_7 : decode cX7_seed 7 = .ok (.aload_n 0, 1) := by decide +kernel
theorem dX7_seed_8 : decode cX7_seed 8 = .ok (.getfield 10, 3) := by decide +kernel
theorem dX7_seed_11 : decode cX7_seed 11 = .ok (.getfield 181, 3) := by decide +kernel
theorem dX7_seed_14 : decode cX7_seed 14 = .ok (.istore_n 2, 1) := by decide +kernel
theorem dX7_seed_15 : decode cX7_seed 15 = .ok (.aload_n 0, 1) := by decide +kernel
theorem dX7_seed_16 : decode cX7_seed 16 = .ok (.getfield 10, 3) := by decide +kernel
theorem dX7_seed_19 : decode cX7_seed 19 = .ok (.iload_n 1, 1) := by decide +kernel
theorem dX7_seed_20 : decode cX7_seed 20 = .ok (.putfield 181, 3) := by decide +kernel
theorem dX7_seed_23 : decode cX7_seed 23 = .ok (.iload_n 2, 1) := by decide +kernel
theorem dX7_seed_24 : decode cX7_seed 24 = .ok (.ireturn, 1) := by decide +kernel
set_option maxRecDepth 20000 in
theorem ggX7_keep_X7_isWithin : GoodIn wsX7_keep wsX7_isWithin := goodIn_r _ [10] (by decide +kernel) (by decide +kernel)
set_option maxRecDepth 20000 in
theorem gX7_keep_X7_isWithin : GoodIn wsX7_keep (va_wsS RX7 52 yX7_isWithin wsX7_isWithin) := goodIn_app (goodIn_of _ (by decide +kernel)) ggX7_keep_X7_isWithin
set_option maxRecDepth 20000 in
theorem ggX7_keep_X5_become : GoodIn wsX7_keep wsX5_become := goodIn_r _ [15, 16, 17, 18, 19, 20, 21, 22, 23, 24, 25, 26, 42, 43, 44, 45, 46, 47, 48, 49] (by decide +kernel) (by decide +kernel)
set_option maxRecDepth 20000 in
theorem gX7_keep_X5_become : GoodIn wsX7_keep (wsV RX7 184 RX5 yX5_become wsX5_become) := goodIn_app (goodIn_of _ (by decide +kernel)) ggX7_keep_X5_become
set_option maxRecDepth 20000 in
theorem ggX7_keep_X6_forget : GoodIn wsX7_keep wsX6_forget := goodIn_r _ [31, 32, 50, 51, 52] (by decide +kernel) (by decide +kernel)
set_option maxRecDepth 20000 in
theorem gX7_keep_X6_forget : GoodIn wsX7_keep (wsV RX7 187 RX6 yX6_forget wsX6_forget) := goodIn_app (goodIn_of _ (by decide +kernel)) ggX7_keep_X6_forget
theorem dX7_keep_0 : decode cX7_keep 0 = .ok (.iload_n 1, 1) := by decide +kernel
theorem dX7_keep_1 : decode cX7_keep 1 = .ok (.iconst 0, 1) := by decide +kernel
theorem dX7_keep_2 : decode cX7_keep 2 = .ok (.iconst 1, 1) := by decide +kernel
theorem dX7_keep_3 : decode cX7_keep 3 = .ok (.invokestatic 52, 3) := by decide +kernel
theorem dX7_keep_6 : decode cX7_keep 6 = .ok (.ifCond .ne 6, 3) := by decide +kernel
theorem dX7_keep_9 : decode cX7_keep 9 = .ok (.ldc 103, 2) := by decide +kernel
theorem dX7_keep_11 : decode cX7_keep 11 = .ok (.ireturn, 1) := by decide +kernel
theorem dX7_keep_12 : decode cX7_keep 12 = .ok (.aload_n 0, 1) := by decide +kernel
theorem dX7_keep_13 : decode cX7_keep 13 = .ok (.getfield 23, 3) := by decide +kernel
theorem dX7_keep_16 : decode cX7_keep 16 = .ok (.iload_n 1, 1) := by decide +kernel
theorem dX7_keep_17 : decode cX7_keep 17 = .ok (.aaload, 1) := by decide +kernel
theorem dX7_keep_18 : decode cX7_keep 18 = .ok (.aload_n 0, 1) := by decide +kernel
theorem dX7_keep_19 : decode cX7_keep 19 = .ok (.getfield 10, 3) := by decide +kernel
theorem dX7_keep_22 : decode cX7_keep 22 = .ok (.invokevirtual 184, 3) := by decide +kernel
theorem dX7_keep_25 : decode cX7_keep 25 = .ok (.aload_n 0, 1) := by decide +kernel
theorem dX7_keep_26 : decode cX7_keep 26 = .ok (.getfield 23, 3) := by decide +kernel
theorem dX7_keep_29 : decode cX7_keep 29 = .ok (.iload_n 1, 1) := by decide +kernel
theorem dX7_keep_30 : decode cX7_keep 30 = .ok (.aaload, 1) := by decide +kernel
theorem dX7_keep_31 : decode cX7_keep 31 = .ok (.aload_n 0, 1) := by decide +kernel
theorem dX7_keep_32 : decode cX7_keep 32 = .ok (.getfield 10, 3) := by decide +kernel
theorem dX7_keep_35 : decode cX7_keep 35 = .ok (.getfield 181, 3) := by decide +kernel
theorem dX7_keep_38 : decode cX7_keep 38 = .ok (.putfield 181, 3) := by decide +kernel
theorem dX7_keep_41 : decode cX7_keep 41 = .ok (.aload_n 0, 1) := by decide +kernel
theorem dX7_keep_42 : decode cX7_keep 42 = .ok (.getfield 27, 3) := by decide +kernel
theorem dX7_keep_45 : decode cX7_keep 45 = .ok (.iload_n 1, 1) := by decide +kernel
theorem dX7_keep_46 : decode cX7_keep 46 = .ok (.iconst 1, 1) := by decide +kernel
theorem dX7_keep_47 : decode cX7_keep 47 = .ok (.bastore, 1) := by decide +kernel
theorem dX7_keep_48 : decode cX7_keep 48 = .ok (.aload_n 0, 1) := by decide +kernel
theorem dX7_keep_49 : decode cX7_keep 49 = .ok (.getfield 19, 3) := by decide +kernel
theorem dX7_keep_52 : decode cX7_keep 52 = .ok (.invokevirtual 187, 3) := by decide +kernel
theorem dX7_keep_55 : decode cX7_keep 55 = .ok (.iconst 1, 1) := by decide +kernel
theorem dX7_keep_56 : decode cX7_keep 56 = .ok (.ireturn, 1) := by decide +kernel
set_option maxRecDepth 20000 in
theorem ggX7_goBack_X7_isWithin : GoodIn wsX7_goBack wsX7_isWithin := goodIn_r _ [11] (by decide +kernel) (by decide +kernel)
set_option maxRecDepth 20000 in
theorem gX7_goBack_X7_isWithin : GoodIn wsX7_goBack (va_wsS RX7 52 yX7_isWithin wsX7_isWithin) := goodIn_app (goodIn_of _ (by decide +kernel)) ggX7_goBack_X7_isWithin
set_option maxRecDepth 20000 in
theorem ggX7_goBack_X5_become : GoodIn wsX7_goBack wsX5_become := goodIn_r _ [16, 17, 18, 19, 20, 21, 22, 23, 24, 25, 26, 27, 43, 44, 45, 46, 47, 48, 49, 50] (by decide +kernel) (by decide +kernel)
set_option maxRecDepth 20000 in
theorem gX7_goBack_X5_become : GoodIn wsX7_goBack (wsV RX7 184 RX5 yX5_become wsX5_become) := goodIn_app (goodIn_of _ (by decide +kernel)) ggX7_goBack_X5_become
set_option maxRecDepth 20000 in
theorem ggX7_goBack_X6_forget : GoodIn wsX7_goBack wsX6_forget := goodIn_r _ [32, 33, 51, 52, 53] (by decide +kernel) (by decide +kernel)
set_option maxRecDepth 20000 in
theorem gX7_goBack_X6_forget : GoodIn wsX7_goBack (wsV RX7 187 RX6 yX6_forget wsX6_forget) := goodIn_app (goodIn_of _ (by decide +kernel)) ggX7_goBack_X6_forget
theorem dX7_goBack_0 : decode cX7_goBack 0 = .ok (.iload_n 1, 1) := by decide +kernel
theorem dX7_goBack_1 : decode cX7_goBack 1 = .ok (.iconst 0, 1) := by decide +kernel
theorem dX7_goBack_2 : decode cX7_goBack 2 = .ok (.iconst 1, 1) := by decide +kernel
theorem dX7_goBack_3 : decode cX7_goBack 3 = .ok (.invokestatic 52, 3) := by decide +kernel
theorem dX7_goBack_6 : decode cX7_goBack 6 = .ok (.ifCond .ne 6, 3) := by decide +kernel
theorem dX7_goBack_9 : decode cX7_goBack 9 = .ok (.ldc 103, 2) := by decide +kernel
theorem dX7_goBack_11 : decode cX7_goBack 11 = .ok (.ireturn, 1) := by decide +kernel
theorem dX7_goBack_12 : decode cX7_goBack 12 = .ok (.aload_n 0, 1) := by decide +kernel
theorem dX7_goBack_13 : decode cX7_goBack 13 = .ok (.getfield 27, 3) := by decide +kernel
theorem dX7_goBack_16 : decode cX7_goBack 16 = .ok (.iload_n 1, 1) := by decide +kernel
theorem dX7_goBack_17 : decode cX7_goBack 17 = .ok (.baload, 1) := by decide +kernel
theorem dX7_goBack_18 : decode cX7_goBack 18 = .ok (.ifCond .ne 6, 3) := by decide +kernel
theorem dX7_goBack_21 : decode cX7_goBack 21 = .ok (.ldc 159, 2) := by decide +kernel
theorem dX7_goBack_23 : decode cX7_goBack 23 = .ok (.ireturn, 1) := by decide +kernel
theorem dX7_goBack_24 : decode cX7_goBack 24 = .ok (.aload_n 0, 1) := by decide +kernel
theorem dX7_goBack_25 : decode cX7_goBack 25 = .ok (.getfield 10, 3) := by decide +kernel
theorem dX7_goBack_28 : decode cX7_goBack 28 = .ok (.aload_n 0, 1) := by decide +kernel
theorem dX7_goBack_29 : decode cX7_goBack 29 = .ok (.getfield 23, 3) := by decide +kernel
theorem dX7_goBack_32 : decode cX7_goBack 32 = .ok (.iload_n 1, 1) := by decide +kernel
theorem dX7_goBack_33 : decode cX7_goBack 33 = .ok (.aaload, 1) := by decide +kernel
theorem dX7_goBack_34 : decode cX7_goBack 34 = .ok (.invokevirtual 184, 3) := by decide +kernel
theorem dX7_goBack_37 : decode cX7_goBack 37 = .ok (.aload_n 0, 1) := by decide +kernel
theorem dX7_goBack_38 : decode cX7_goBack 38 = .ok (.getfield 10, 3) := by decide +kernel
theorem dX7_goBack_41 : decode cX7_goBack 41 = .ok (.aload_n 0, 1) := by decide +kernel
theorem dX7_goBack_42 : decode cX7_goBack 42 = .ok (.getfield 23, 3) := by decide +kernel
theorem dX7_goBack_45 : decode cX7_goBack 45 = .ok (.iload_n 1, 1) := by decide +kernel
theorem dX7_goBack_46 : decode cX7_goBack 46 = .ok (.aaload, 1) := by decide +kernel
theorem dX7_goBack_47 : decode cX7_goBack 47 = .ok (.getfield 181, 3) := by decide +kernel
theorem dX7_goBack_50 : decode cX7_goBack 50 = .ok (.putfield 181, 3) := by decide +kernel
theorem dX7_goBack_53 : decode cX7_goBack 53 = .ok (.aload_n 0, 1) := by decide +kernel
theorem dX7_goBack_54 : decode cX7_goBack 54 = .ok (.getfield 19, 3) := by decide +kernel
theorem dX7_goBack_57 : decode cX7_goBack 57 = .ok (.invokevirtual 187, 3) := by decide +kernel
theorem dX7_goBack_60 : decode cX7_goBack 60 = .ok (.iconst 1, 1) := by decide +kernel
theorem dX7_goBack_61 : decode cX7_goBack 61 = .ok (.ireturn, 1) := by decide +kernel
theorem dX7_isWithin_0 : decode cX7_isWithin 0 = .ok (.iload_n 1, 1) := by decide +kernel
theorem dX7_isWithin_1 : decode cX7_isWithin 1 = .ok (.iload_n 0, 1) := by decide +kernel
theorem dX7_isWithin_2 : decode cX7_isWithin 2 = .ok (.if_icmp .gt 12, 3) := by decide +kernel
theorem dX7_isWithin_5 : decode cX7_isWithin 5 = .ok (.iload_n 0, 1) := by decide +kernel
theorem dX7_isWithin_6 : decode cX7_isWithin 6 = .ok (.iload_n 2, 1) := by decide +kernel
theorem dX7_isWithin_7 : decode cX7_isWithin 7 = .ok (.if_icmp .gt 7, 3) := by decide +kernel
theorem dX7_isWithin_10 : decode cX7_isWithin 10 = .ok (.iconst 1, 1) := by decide +kernel
theorem dX7_isWithin_11 : decode cX7_isWithin 11 = .ok (.goto 4, 3) := by decide +kernel
theorem dX7_isWithin_14 : decode cX7_isWithin 14 = .ok (.iconst 0, 1) := by decide +kernel
theorem dX7_isWithin_15 : decode cX7_isWithin 15 = .ok (.ireturn, 1) := by decide +kernel
set_option maxRecDepth 20000 in
theorem ggX7_isPlace_X7_isWithin : GoodIn wsX7_isPlace wsX7_isWithin := goodIn_r _ [4] (by decide +kernel) (by decide +kernel)
set_option maxRecDepth 20000 in
theorem gX7_isPlace_X7_isWithin : GoodIn wsX7_isPlace (va_wsS RX7 52 yX7_isWithin wsX7_isWithin) := goodIn_app (goodIn_of _ (by decide +kernel)) ggX7_isPlace_X7_isWithin
theorem dX7_isPlace_0 : decode cX7_isPlace 0 = .ok (.iload_n 0, 1) := by decide +kernel
theorem dX7_isPlace_1 : decode cX7_isPlace 1 = .ok (.iconst 0, 1) := by decide +kernel
theorem dX7_isPlace_2 : decode cX7_isPlace 2 = .ok (.iconst 4, 1) := by decide +kernel
theorem dX7_isPlace_3 : decode cX7_isPlace 3 = .ok (.invokestatic 52, 3) := by decide +kernel
theorem dX7_isPlace_6 : decode cX7_isPlace 6 = .ok (.ifCond .eq 17, 3) := by decide +kernel
theorem dX7_isPlace_9 : decode cX7_isPlace 9 = .ok (.iload_n 1, 1) := by decide +kernel
theorem dX7_isPlace_10 : decode cX7_isPlace 10 = .ok (.iconst 0, 1) := by decide +kernel
theorem dX7_isPlace_11 : decode cX7_isPlace 11 = .ok (.bipush 7, 2) := by decide +kernel
theorem dX7_isPlace_13 : decode cX7_isPlace 13 = .ok (.invokestatic 52, 3) := by decide +kernel
theorem dX7_isPlace_16 : decode cX7_isPlace 16 = .ok (.ifCond .eq 7, 3) := by decide +kernel
theorem dX7_isPlace_19 : decode cX7_isPlace 19 = .ok (.iconst 1, 1) := by decide +kernel
theorem dX7_isPlace_20 : decode cX7_isPlace 20 = .ok (.goto 4, 3) := by decide +kernel
theorem dX7_isPlace_23 : decode cX7_isPlace 23 = .ok (.iconst 0, 1) := by decide +kernel
theorem dX7_isPlace_24 : decode cX7_isPlace 24 = .ok (.ireturn, 1) := by decide +kernel
set_option maxRecDepth 20000 in
theorem ggX7_comes_X6_remember : GoodIn wsX7_comes wsX6_remember := goodIn_r _ [9, 10, 11, 12, 13, 14, 15, 16, 17, 18, 19, 20, 21, 22, 23, 24, 25, 26, 27, 28, 29, 30, 31, 32, 150, 151, 152, 142, 143, 144, 145, 146, 147, 148, 149] (by decide +kernel) (by decide +kernel)
set_option maxRecDepth 20000 in
theorem gX7_comes_X6_remember : GoodIn wsX7_comes (wsV RX7 144 RX6 yX6_remember wsX6_remember) := goodIn_app (goodIn_of _ (by decide +kernel)) ggX7_comes_X6_remember
set_option maxRecDepth 20000 in
theorem ggX7_comes_X3_take : GoodIn wsX7_comes wsX3_take := goodIn_r _ [36, 37, 38, 39, 40, 20, 41, 31, 42, 43, 44, 45, 46, 47, 48, 49, 50, 51, 52, 53, 54, 55, 56, 57, 58, 59, 60, 61, 62, 63, 35, 64, 65, 66, 67, 68, 69, 70, 71, 23, 32, 72, 14, 15, 16, 28, 73, 74, 75, 76, 77, 78, 79, 80, 22, 81, 82, 83, 84, 85, 86, 87, 88, 24, 25, 26, 27, 89, 90, 91, 92, 93, 94, 95, 96, 97, 98, 99, 100, 101, 102, 103, 104, 105, 106, 107, 108, 109, 110, 111, 112, 113, 114, 115, 116, 117, 118, 119, 120, 121, 122, 123, 124, 125, 126, 127, 128, 129, 130, 131, 132, 142, 143, 144, 145, 146, 147, 148, 149] (by decide +kernel) (by decide +kernel)
set_option maxRecDepth 20000 in
theorem gX7_comes_X3_take : GoodIn wsX7_comes (va_wsS RX7 190 yX3_take wsX3_take) := goodIn_app (goodIn_of _ (by decide +kernel)) ggX7_comes_X3_take
theorem dX7_comes_0 : decode cX7_comes 0 = .ok (.aload_n 0, 1) := by decide +kernel
theorem dX7_comes_1 : decode cX7_comes 1 = .ok (.getfield 19, 3) := by decide +kernel
theorem dX7_comes_4 : decode cX7_comes 4 = .ok (.aload_n 0, 1) := by decide +kernel
theorem dX7_comes_5 : decode cX7_comes 5 = .ok (.getfield 10, 3) := by decide +kernel
theorem dX7_comes_8 : decode cX7_comes 8 = .ok (.invokevirtual 144, 3) := by decide +kernel
theorem dX7_comes_11 : decode cX7_comes 11 = .ok (.aload_n 0, 1) := by decide +kernel
theorem dX7_comes_12 : decode cX7_comes 12 = .ok (.getfield 10, 3) := by decide +kernel
theorem dX7_comes_15 : decode cX7_comes 15 = .ok (.dup, 1) := by decide +kernel
theorem dX7_comes_16 : decode cX7_comes 16 = .ok (.getfield 81, 3) := by decide +kernel
theorem dX7_comes_19 : decode cX7_comes 19 = .ok (.iconst 1, 1) := by decide +kernel
theorem dX7_comes_20 : decode cX7_comes 20 = .ok (.iadd, 1) := by decide +kernel
theorem dX7_comes_21 : decode cX7_comes 21 = .ok (.putfield 81, 3) := by decide +kernel
theorem dX7_comes_24 : decode cX7_comes 24 = .ok (.aload_n 0, 1) := by decide +kernel
theorem dX7_comes_25 : decode cX7_comes 25 = .ok (.getfield 10, 3) := by decide +kernel
theorem dX7_comes_28 : decode cX7_comes 28 = .ok (.aload_n 1, 1) := by decide +kernel
theorem dX7_comes_29 : decode cX7_comes 29 = .ok (.invokestatic 190, 3) := by decide +kernel
theorem dX7_comes_32 : decode cX7_comes 32 = .ok (.istore_n 2, 1) := by decide +kernel
theorem dX7_comes_33 : decode cX7_comes 33 = .ok (.iload_n 2, 1) := by decide +kernel
theorem dX7_comes_34 : decode cX7_comes 34 = .ok (.ifCond .ne 16, 3) := by decide +kernel
theorem dX7_comes_37 : decode cX7_comes 37 = .ok (.aload_n 0, 1) := by decide +kernel
theorem dX7_comes_38 : decode cX7_comes 38 = .ok (.getfield 10, 3) := by decide +kernel
theorem dX7_comes_41 : decode cX7_comes 41 = .ok (.dup, 1) := by decide +kernel
theorem dX7_comes_42 : decode cX7_comes 42 = .ok (.getfield 84, 3) := by decide +kernel
theorem dX7_comes_45 : decode cX7_comes 45 = .ok (.iconst 1, 1) := by decide +kernel
theorem dX7_comes_46 : decode cX7_comes 46 = .ok (.iadd, 1) := by decide +kernel
theorem dX7_comes_47 : decode cX7_comes 47 = .ok (.putfield 84, 3) := by decide +kernel
theorem dX7_comes_50 : decode cX7_comes 50 = .ok (.iload_n 2, 1) := by decide +kernel
theorem dX7_comes_51 : decode cX7_comes 51 = .ok (.ireturn, 1) := by decide +kernel
set_option maxRecDepth 20000 in
theorem ggX7_bodyOctet_X1_encode : GoodIn wsX7_bodyOctet wsX1_encode := goodIn_r _ [4, 5] (by decide +kernel) (by decide +kernel)
set_option maxRecDepth 20000 in
theorem gX7_bodyOctet_X1_encode : GoodIn wsX7_bodyOctet (va_wsS RX7 56 yX1_encode wsX1_encode) := goodIn_app (goodIn_of _ (by decide +kernel)) ggX7_bodyOctet_X1_encode
set_option maxRecDepth 20000 in
theorem ggX7_bodyOctet_X1_oddOctet : GoodIn wsX7_bodyOctet wsX1_oddOctet := goodIn_r _ [8, 9, 10, 3, 11, 12, 13, 14, 15, 16, 17, 18] (by decide +kernel) (by decide +kernel)
set_option maxRecDepth 20000 in
theorem gX7_bodyOctet_X1_oddOctet : GoodIn wsX7_bodyOctet (va_wsS RX7 196 yX1_oddOctet wsX1_oddOctet) := goodIn_app (goodIn_of _ (by decide +kernel)) ggX7_bodyOctet_X1_oddOctet
theorem dX7_bodyOctet_0 : decode cX7_bodyOctet 0 = .ok (.iload_n 0, 1) := by decide +kernel
theorem dX7_bodyOctet_1 : decode cX7_bodyOctet 1 = .ok (.ifCond .eq 9, 3) := by decide +kernel
theorem dX7_bodyOctet_4 : decode cX7_bodyOctet 4 = .ok (.iload_n 0, 1) := by decide +kernel
theorem dX7_bodyOctet_5 : decode cX7_bodyOctet 5 = .ok (.bipush 6, 2) := by decide +kernel
theorem dX7_bodyOctet_7 : decode cX7_bodyOctet 7 = .ok (.if_icmp .ne 10, 3) := by decide +kernel
theorem dX7_bodyOctet_10 : decode cX7_bodyOctet 10 = .ok (.iload_n 1, 1) := by decide +kernel
theorem dX7_bodyOctet_11 : decode cX7_bodyOctet 11 = .ok (.invokestatic 56, 3) := by decide +kernel
theorem dX7_bodyOctet_14 : decode cX7_bodyOctet 14 = .ok (.goto 10, 3) := by decide +kernel
theorem dX7_bodyOctet_17 : decode cX7_bodyOctet 17 = .ok (.bipush 64, 2) := by decide +kernel
theorem dX7_bodyOctet_19 : decode cX7_bodyOctet 19 = .ok (.iload_n 1, 1) := by decide +kernel
theorem dX7_bodyOctet_20 : decode cX7_bodyOctet 20 = .ok (.iadd, 1) := by decide +kernel
theorem dX7_bodyOctet_21 : decode cX7_bodyOctet 21 = .ok (.invokestatic 196, 3) := by decide +kernel
theorem dX7_bodyOctet_24 : decode cX7_bodyOctet 24 = .ok (.ireturn, 1) := by decide +kernel
set_option maxRecDepth 20000 in
theorem ggX7_drawPacket_X5_draw : GoodIn wsX7_drawPacket wsX5_draw := goodIn_r _ [7, 8, 9, 10, 11, 12, 13, 14, 15, 16, 48, 49, 50, 51, 52, 53, 54, 55] (by decide +kernel) (by decide +kernel)
set_option maxRecDepth 20000 in
theorem gX7_drawPacket_X5_draw : GoodIn wsX7_drawPacket (wsV RX7 199 RX5 yX5_draw wsX5_draw) := goodIn_app (goodIn_of _ (by decide +kernel)) ggX7_drawPacket_X5_draw
set_option maxRecDepth 20000 in
theorem ggX7_drawPacket_X1_encode : GoodIn wsX7_drawPacket wsX1_encode := goodIn_r _ [20, 21] (by decide +kernel) (by decide +kernel)
set_option maxRecDepth 20000 in
theorem gX7_drawPacket_X1_encode : GoodIn wsX7_drawPacket (va_wsS RX7 56 yX1_encode wsX1_encode) := goodIn_app (goodIn_of _ (by decide +kernel)) ggX7_drawPacket_X1_encode
set_option maxRecDepth 20000 in
theorem ggX7_drawPacket_X7_bodyOctet : GoodIn wsX7_drawPacket wsX7_bodyOctet := goodIn_r _ [25, 17, 18, 19, 20, 21, 26, 27, 28, 29, 30, 31, 32, 33, 34, 35, 36, 37, 38] (by decide +kernel) (by decide +kernel)
set_option maxRecDepth 20000 in
theorem gX7_drawPacket_X7_bodyOctet : GoodIn wsX7_drawPacket (va_wsS RX7 74 yX7_bodyOctet wsX7_bodyOctet) := goodIn_app (goodIn_of _ (by decide +kernel)) ggX7_drawPacket_X7_bodyOctet
theorem dX7_drawPacket_0 : decode cX7_drawPacket 0 = .ok (.aload_n 0, 1) := by decide +kernel
theorem dX7_drawPacket_1 : decode cX7_drawPacket 1 = .ok (.getfield 10, 3) := by decide +kernel
theorem dX7_drawPacket_4 : decode cX7_drawPacket 4 = .ok (.iconst 4, 1) := by decide +kernel
theorem dX7_drawPacket_5 : decode cX7_drawPacket 5 = .ok (.invokevirtual 199, 3) := by decide +kernel
theorem dX7_drawPacket_8 : decode cX7_drawPacket 8 = .ok (.istore_n 1, 1) := by decide +kernel
theorem dX7_drawPacket_9 : decode cX7_drawPacket 9 = .ok (.aload_n 0, 1) := by decide +kernel
theorem dX7_drawPacket_10 : decode cX7_drawPacket 10 = .ok (.getfield 10, 3) := by decide +kernel
theorem dX7_drawPacket_13 : decode cX7_drawPacket 13 = .ok (.bipush 8, 2) := by decide +kernel
theorem dX7_drawPacket_15 : decode cX7_drawPacket 15 = .ok (.invokevirtual 199, 3) := by decide +kernel
theorem dX7_drawPacket_18 : decode cX7_drawPacket 18 = .ok (.istore_n 2, 1) := by decide +kernel
theorem dX7_drawPacket_19 : decode cX7_drawPacket 19 = .ok (.aload_n 0, 1) := by decide +kernel
theorem dX7_drawPacket_20 : decode cX7_drawPacket 20 = .ok (.getfield 49, 3) := by decide +kernel
theorem dX7_drawPacket_23 : decode cX7_drawPacket 23 = .ok (.iconst 0, 1) := by decide +kernel
theorem dX7_drawPacket_24 : decode cX7_drawPacket 24 = .ok (.iload_n 1, 1) := by decide +kernel
theorem dX7_drawPacket_25 : decode cX7_drawPacket 25 = .ok (.invokestatic 56, 3) := by decide +kernel
theorem dX7_drawPacket_28 : decode cX7_drawPacket 28 = .ok (.iastore, 1) := by decide +kernel
theorem dX7_drawPacket_29 : decode cX7_drawPacket 29 = .ok (.aload_n 0, 1) := by decide +kernel
theorem dX7_drawPacket_30 : decode cX7_drawPacket 30 = .ok (.getfield 49, 3) := by decide +kernel
theorem dX7_drawPacket_33 : decode cX7_drawPacket 33 = .ok (.iconst 1, 1) := by decide +kernel
theorem dX7_drawPacket_34 : decode cX7_drawPacket 34 = .ok (.iload_n 2, 1) := by decide +kernel
theorem dX7_drawPacket_35 : decode cX7_drawPacket 35 = .ok (.invokestatic 56, 3) := by decide +kernel
theorem dX7_drawPacket_38 : decode cX7_drawPacket 38 = .ok (.iastore, 1) := by decide +kernel
theorem dX7_drawPacket_39 : decode cX7_drawPacket 39 = .ok (.iconst 2, 1) := by decide +kernel
theorem dX7_drawPacket_40 : decode cX7_drawPacket 40 = .ok (.istore_n 3, 1) := by decide +kernel
theorem dX7_drawPacket_41 : decode cX7_drawPacket 41 = .ok (.iload_n 3, 1) := by decide +kernel
theorem dX7_drawPacket_42 : decode cX7_drawPacket 42 = .ok (.bipush 10, 2) := by decide +kernel
theorem dX7_drawPacket_44 : decode cX7_drawPacket 44 = .ok (.if_icmp .ge 28, 3) := by decide +kernel
theorem dX7_drawPacket_47 : decode cX7_drawPacket 47 = .ok (.aload_n 0, 1) := by decide +kernel
theorem dX7_drawPacket_48 : decode cX7_drawPacket 48 = .ok (.getfield 49, 3) := by decide +kernel
theorem dX7_drawPacket_51 : decode cX7_drawPacket 51 = .ok (.iload_n 3, 1) := by decide +kernel
theorem dX7_drawPacket_52 : decode cX7_drawPacket 52 = .ok (.iload_n 2, 1) := by decide +kernel
theorem dX7_drawPacket_53 : decode cX7_drawPacket 53 = .ok (.aload_n 0, 1) := by decide +kernel
theorem dX7_drawPacket_54 : decode cX7_drawPacket 54 = .ok (.getfield 10, 3) := by decide +kernel
theorem dX7_drawPacket_57 : decode cX7_drawPacket 57 = .ok (.bipush 10, 2) := by decide +kernel
theorem dX7_drawPacket_59 : decode cX7_drawPacket 59 = .ok (.invokevirtual 199, 3) := by decide +kernel
theorem dX7_drawPacket_62 : decode cX7_drawPacket 62 = .ok (.invokestatic 74, 3) := by decide +kernel
theorem dX7_drawPacket_65 : decode cX7_drawPacket 65 = .ok (.iastore, 1) := by decide +kernel
theorem dX7_drawPacket_66 : decode cX7_drawPacket 66 = .ok (.iinc 3 1, 3) := by decide +kernel
theorem dX7_drawPacket_69 : decode cX7_drawPacket 69 = .ok (.goto (-28), 3) := by decide +kernel
theorem dX7_drawPacket_72 : decode cX7_drawPacket 72 = .ok (.aload_n 0, 1) := by decide +kernel
theorem dX7_drawPacket_73 : decode cX7_drawPacket 73 = .ok (.getfield 10, 3) := by decide +kernel
theorem dX7_drawPacket_76 : decode cX7_drawPacket 76 = .ok (.bipush 80, 2) := by decide +kernel
theorem dX7_drawPacket_78 : decode cX7_drawPacket 78 = .ok (.invokevirtual 199, 3) := by decide +kernel
theorem dX7_drawPacket_81 : decode cX7_drawPacket 81 = .ok (.istore_n 3, 1) := by decide +kernel
theorem dX7_drawPacket_82 : decode cX7_drawPacket 82 = .ok (.aload_n 0, 1) := by decide +kernel
theorem dX7_drawPacket_83 : decode cX7_drawPacket 83 = .ok (.getfield 49, 3) := by decide +kernel
theorem dX7_drawPacket_86 : decode cX7_drawPacket 86 = .ok (.iload_n 3, 1) := by decide +kernel
theorem dX7_drawPacket_87 : decode cX7_drawPacket 87 = .ok (.bipush 8, 2) := by decide +kernel
theorem dX7_drawPacket_89 : decode cX7_drawPacket 89 = .ok (.idiv, 1) := by decide +kernel
theorem dX7_drawPacket_90 : decode cX7_drawPacket 90 = .ok (.dup2, 1) := by decide +kernel
theorem dX7_drawPacket_91 : decode cX7_drawPacket 91 = .ok (.iaload, 1) := by decide +kernel
theorem dX7_drawPacket_92 : decode cX7_drawPacket 92 = .ok (.iconst 1, 1) := by decide +kernel
theorem dX7_drawPacket_93 : decode cX7_drawPacket 93 = .ok (.iload_n 3, 1) := by decide +kernel
theorem dX7_drawPacket_94 : decode cX7_drawPacket 94 = .ok (.bipush 8, 2) := by decide +kernel
theorem dX7_drawPacket_96 : decode cX7_drawPacket 96 = .ok (.irem, 1) := by decide +kernel
theorem dX7_drawPacket_97 : decode cX7_drawPacket 97 = .ok (.ishl, 1) := by decide +kernel
theorem dX7_drawPacket_98 : decode cX7_drawPacket 98 = .ok (.ixor, 1) := by decide +kernel
theorem dX7_drawPacket_99 : decode cX7_drawPacket 99 = .ok (.iastore, 1) := by decide +kernel
theorem dX7_drawPacket_100 : decode cX7_drawPacket 100 = .ok (.return_, 1) := by decide +kernel
