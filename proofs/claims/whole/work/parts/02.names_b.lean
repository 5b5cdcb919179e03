set_option maxRecDepth 20000 in
theorem ggX0_length_X0_lacks : GoodIn wsX0_length wsX0_lacks := goodIn_r _ [4, 5, 6, 3, 7, 8, 9, 10, 11, 12, 13, 14, 15, 16, 17, 32, 33, 34, 35, 36, 37, 38, 39] (by decide +kernel) (by decide +kernel)
set_option maxRecDepth 20000 in
theorem gX0_length_X0_lacks : GoodIn wsX0_length (va_wsS RX0 9 yX0_lacks wsX0_lacks) := goodIn_app (goodIn_of _ (by decide +kernel)) ggX0_length_X0_lacks
set_option maxRecDepth 20000 in
theorem ggX0_length_J6_bitCount_0f7a4 : GoodIn wsX0_length wsJ6_bitCount_0f7a4 := goodIn_r _ [21, 22, 23, 24] (by decide +kernel) (by decide +kernel)
set_option maxRecDepth 20000 in
theorem gX0_length_J6_bitCount_0f7a4 : GoodIn wsX0_length (va_wsS RX0 15 yJ6_bitCount_0f7a4 wsJ6_bitCount_0f7a4) := goodIn_app (goodIn_of _ (by decide +kernel)) ggX0_length_J6_bitCount_0f7a4
set_option maxRecDepth 20000 in
theorem ggX0_length_X0_hasLinks : GoodIn wsX0_length wsX0_hasLinks := goodIn_r _ [27, 28, 29, 30, 11, 31, 13, 14, 15, 16, 17, 32, 33, 34, 35, 36, 37, 38, 39] (by decide +kernel) (by decide +kernel)
set_option maxRecDepth 20000 in
theorem gX0_length_X0_hasLinks : GoodIn wsX0_length (va_wsS RX0 21 yX0_hasLinks wsX0_hasLinks) := goodIn_app (goodIn_of _ (by decide +kernel)) ggX0_length_X0_hasLinks
theorem dX0_length_0 : decode cX0_length 0 = .ok (.iconst 5, 1) := by decide +kernel
theorem dX0_length_1 : decode cX0_length 1 = .ok (.aload_n 0, 1) := by decide +kernel
theorem dX0_length_2 : decode cX0_length 2 = .ok (.iload_n 1, 1) := by decide +kernel
theorem dX0_length_3 : decode cX0_length 3 = .ok (.invokestatic 9, 3) := by decide +kernel
theorem dX0_length_6 : decode cX0_length 6 = .ok (.invokestatic 15, 3) := by decide +kernel
theorem dX0_length_9 : decode cX0_length 9 = .ok (.isub, 1) := by decide +kernel
theorem dX0_length_10 : decode cX0_length 10 = .ok (.istore_n 2, 1) := by decide +kernel
theorem dX0_length_11 : decode cX0_length 11 = .ok (.iconst 1, 1) := by decide +kernel
theorem dX0_length_12 : decode cX0_length 12 = .ok (.iload_n 2, 1) := by decide +kernel
theorem dX0_length_13 : decode cX0_length 13 = .ok (.iadd, 1) := by decide +kernel
theorem dX0_length_14 : decode cX0_length 14 = .ok (.aload_n 0, 1) := by decide +kernel
theorem dX0_length_15 : decode cX0_length 15 = .ok (.iload_n 1, 1) := by decide +kernel
theorem dX0_length_16 : decode cX0_length 16 = .ok (.invokestatic 21, 3) := by decide +kernel
theorem dX0_length_19 : decode cX0_length 19 = .ok (.ifCond .eq 7, 3) := by decide +kernel
theorem dX0_length_22 : decode cX0_length 22 = .ok (.iconst 1, 1) := by decide +kernel
theorem dX0_length_23 : decode cX0_length 23 = .ok (.goto 4, 3) := by decide +kernel
theorem dX0_length_26 : decode cX0_length 26 = .ok (.iconst 0, 1) := by decide +kernel
theorem dX0_length_27 : decode cX0_length 27 = .ok (.iadd, 1) := by decide +kernel
theorem dX0_length_28 : decode cX0_length 28 = .ok (.ireturn, 1) := by decide +kernel
set_option maxRecDepth 20000 in
theorem ggX0_lacks_X0_hasLetters : GoodIn wsX0_lacks wsX0_hasLetters := goodIn_r _ [4, 5, 6, 7, 8, 9, 10, 11, 12, 13, 14, 15, 16, 17, 18, 19, 20, 21, 22] (by decide +kernel) (by decide +kernel)
set_option maxRecDepth 20000 in
theorem gX0_lacks_X0_hasLetters : GoodIn wsX0_lacks (va_wsS RX0 25 yX0_hasLetters wsX0_hasLetters) := goodIn_app (goodIn_of _ (by decide +kernel)) ggX0_lacks_X0_hasLetters
theorem dX0_lacks_0 : decode cX0_lacks 0 = .ok (.iconst 0, 1) := by decide +kernel
theorem dX0_lacks_1 : decode cX0_lacks 1 = .ok (.istore_n 2, 1) := by decide +kernel
theorem dX0_lacks_2 : decode cX0_lacks 2 = .ok (.iconst 0, 1) := by decide +kernel
theorem dX0_lacks_3 : decode cX0_lacks 3 = .ok (.istore_n 3, 1) := by decide +kernel
theorem dX0_lacks_4 : decode cX0_lacks 4 = .ok (.iload_n 3, 1) := by decide +kernel
theorem dX0_lacks_5 : decode cX0_lacks 5 = .ok (.iconst 5, 1) := by decide +kernel
theorem dX0_lacks_6 : decode cX0_lacks 6 = .ok (.if_icmp .ge 24, 3) := by decide +kernel
theorem dX0_lacks_9 : decode cX0_lacks 9 = .ok (.aload_n 0, 1) := by decide +kernel
theorem dX0_lacks_10 : decode cX0_lacks 10 = .ok (.iload_n 1, 1) := by decide +kernel
theorem dX0_lacks_11 : decode cX0_lacks 11 = .ok (.iload_n 3, 1) := by decide +kernel
theorem dX0_lacks_12 : decode cX0_lacks 12 = .ok (.invokestatic 25, 3) := by decide +kernel
theorem dX0_lacks_15 : decode cX0_lacks 15 = .ok (.ifCond .ne 9, 3) := by decide +kernel
theorem dX0_lacks_18 : decode cX0_lacks 18 = .ok (.iload_n 2, 1) := by decide +kernel
theorem dX0_lacks_19 : decode cX0_lacks 19 = .ok (.iconst 1, 1) := by decide +kernel
theorem dX0_lacks_20 : decode cX0_lacks 20 = .ok (.iload_n 3, 1) := by decide +kernel
theorem dX0_lacks_21 : decode cX0_lacks 21 = .ok (.ishl, 1) := by decide +kernel
theorem dX0_lacks_22 : decode cX0_lacks 22 = .ok (.ior, 1) := by decide +kernel
theorem dX0_lacks_23 : decode cX0_lacks 23 = .ok (.istore_n 2, 1) := by decide +kernel
theorem dX0_lacks_24 : decode cX0_lacks 24 = .ok (.iinc 3 1, 3) := by decide +kernel
theorem dX0_lacks_27 : decode cX0_lacks 27 = .ok (.goto (-23), 3) := by decide +kernel
theorem dX0_lacks_30 : decode cX0_lacks 30 = .ok (.iload_n 2, 1) := by decide +kernel
theorem dX0_lacks_31 : decode cX0_lacks 31 = .ok (.ireturn, 1) := by decide +kernel
set_option maxRecDepth 20000 in
theorem ggX0_sureOnes_X5_letterAt : GoodIn wsX0_sureOnes wsX5_letterAt := goodIn_r _ [5, 6, 7, 8, 4, 9, 10, 17, 18, 19, 20, 21, 22, 23, 24] (by decide +kernel) (by decide +kernel)
set_option maxRecDepth 20000 in
theorem gX0_sureOnes_X5_letterAt : GoodIn wsX0_sureOnes (wsV RX0 29 RX5 yX5_letterAt wsX5_letterAt) := goodIn_app (goodIn_of _ (by decide +kernel)) ggX0_sureOnes_X5_letterAt
set_option maxRecDepth 20000 in
theorem ggX0_sureOnes_X5_isSure : GoodIn wsX0_sureOnes wsX5_isSure := goodIn_r _ [13, 14, 15, 16] (by decide +kernel) (by decide +kernel)
set_option maxRecDepth 20000 in
theorem gX0_sureOnes_X5_isSure : GoodIn wsX0_sureOnes (va_wsS RX0 35 yX5_isSure wsX5_isSure) := goodIn_app (goodIn_of _ (by decide +kernel)) ggX0_sureOnes_X5_isSure
theorem dX0_sureOnes_0 : decode cX0_sureOnes 0 = .ok (.iconst 0, 1) := by decide +kernel
theorem dX0_sureOnes_1 : decode cX0_sureOnes 1 = .ok (.istore_n 2, 1) := by decide +kernel
theorem dX0_sureOnes_2 : decode cX0_sureOnes 2 = .ok (.iconst 0, 1) := by decide +kernel
theorem dX0_sureOnes_3 : decode cX0_sureOnes 3 = .ok (.istore_n 3, 1) := by decide +kernel
theorem dX0_sureOnes_4 : decode cX0_sureOnes 4 = .ok (.iload_n 3, 1) := by decide +kernel
theorem dX0_sureOnes_5 : decode cX0_sureOnes 5 = .ok (.iconst 5, 1) := by decide +kernel
theorem dX0_sureOnes_6 : decode cX0_sureOnes 6 = .ok (.if_icmp .ge 42, 3) := by decide +kernel
theorem dX0_sureOnes_9 : decode cX0_sureOnes 9 = .ok (.iconst 0, 1) := by decide +kernel
theorem dX0_sureOnes_10 : decode cX0_sureOnes 10 = .ok (.istore 4, 2) := by decide +kernel
theorem dX0_sureOnes_12 : decode cX0_sureOnes 12 = .ok (.iload 4, 2) := by decide +kernel
theorem dX0_sureOnes_14 : decode cX0_sureOnes 14 = .ok (.bipush 8, 2) := by decide +kernel
theorem dX0_sureOnes_16 : decode cX0_sureOnes 16 = .ok (.if_icmp .ge 26, 3) := by decide +kernel
theorem dX0_sureOnes_19 : decode cX0_sureOnes 19 = .ok (.aload_n 0, 1) := by decide +kernel
theorem dX0_sureOnes_20 : decode cX0_sureOnes 20 = .ok (.iload_n 1, 1) := by decide +kernel
theorem dX0_sureOnes_21 : decode cX0_sureOnes 21 = .ok (.iload_n 3, 1) := by decide +kernel
theorem dX0_sureOnes_22 : decode cX0_sureOnes 22 = .ok (.iload 4, 2) := by decide +kernel
theorem dX0_sureOnes_24 : decode cX0_sureOnes 24 = .ok (.invokevirtual 29, 3) := by decide +kernel
theorem dX0_sureOnes_27 : decode cX0_sureOnes 27 = .ok (.invokestatic 35, 3) := by decide +kernel
theorem dX0_sureOnes_30 : decode cX0_sureOnes 30 = .ok (.ifCond .eq 6, 3) := by decide +kernel
theorem dX0_sureOnes_33 : decode cX0_sureOnes 33 = .ok (.iinc 2 1, 3) := by decide +kernel
theorem dX0_sureOnes_36 : decode cX0_sureOnes 36 = .ok (.iinc 4 1, 3) := by decide +kernel
theorem dX0_sureOnes_39 : decode cX0_sureOnes 39 = .ok (.goto (-27), 3) := by decide +kernel
theorem dX0_sureOnes_42 : decode cX0_sureOnes 42 = .ok (.iinc 3 1, 3) := by decide +kernel
theorem dX0_sureOnes_45 : decode cX0_sureOnes 45 = .ok (.goto (-41), 3) := by decide +kernel
theorem dX0_sureOnes_48 : decode cX0_sureOnes 48 = .ok (.iload_n 2, 1) := by decide +kernel
theorem dX0_sureOnes_49 : decode cX0_sureOnes 49 = .ok (.ireturn, 1) := by decide +kernel
set_option maxRecDepth 20000 in
theorem ggX0_linked_X0_leadsTo : GoodIn wsX0_linked wsX0_leadsTo := goodIn_r _ [5, 6, 7, 8, 9, 10, 11, 12, 13, 14, 15, 16, 17, 18, 19, 20, 21, 22, 23, 24] (by decide +kernel) (by decide +kernel)
set_option maxRecDepth 20000 in
theorem gX0_linked_X0_leadsTo : GoodIn wsX0_linked (va_wsS RX0 43 yX0_leadsTo wsX0_leadsTo) := goodIn_app (goodIn_of _ (by decide +kernel)) ggX0_linked_X0_leadsTo
theorem dX0_linked_0 : decode cX0_linked 0 = .ok (.iconst 0, 1) := by decide +kernel
theorem dX0_linked_1 : decode cX0_linked 1 = .ok (.istore_n 2, 1) := by decide +kernel
theorem dX0_linked_2 : decode cX0_linked 2 = .ok (.iconst 0, 1) := by decide +kernel
theorem dX0_linked_3 : decode cX0_linked 3 = .ok (.istore_n 3, 1) := by decide +kernel
theorem dX0_linked_4 : decode cX0_linked 4 = .ok (.iload_n 3, 1) := by decide +kernel
theorem dX0_linked_5 : decode cX0_linked 5 = .ok (.aload_n 0, 1) := by decide +kernel
theorem dX0_linked_6 : decode cX0_linked 6 = .ok (.getfield 39, 3) := by decide +kernel
theorem dX0_linked_9 : decode cX0_linked 9 = .ok (.if_icmp .ge 24, 3) := by decide +kernel
theorem dX0_linked_12 : decode cX0_linked 12 = .ok (.aload_n 0, 1) := by decide +kernel
theorem dX0_linked_13 : decode cX0_linked 13 = .ok (.iload_n 1, 1) := by decide +kernel
theorem dX0_linked_14 : decode cX0_linked 14 = .ok (.iload_n 3, 1) := by decide +kernel
theorem dX0_linked_15 : decode cX0_linked 15 = .ok (.invokestatic 43, 3) := by decide +kernel
theorem dX0_linked_18 : decode cX0_linked 18 = .ok (.ifCond .eq 9, 3) := by decide +kernel
theorem dX0_linked_21 : decode cX0_linked 21 = .ok (.iload_n 2, 1) := by decide +kernel
theorem dX0_linked_22 : decode cX0_linked 22 = .ok (.iconst 1, 1) := by decide +kernel
theorem dX0_linked_23 : decode cX0_linked 23 = .ok (.iload_n 3, 1) := by decide +kernel
theorem dX0_linked_24 : decode cX0_linked 24 = .ok (.ishl, 1) := by decide +kernel
theorem dX0_linked_25 : decode cX0_linked 25 = .ok (.ior, 1) := by decide +kernel
theorem dX0_linked_26 : decode cX0_linked 26 = .ok (.istore_n 2, 1) := by decide +kernel
theorem dX0_linked_27 : decode cX0_linked 27 = .ok (.iinc 3 1, 3) := by decide +kernel
theorem dX0_linked_30 : decode cX0_linked 30 = .ok (.goto (-26), 3) := by decide +kernel
theorem dX0_linked_33 : decode cX0_linked 33 = .ok (.iload_n 2, 1) := by decide +kernel
theorem dX0_linked_34 : decode cX0_linked 34 = .ok (.ireturn, 1) := by decide +kernel
set_option maxRecDepth 20000 in
theorem ggX0_steps_X0_linkedFromAny : GoodIn wsX0_steps wsX0_linkedFromAny := goodIn_r _ [4, 5, 6, 7, 3, 8, 9, 10, 11, 12, 13, 14, 15, 16, 17, 18, 19, 20, 21, 22, 23, 24, 25, 26, 27, 28, 29, 30] (by decide +kernel) (by decide +kernel)
set_option maxRecDepth 20000 in
theorem gX0_steps_X0_linkedFromAny : GoodIn wsX0_steps (va_wsS RX0 46 yX0_linkedFromAny wsX0_linkedFromAny) := goodIn_app (goodIn_of _ (by decide +kernel)) ggX0_steps_X0_linkedFromAny
theorem dX0_steps_0 : decode cX0_steps 0 = .ok (.iconst 1, 1) := by decide +kernel
theorem dX0_steps_1 : decode cX0_steps 1 = .ok (.iload_n 1, 1) := by decide +kernel
theorem dX0_steps_2 : decode cX0_steps 2 = .ok (.ishl, 1) := by decide +kernel
theorem dX0_steps_3 : decode cX0_steps 3 = .ok (.istore_n 3, 1) := by decide +kernel
theorem dX0_steps_4 : decode cX0_steps 4 = .ok (.iconst 0, 1) := by decide +kernel
theorem dX0_steps_5 : decode cX0_steps 5 = .ok (.istore 4, 2) := by decide +kernel
theorem dX0_steps_7 : decode cX0_steps 7 = .ok (.iload 4, 2) := by decide +kernel
theorem dX0_steps_9 : decode cX0_steps 9 = .ok (.bipush 10, 2) := by decide +kernel
theorem dX0_steps_11 : decode cX0_steps 11 = .ok (.if_icmp .ge 29, 3) := by decide +kernel
theorem dX0_steps_14 : decode cX0_steps 14 = .ok (.iload_n 3, 1) := by decide +kernel
theorem dX0_steps_15 : decode cX0_steps 15 = .ok (.iload_n 2, 1) := by decide +kernel
theorem dX0_steps_16 : decode cX0_steps 16 = .ok (.ishr, 1) := by decide +kernel
theorem dX0_steps_17 : decode cX0_steps 17 = .ok (.iconst 1, 1) := by decide +kernel
theorem dX0_steps_18 : decode cX0_steps 18 = .ok (.iand, 1) := by decide +kernel
theorem dX0_steps_19 : decode cX0_steps 19 = .ok (.iconst 1, 1) := by decide +kernel
theorem dX0_steps_20 : decode cX0_steps 20 = .ok (.if_icmp .ne 6, 3) := by decide +kernel
theorem dX0_steps_23 : decode cX0_steps 23 = .ok (.iload 4, 2) := by decide +kernel
theorem dX0_steps_25 : decode cX0_steps 25 = .ok (.ireturn, 1) := by decide +kernel
theorem dX0_steps_26 : decode cX0_steps 26 = .ok (.iload_n 3, 1) := by decide +kernel
theorem dX0_steps_27 : decode cX0_steps 27 = .ok (.aload_n 0, 1) := by decide +kernel
theorem dX0_steps_28 : decode cX0_steps 28 = .ok (.iload_n 3, 1) := by decide +kernel
theorem dX0_steps_29 : decode cX0_steps 29 = .ok (.invokestatic 46, 3) := by decide +kernel
theorem dX0_steps_32 : decode cX0_steps 32 = .ok (.ior, 1) := by decide +kernel
theorem dX0_steps_33 : decode cX0_steps 33 = .ok (.istore_n 3, 1) := by decide +kernel
theorem dX0_steps_34 : decode cX0_steps 34 = .ok (.iinc 4 1, 3) := by decide +kernel
theorem dX0_steps_37 : decode cX0_steps 37 = .ok (.goto (-30), 3) := by decide +kernel
theorem dX0_steps_40 : decode cX0_steps 40 = .ok (.iconst (-1), 1) := by decide +kernel
theorem dX0_steps_41 : decode cX0_steps 41 = .ok (.ireturn, 1) := by decide +kernel
set_option maxRecDepth 20000 in
theorem ggX0_linkedFromAny_X0_linked : GoodIn wsX0_linkedFromAny wsX0_linked := goodIn_r _ [5, 1, 6, 7, 4, 8, 9, 10, 11, 12, 13, 14, 15, 16, 17, 18, 19, 20, 21, 22, 23, 24, 25, 26, 27] (by decide +kernel) (by decide +kernel)
set_option maxRecDepth 20000 in
theorem gX0_linkedFromAny_X0_linked : GoodIn wsX0_linkedFromAny (va_wsS RX0 49 yX0_linked wsX0_linked) := goodIn_app (goodIn_of _ (by decide +kernel)) ggX0_linkedFromAny_X0_linked
theorem dX0_linkedFromAny_0 : decode cX0_linkedFromAny 0 = .ok (.iconst 0, 1) := by decide +kernel
theorem dX0_linkedFromAny_1 : decode cX0_linkedFromAny 1 = .ok (.istore_n 2, 1) := by decide +kernel
theorem dX0_linkedFromAny_2 : decode cX0_linkedFromAny 2 = .ok (.iconst 0, 1) := by decide +kernel
theorem dX0_linkedFromAny_3 : decode cX0_linkedFromAny 3 = .ok (.istore_n 3, 1) := by decide +kernel
theorem dX0_linkedFromAny_4 : decode cX0_linkedFromAny 4 = .ok (.iload_n 3, 1) := by decide +kernel
theorem dX0_linkedFromAny_5 : decode cX0_linkedFromAny 5 = .ok (.aload_n 0, 1) := by decide +kernel
theorem dX0_linkedFromAny_6 : decode cX0_linkedFromAny 6 = .ok (.getfield 39, 3) := by decide +kernel
theorem dX0_linkedFromAny_9 : decode cX0_linkedFromAny 9 = .ok (.if_icmp .ge 26, 3) := by decide +kernel
theorem dX0_linkedFromAny_12 : decode cX0_linkedFromAny 12 = .ok (.iload_n 1, 1) := by decide +kernel
theorem dX0_linkedFromAny_13 : decode cX0_linkedFromAny 13 = .ok (.iload_n 3, 1) := by decide +kernel
theorem dX0_linkedFromAny_14 : decode cX0_linkedFromAny 14 = .ok (.ishr, 1) := by decide +kernel
theorem dX0_linkedFromAny_15 : decode cX0_linkedFromAny 15 = .ok (.iconst 1, 1) := by decide +kernel
theorem dX0_linkedFromAny_16 : decode cX0_linkedFromAny 16 = .ok (.iand, 1) := by decide +kernel
theorem dX0_linkedFromAny_17 : decode cX0_linkedFromAny 17 = .ok (.iconst 1, 1) := by decide +kernel
theorem dX0_linkedFromAny_18 : decode cX0_linkedFromAny 18 = .ok (.if_icmp .ne 11, 3) := by decide +kernel
theorem dX0_linkedFromAny_21 : decode cX0_linkedFromAny 21 = .ok (.iload_n 2, 1) := by decide +kernel
theorem dX0_linkedFromAny_22 : decode cX0_linkedFromAny 22 = .ok (.aload_n 0, 1) := by decide +kernel
theorem dX0_linkedFromAny_23 : decode cX0_linkedFromAny 23 = .ok (.iload_n 3, 1) := by decide +kernel
theorem dX0_linkedFromAny_24 : decode cX0_linkedFromAny 24 = .ok (.invokestatic 49, 3) := by decide +kernel
theorem dX0_linkedFromAny_27 : decode cX0_linkedFromAny 27 = .ok (.ior, 1) := by decide +kernel
theorem dX0_linkedFromAny_28 : decode cX0_linkedFromAny 28 = .ok (.istore_n 2, 1) := by decide +kernel
theorem dX0_linkedFromAny_29 : decode cX0_linkedFromAny 29 = .ok (.iinc 3 1, 3) := by decide +kernel
theorem dX0_linkedFromAny_32 : decode cX0_linkedFromAny 32 = .ok (.goto (-28), 3) := by decide +kernel
theorem dX0_linkedFromAny_35 : decode cX0_linkedFromAny 35 = .ok (.iload_n 2, 1) := by decide +kernel
theorem dX0_linkedFromAny_36 : decode cX0_linkedFromAny 36 = .ok (.ireturn, 1) := by decide +kernel
set_option maxRecDepth 20000 in
theorem ggX0_leadsTo_X5_get : GoodIn wsX0_leadsTo wsX5_get := goodIn_r _ [5, 6, 12, 13, 14, 15, 16, 17, 18, 19] (by decide +kernel) (by decide +kernel)
set_option maxRecDepth 20000 in
theorem gX0_leadsTo_X5_get : GoodIn wsX0_leadsTo (wsV RX0 52 RX5 yX5_get wsX5_get) := goodIn_app (goodIn_of _ (by decide +kernel)) ggX0_leadsTo_X5_get
set_option maxRecDepth 20000 in
theorem ggX0_leadsTo_X5_linkAt : GoodIn wsX0_leadsTo wsX5_linkAt := goodIn_r _ [10, 11, 2, 3, 4, 5, 6, 12, 13, 14, 15, 16, 17, 18, 19] (by decide +kernel) (by decide +kernel)
set_option maxRecDepth 20000 in
theorem gX0_leadsTo_X5_linkAt : GoodIn wsX0_leadsTo (wsV RX0 56 RX5 yX5_linkAt wsX5_linkAt) := goodIn_app (goodIn_of _ (by decide +kernel)) ggX0_leadsTo_X5_linkAt
theorem dX0_leadsTo_0 : decode cX0_leadsTo 0 = .ok (.aload_n 0, 1) := by decide +kernel
theorem dX0_leadsTo_1 : decode cX0_leadsTo 1 = .ok (.iload_n 1, 1) := by decide +kernel
theorem dX0_leadsTo_2 : decode cX0_leadsTo 2 = .ok (.iconst 0, 1) := by decide +kernel
theorem dX0_leadsTo_3 : decode cX0_leadsTo 3 = .ok (.invokevirtual 52, 3) := by decide +kernel
theorem dX0_leadsTo_6 : decode cX0_leadsTo 6 = .ok (.aload_n 0, 1) := by decide +kernel
theorem dX0_leadsTo_7 : decode cX0_leadsTo 7 = .ok (.iload_n 2, 1) := by decide +kernel
theorem dX0_leadsTo_8 : decode cX0_leadsTo 8 = .ok (.iconst 0, 1) := by decide +kernel
theorem dX0_leadsTo_9 : decode cX0_leadsTo 9 = .ok (.invokevirtual 52, 3) := by decide +kernel
theorem dX0_leadsTo_12 : decode cX0_leadsTo 12 = .ok (.if_icmp .eq 5, 3) := by decide +kernel
theorem dX0_leadsTo_15 : decode cX0_leadsTo 15 = .ok (.iconst 0, 1) := by decide +kernel
theorem dX0_leadsTo_16 : decode cX0_leadsTo 16 = .ok (.ireturn, 1) := by decide +kernel
theorem dX0_leadsTo_17 : decode cX0_leadsTo 17 = .ok (.aload_n 0, 1) := by decide +kernel
theorem dX0_leadsTo_18 : decode cX0_leadsTo 18 = .ok (.iload_n 2, 1) := by decide +kernel
theorem dX0_leadsTo_19 : decode cX0_leadsTo 19 = .ok (.iconst 1, 1) := by decide +kernel
theorem dX0_leadsTo_20 : decode cX0_leadsTo 20 = .ok (.invokevirtual 52, 3) := by decide +kernel
theorem dX0_leadsTo_23 : decode cX0_leadsTo 23 = .ok (.istore_n 3, 1) := by decide +kernel
theorem dX0_leadsTo_24 : decode cX0_leadsTo 24 = .ok (.iconst 0, 1) := by decide +kernel
theorem dX0_leadsTo_25 : decode cX0_leadsTo 25 = .ok (.istore 4, 2) := by decide +kernel
theorem dX0_leadsTo_27 : decode cX0_leadsTo 27 = .ok (.iload 4, 2) := by decide +kernel
theorem dX0_leadsTo_29 : decode cX0_leadsTo 29 = .ok (.iconst 4, 1) := by decide +kernel
theorem dX0_leadsTo_30 : decode cX0_leadsTo 30 = .ok (.if_icmp .ge 22, 3) := by decide +kernel
theorem dX0_leadsTo_33 : decode cX0_leadsTo 33 = .ok (.aload_n 0, 1) := by decide +kernel
theorem dX0_leadsTo_34 : decode cX0_leadsTo 34 = .ok (.iload_n 1, 1) := by decide +kernel
theorem dX0_leadsTo_35 : decode cX0_leadsTo 35 = .ok (.iload 4, 2) := by decide +kernel
theorem dX0_leadsTo_37 : decode cX0_leadsTo 37 = .ok (.invokevirtual 56, 3) := by decide +kernel
theorem dX0_leadsTo_40 : decode cX0_leadsTo 40 = .ok (.iload_n 3, 1) := by decide +kernel
theorem dX0_leadsTo_41 : decode cX0_leadsTo 41 = .ok (.if_icmp .ne 5, 3) := by decide +kernel
theorem dX0_leadsTo_44 : decode cX0_leadsTo 44 = .ok (.iconst 1, 1) := by decide +kernel
theorem dX0_leadsTo_45 : decode cX0_leadsTo 45 = .ok (.ireturn, 1) := by decide +kernel
theorem dX0_leadsTo_46 : decode cX0_leadsTo 46 = .ok (.iinc 4 1, 3) := by decide +kernel
theorem dX0_leadsTo_49 : decode cX0_leadsTo 49 = .ok (.goto (-22), 3) := by decide +kernel
theorem dX0_leadsTo_52 : decode cX0_leadsTo 52 = .ok (.iconst 0, 1) := by decide +kernel
theorem dX0_leadsTo_53 : decode cX0_leadsTo 53 = .ok (.ireturn, 1) := by decide +kernel
set_option maxRecDepth 20000 in
theorem ggX0_hasLetters_X5_letterAt : GoodIn wsX0_hasLetters wsX5_letterAt := goodIn_r _ [5, 6, 7, 8, 4, 9, 10, 11, 12, 13, 14, 15, 16, 17, 18] (by decide +kernel) (by decide +kernel)
set_option maxRecDepth 20000 in
theorem gX0_hasLetters_X5_letterAt : GoodIn wsX0_hasLetters (wsV RX0 29 RX5 yX5_letterAt wsX5_letterAt) := goodIn_app (goodIn_of _ (by decide +kernel)) ggX0_hasLetters_X5_letterAt
theorem dX0_hasLetters_0 : decode cX0_hasLetters 0 = .ok (.iconst 0, 1) := by decide +kernel
theorem dX0_hasLetters_1 : decode cX0_hasLetters 1 = .ok (.istore_n 3, 1) := by decide +kernel
theorem dX0_hasLetters_2 : decode cX0_hasLetters 2 = .ok (.iload_n 3, 1) := by decide +kernel
theorem dX0_hasLetters_3 : decode cX0_hasLetters 3 = .ok (.bipush 8, 2) := by decide +kernel
theorem dX0_hasLetters_5 : decode cX0_hasLetters 5 = .ok (.if_icmp .ge 22, 3) := by decide +kernel
theorem dX0_hasLetters_8 : decode cX0_hasLetters 8 = .ok (.aload_n 0, 1) := by decide +kernel
theorem dX0_hasLetters_9 : decode cX0_hasLetters 9 = .ok (.iload_n 1, 1) := by decide +kernel
theorem dX0_hasLetters_10 : decode cX0_hasLetters 10 = .ok (.iload_n 2, 1) := by decide +kernel
theorem dX0_hasLetters_11 : decode cX0_hasLetters 11 = .ok (.iload_n 3, 1) := by decide +kernel
theorem dX0_hasLetters_12 : decode cX0_hasLetters 12 = .ok (.invokevirtual 29, 3) := by decide +kernel
theorem dX0_hasLetters_15 : decode cX0_hasLetters 15 = .ok (.iconst (-1), 1) := by decide +kernel
theorem dX0_hasLetters_16 : decode cX0_hasLetters 16 = .ok (.if_icmp .eq 5, 3) := by decide +kernel
theorem dX0_hasLetters_19 : decode cX0_hasLetters 19 = .ok (.iconst 1, 1) := by decide +kernel
theorem dX0_hasLetters_20 : decode cX0_hasLetters 20 = .ok (.ireturn, 1) := by decide +kernel
theorem dX0_hasLetters_21 : decode cX0_hasLetters 21 = .ok (.iinc 3 1, 3) := by decide +kernel
theorem dX0_hasLetters_24 : decode cX0_hasLetters 24 = .ok (.goto (-22), 3) := by decide +kernel
theorem dX0_hasLetters_27 : decode cX0_hasLetters 27 = .ok (.iconst 0, 1) := by decide +kernel
theorem dX0_hasLetters_28 : decode cX0_hasLetters 28 = .ok (.ireturn, 1) := by decide +kernel
set_option maxRecDepth 20000 in
theorem ggX0_hasLinks_X5_linkAt : GoodIn wsX0_hasLinks wsX5_linkAt := goodIn_r _ [5, 6, 7, 8, 4, 9, 10, 11, 12, 13, 14, 15, 16, 17, 18] (by decide +kernel) (by decide +kernel)
set_option maxRecDepth 20000 in
theorem gX0_hasLinks_X5_linkAt : GoodIn wsX0_hasLinks (wsV RX0 56 RX5 yX5_linkAt wsX5_linkAt) := goodIn_app (goodIn_of _ (by decide +kernel)) ggX0_hasLinks_X5_linkAt
theorem dX0_hasLinks_0 : decode cX0_hasLinks 0 = .ok (.iconst 0, 1) := by decide +kernel
theorem dX0_hasLinks_1 : decode cX0_hasLinks 1 = .ok (.istore_n 2, 1) := by decide +kernel
theorem dX0_hasLinks_2 : decode cX0_hasLinks 2 = .ok (.iload_n 2, 1) := by decide +kernel
theorem dX0_hasLinks_3 : decode cX0_hasLinks 3 = .ok (.iconst 4, 1) := by decide +kernel
theorem dX0_hasLinks_4 : decode cX0_hasLinks 4 = .ok (.if_icmp .ge 21, 3) := by decide +kernel
theorem dX0_hasLinks_7 : decode cX0_hasLinks 7 = .ok (.aload_n 0, 1) := by decide +kernel
theorem dX0_hasLinks_8 : decode cX0_hasLinks 8 = .ok (.iload_n 1, 1) := by decide +kernel
theorem dX0_hasLinks_9 : decode cX0_hasLinks 9 = .ok (.iload_n 2, 1) := by decide +kernel
theorem dX0_hasLinks_10 : decode cX0_hasLinks 10 = .ok (.invokevirtual 56, 3) := by decide +kernel
theorem dX0_hasLinks_13 : decode cX0_hasLinks 13 = .ok (.iconst (-1), 1) := by decide +kernel
theorem dX0_hasLinks_14 : decode cX0_hasLinks 14 = .ok (.if_icmp .eq 5, 3) := by decide +kernel
theorem dX0_hasLinks_17 : decode cX0_hasLinks 17 = .ok (.iconst 1, 1) := by decide +kernel
theorem dX0_hasLinks_18 : decode cX0_hasLinks 18 = .ok (.ireturn, 1) := by decide +kernel
theorem dX0_hasLinks_19 : decode cX0_hasLinks 19 = .ok (.iinc 2 1, 3) := by decide +kernel
theorem dX0_hasLinks_22 : decode cX0_hasLinks 22 = .ok (.goto (-20), 3) := by decide +kernel
theorem dX0_hasLinks_25 : decode cX0_hasLinks 25 = .ok (.iconst 0, 1) := by decide +kernel
theorem dX0_hasLinks_26 : decode cX0_hasLinks 26 = .ok (.ireturn, 1) := by decide +kernel
theorem dX1_encode_0 : decode cX1_encode 0 = .ok (.getstatic 9, 3) := by decide +kernel
theorem dX1_encode_3 : decode cX1_encode 3 = .ok (.iload_n 0, 1) := by decide +kernel
theorem dX1_encode_4 : decode cX1_encode 4 = .ok (.bipush 15, 2) := by decide +kernel
theorem dX1_encode_6 : decode cX1_encode 6 = .ok (.iand, 1) := by decide +kernel
theorem dX1_encode_7 : decode cX1_encode 7 = .ok (.iaload, 1) := by decide +kernel
theorem dX1_encode_8 : decode cX1_encode 8 = .ok (.ireturn, 1) := by decide +kernel
set_option maxRecDepth 20000 in
theorem ggX1_decode_J6_bitCount_0f7a4 : GoodIn wsX1_decode wsJ6_bitCount_0f7a4 := goodIn_r _ [5, 6, 7, 8] (by decide +kernel) (by decide +kernel)
set_option maxRecDepth 20000 in
theorem gX1_decode_J6_bitCount_0f7a4 : GoodIn wsX1_decode (va_wsS RX1 15 yJ6_bitCount_0f7a4 wsJ6_bitCount_0f7a4) := goodIn_app (goodIn_of _ (by decide +kernel)) ggX1_decode_J6_bitCount_0f7a4
theorem dX1_decode_0 : decode cX1_decode 0 = .ok (.iconst 0, 1) := by decide +kernel
theorem dX1_decode_1 : decode cX1_decode 1 = .ok (.istore_n 1, 1) := by decide +kernel
theorem dX1_decode_2 : decode cX1_decode 2 = .ok (.iload_n 1, 1) := by decide +kernel
theorem dX1_decode_3 : decode cX1_decode 3 = .ok (.getstatic 9, 3) := by decide +kernel
theorem dX1_decode_6 : decode cX1_decode 6 = .ok (.arraylength, 1) := by decide +kernel
theorem dX1_decode_7 : decode cX1_decode 7 = .ok (.if_icmp .ge 25, 3) := by decide +kernel
theorem dX1_decode_10 : decode cX1_decode 10 = .ok (.iload_n 0, 1) := by decide +kernel
theorem dX1_decode_11 : decode cX1_decode 11 = .ok (.getstatic 9, 3) := by decide +kernel
theorem dX1_decode_14 : decode cX1_decode 14 = .ok (.iload_n 1, 1) := by decide +kernel
theorem dX1_decode_15 : decode cX1_decode 15 = .ok (.iaload, 1) := by decide +kernel
theorem dX1_decode_16 : decode cX1_decode 16 = .ok (.ixor, 1) := by decide +kernel
theorem dX1_decode_17 : decode cX1_decode 17 = .ok (.invokestatic 15, 3) := by decide +kernel
theorem dX1_decode_20 : decode cX1_decode 20 = .ok (.iconst 1, 1) := by decide +kernel
theorem dX1_decode_21 : decode cX1_decode 21 = .ok (.if_icmp .gt 5, 3) := by decide +kernel
theorem dX1_decode_24 : decode cX1_decode 24 = .ok (.iload_n 1, 1) := by decide +kernel
theorem dX1_decode_25 : decode cX1_decode 25 = .ok (.ireturn, 1) := by decide +kernel
theorem dX1_decode_26 : decode cX1_decode 26 = .ok (.iinc 1 1, 3) := by decide +kernel
theorem dX1_decode_29 : decode cX1_decode 29 = .ok (.goto (-27), 3) := by decide +kernel
theorem dX1_decode_32 : decode cX1_decode 32 = .ok (.iconst (-1), 1) := by decide +kernel
theorem dX1_decode_33 : decode cX1_decode 33 = .ok (.ireturn, 1) := by decide +kernel
set_option maxRecDepth 20000 in
theorem ggX1_isWell_J6_bitCount_0f7a4 : GoodIn wsX1_isWell wsJ6_bitCount_0f7a4 := goodIn_r _ [4, 5, 6, 7] (by decide +kernel) (by decide +kernel)
set_option maxRecDepth 20000 in
theorem gX1_isWell_J6_bitCount_0f7a4 : GoodIn wsX1_isWell (va_wsS RX1 15 yJ6_bitCount_0f7a4 wsJ6_bitCount_0f7a4) := goodIn_app (goodIn_of _ (by decide +kernel)) ggX1_isWell_J6_bitCount_0f7a4
theorem dX1_isWell_0 : decode cX1_isWell 0 = .ok (.iload_n 0, 1) := by decide +kernel
theorem dX1_isWell_1 : decode cX1_isWell 1 = .ok (.invokestatic 15, 3) := by decide +kernel
theorem dX1_isWell_4 : decode cX1_isWell 4 = .ok (.iconst 1, 1) := by decide +kernel
theorem dX1_isWell_5 : decode cX1_isWell 5 = .ok (.iand, 1) := by decide +kernel
theorem dX1_isWell_6 : decode cX1_isWell 6 = .ok (.iconst 1, 1) := by decide +kernel
theorem dX1_isWell_7 : decode cX1_isWell 7 = .ok (.if_icmp .ne 7, 3) := by decide +kernel
theorem dX1_isWell_10 : decode cX1_isWell 10 = .ok (.iconst 1, 1) := by decide +kernel
theorem dX1_isWell_11 : decode cX1_isWell 11 = .ok (.goto 4, 3) := by decide +kernel
theorem dX1_isWell_14 : decode cX1_isWell 14 = .ok (.iconst 0, 1) := by decide +kernel
theorem dX1_isWell_15 : decode cX1_isWell 15 = .ok (.ireturn, 1) := by decide +kernel
set_option maxRecDepth 20000 in
theorem ggX1_oddOctet_X1_isWell : GoodIn wsX1_oddOctet wsX1_isWell := goodIn_r _ [4, 5, 6, 7, 8, 9, 10, 11] (by decide +kernel) (by decide +kernel)
set_option maxRecDepth 20000 in
theorem gX1_oddOctet_X1_isWell : GoodIn wsX1_oddOctet (va_wsS RX1 21 yX1_isWell wsX1_isWell) := goodIn_app (goodIn_of _ (by decide +kernel)) ggX1_oddOctet_X1_isWell
theorem dX1_oddOctet_0 : decode cX1_oddOctet 0 = .ok (.iload_n 0, 1) := by decide +kernel
theorem dX1_oddOctet_1 : decode cX1_oddOctet 1 = .ok (.invokestatic 21, 3) := by decide +kernel
theorem dX1_oddOctet_4 : decode cX1_oddOctet 4 = .ok (.ifCond .eq 7, 3) := by decide +kernel
theorem dX1_oddOctet_7 : decode cX1_oddOctet 7 = .ok (.iload_n 0, 1) := by decide +kernel
theorem dX1_oddOctet_8 : decode cX1_oddOctet 8 = .ok (.goto 8, 3) := by decide +kernel
theorem dX1_oddOctet_11 : decode cX1_oddOctet 11 = .ok (.iload_n 0, 1) := by decide +kernel
theorem dX1_oddOctet_12 : decode cX1_oddOctet 12 = .ok (.sipush 128, 3) := by decide +kernel
theorem dX1_oddOctet_15 : decode cX1_oddOctet 15 = .ok (.ior, 1) := by decide +kernel
theorem dX1_oddOctet_16 : decode cX1_oddOctet 16 = .ok (.ireturn, 1) := by decide +kernel
theorem dX2_init_0 : decode cX2_init 0 = .ok (.aload_n 0, 1) := by decide +kernel
theorem dX2_init_1 : decode cX2_init 1 = .ok (.invokespecial 3, 3) := by decide +kernel
theorem dX2_init_4 : decode cX2_init 4 = .ok (.aload_n 0, 1) := by decide +kernel
theorem dX2_init_5 : decode cX2_init 5 = .ok (.bipush 20, 2) := by decide +kernel
theorem dX2_init_7 : decode cX2_init 7 = .ok (.newarray .int, 2) := by decide +kernel
theorem dX2_init_9 : decode cX2_init 9 = .ok (.putfield 11, 3) := by decide +kernel
theorem dX2_init_12 : decode cX2_init 12 = .ok (.aload_n 0, 1) := by decide +kernel
theorem dX2_init_13 : decode cX2_init 13 = .ok (.bipush 20, 2) := by decide +kernel
theorem dX2_init_15 : decode cX2_init 15 = .ok (.newarray .int, 2) := by decide +kernel
theorem dX2_init_17 : decode cX2_init 17 = .ok (.putfield 15, 3) := by decide +kernel
theorem dX2_init_20 : decode cX2_init 20 = .ok (.aload_n 0, 1) := by decide +kernel
theorem dX2_init_21 : decode cX2_init 21 = .ok (.bipush 20, 2) := by decide +kernel
theorem dX2_init_23 : decode cX2_init 23 = .ok (.newarray .int, 2) := by decide +kernel
theorem dX2_init_25 : decode cX2_init 25 = .ok (.putfield 18, 3) := by decide +kernel
theorem dX2_init_28 : decode cX2_init 28 = .ok (.aload_n 0, 1) := by decide +kernel
theorem dX2_init_29 : decode cX2_init 29 = .ok (.bipush 20, 2) := by decide +kernel
theorem dX2_init_31 : decode cX2_init 31 = .ok (.newarray .int, 2) := by decide +kernel
theorem dX2_init_33 : decode cX2_init 33 = .ok (.putfield 21, 3) := by decide +kernel
theorem dX2_init_36 : decode cX2_init 36 = .ok (.return_, 1) := by decide +kernel
set_option maxRecDepth 20000 in
theorem ggX2_add_X7_isWithin : GoodIn wsX2_add wsX7_isWithin := goodIn_r _ [8] (by decide +kernel) (by decide +kernel)
set_option maxRecDepth 20000 in
theorem gX2_add_X7_isWithin_n28 : GoodIn wsX2_add (wsX7_isWithin) := ggX2_add_X7_isWithin
theorem dX2_add_0 : decode cX2_add 0 = .ok (.aload_n 0, 1) := by decide +kernel
theorem dX2_add_1 : decode cX2_add 1 = .ok (.getfield 24, 3) := by decide +kernel
theorem dX2_add_4 : decode cX2_add 4 = .ok (.iconst 0, 1) := by decide +kernel
theorem dX2_add_5 : decode cX2_add 5 = .ok (.bipush 19, 2) := by decide +kernel
theorem dX2_add_7 : decode cX2_add 7 = .ok (.invokestatic 28, 3) := by decide +kernel
theorem dX2_add_10 : decode cX2_add 10 = .ok (.ifCond .ne 5, 3) := by decide +kernel
theorem dX2_add_13 : decode cX2_add 13 = .ok (.iconst 0, 1) := by decide +kernel
theorem dX2_add_14 : decode cX2_add 14 = .ok (.ireturn, 1) := by decide +kernel
theorem dX2_add_15 : decode cX2_add 15 = .ok (.aload_n 0, 1) := by decide +kernel
theorem dX2_add_16 : decode cX2_add 16 = .ok (.getfield 11, 3) := by decide +kernel
theorem dX2_add_19 : decode cX2_add 19 = .ok (.aload_n 0, 1) := by decide +kernel
theorem dX2_add_20 : decode cX2_add 20 = .ok (.getfield 24, 3) := by decide +kernel
theorem dX2_add_23 : decode cX2_add 23 = .ok (.iload_n 1, 1) := by decide +kernel
theorem dX2_add_24 : decode cX2_add 24 = .ok (.iastore, 1) := by decide +kernel
theorem dX2_add_25 : decode cX2_add 25 = .ok (.aload_n 0, 1) := by decide +kernel
theorem dX2_add_26 : decode cX2_add 26 = .ok (.getfield 15, 3) := by decide +kernel
theorem dX2_add_29 : decode cX2_add 29 = .ok (.aload_n 0, 1) := by decide +kernel
theorem dX2_add_30 : decode cX2_add 30 = .ok (.getfield 24, 3) := by decide +kernel
theorem dX2_add_33 : decode cX2_add 33 = .ok (.iload_n 2, 1) := by decide +kernel
theorem dX2_add_34 : decode cX2_add 34 = .ok (.iastore, 1) := by decide +kernel
theorem dX2_add_35 : decode cX2_add 35 = .ok (.aload_n 0, 1) := by decide +kernel
theorem dX2_add_36 : decode cX2_add 36 = .ok (.getfield 18, 3) := by decide +kernel
theorem dX2_add_39 : decode cX2_add 39 = .ok (.aload_n 0, 1) := by decide +kernel
theorem dX2_add_40 : decode cX2_add 40 = .ok (.getfield 24, 3) := by decide +kernel
theorem dX2_add_43 : decode cX2_add 43 = .ok (.iload_n 3, 1) := by decide +kernel
theorem dX2_add_44 : decode cX2_add 44 = .ok (.iastore, 1) := by decide +kernel
theorem dX2_add_45 : decode cX2_add 45 = .ok (.aload_n 0, 1) := by decide +kernel
theorem dX2_add_46 : decode cX2_add 46 = .ok (.getfield 21, 3) := by decide +kernel
theorem dX2_add_49 : decode cX2_add 49 = .ok (.aload_n 0, 1) := by decide +kernel
theorem dX2_add_50 : decode cX2_add 50 = .ok (.getfield 24, 3) := by decide +kernel
theorem dX2_add_53 : decode cX2_add 53 = .ok (.iload 4, 2) := by decide +kernel
theorem dX2_add_55 : decode cX2_add 55 = .ok (.iastore, 1) := by decide +kernel
theorem dX2_add_56 : decode cX2_add 56 = .ok (.aload_n 0, 1) := by decide +kernel
theorem dX2_add_57 : decode cX2_add 57 = .ok (.dup, 1) := by decide +kernel
theorem dX2_add_58 : decode cX2_add 58 = .ok (.getfield 24, 3) := by decide +kernel
theorem dX2_add_61 : decode cX2_add 61 = .ok (.iconst 1, 1) := by decide +kernel
theorem dX2_add_62 : decode cX2_add 62 = .ok (.iadd, 1) := by decide +kernel
theorem dX2_add_63 : decode cX2_add 63 = .ok (.putfield 24, 3) := by decide +kernel
theorem dX2_add_66 : decode cX2_add 66 = .ok (.iconst 1, 1) := by decide +kernel
theorem dX2_add_67 : decode cX2_add 67 = .ok (.ireturn, 1) := by decide +kernel
set_option maxRecDepth 20000 in
theorem ggX2_firstWrong_X2_isRight : GoodIn wsX2_firstWrong wsX2_isRight := goodIn_r _ [6, 7, 8, 9, 10, 11, 12, 13, 14, 15, 16, 17, 18, 19, 20, 21, 22, 23, 24, 25, 26, 27, 28, 29, 30, 31, 32, 33, 34, 35, 36, 37, 38, 39, 40, 41] (by decide +kernel) (by decide +kernel)
set_option maxRecDepth 20000 in
theorem gX2_firstWrong_X2_isRight : GoodIn wsX2_firstWrong (wsV RX2 32 RX2 yX2_isRight wsX2_isRight) := goodIn_app (goodIn_of _ (by decide +kernel)) ggX2_firstWrong_X2_isRight
theorem dX2_firstWrong_0 : decode cX2_firstWrong 0 = .ok (.iconst 0, 1) := by decide +kernel
theorem dX2_firstWrong_1 : decode cX2_firstWrong 1 = .ok (.istore_n 2, 1) := by decide +kernel
theorem dX2_firstWrong_2 : decode cX2_firstWrong 2 = .ok (.iload_n 2, 1) := by decide +kernel
theorem dX2_firstWrong_3 : decode cX2_firstWrong 3 = .ok (.aload_n 0, 1) := by decide +kernel
theorem dX2_firstWrong_4 : decode cX2_firstWrong 4 = .ok (.getfield 24, 3) := by decide +kernel
theorem dX2_firstWrong_7 : decode cX2_firstWrong 7 = .ok (.if_icmp .ge 20, 3) := by decide +kernel
theorem dX2_firstWrong_10 : decode cX2_firstWrong 10 = .ok (.aload_n 0, 1) := by decide +kernel
theorem dX2_firstWrong_11 : decode cX2_firstWrong 11 = .ok (.aload_n 1, 1) := by decide +kernel
theorem dX2_firstWrong_12 : decode cX2_firstWrong 12 = .ok (.iload_n 2, 1) := by decide +kernel
theorem dX2_firstWrong_13 : decode cX2_firstWrong 13 = .ok (.invokevirtual 32, 3) := by decide +kernel
theorem dX2_firstWrong_16 : decode cX2_firstWrong 16 = .ok (.ifCond .ne 5, 3) := by decide +kernel
theorem dX2_firstWrong_19 : decode cX2_firstWrong 19 = .ok (.iload_n 2, 1) := by decide +kernel
theorem dX2_firstWrong_20 : decode cX2_firstWrong 20 = .ok (.ireturn, 1) := by decide +kernel
theorem dX2_firstWrong_21 : decode cX2_firstWrong 21 = .ok (.iinc 2 1, 3) := by decide +kernel
theorem dX2_firstWrong_24 : decode cX2_firstWrong 24 = .ok (.goto (-22), 3) := by decide +kernel
theorem dX2_firstWrong_27 : decode cX2_firstWrong 27 = .ok (.iconst (-1), 1) := by decide +kernel
theorem dX2_firstWrong_28 : decode cX2_firstWrong 28 = .ok (.ireturn, 1) := by decide +kernel
set_option maxRecDepth 20000 in
theorem ggX2_isRight_X5_has : GoodIn wsX2_isRight wsX5_has := goodIn_r _ [9, 10, 11, 12, 13, 28, 29, 30, 31, 32, 33, 34, 35] (by decide +kernel) (by decide +kernel)
set_option maxRecDepth 20000 in
theorem gX2_isRight_X5_has : GoodIn wsX2_isRight (wsV RX2 36 RX5 yX5_has wsX5_has) := goodIn_app (goodIn_of _ (by decide +kernel)) ggX2_isRight_X5_has
set_option maxRecDepth 20000 in
theorem ggX2_isRight_X5_letterAt : GoodIn wsX2_isRight wsX5_letterAt := goodIn_r _ [17, 18, 19, 20, 8, 21, 22, 28, 29, 30, 31, 32, 33, 34, 35] (by decide +kernel) (by decide +kernel)
set_option maxRecDepth 20000 in
theorem gX2_isRight_X5_letterAt : GoodIn wsX2_isRight (wsV RX2 42 RX5 yX5_letterAt wsX5_letterAt) := goodIn_app (goodIn_of _ (by decide +kernel)) ggX2_isRight_X5_letterAt
theorem dX2_isRight_0 : decode cX2_isRight 0 = .ok (.aload_n 1, 1) := by decide +kernel
theorem dX2_isRight_1 : decode cX2_isRight 1 = .ok (.aload_n 0, 1) := by decide +kernel
theorem dX2_isRight_2 : decode cX2_isRight 2 = .ok (.getfield 11, 3) := by decide +kernel
theorem dX2_isRight_5 : decode cX2_isRight 5 = .ok (.iload_n 2, 1) := by decide +kernel
theorem dX2_isRight_6 : decode cX2_isRight 6 = .ok (.iaload, 1) := by decide +kernel
theorem dX2_isRight_7 : decode cX2_isRight 7 = .ok (.invokevirtual 36, 3) := by decide +kernel
theorem dX2_isRight_10 : decode cX2_isRight 10 = .ok (.ifCond .ne 5, 3) := by decide +kernel
theorem dX2_isRight_13 : decode cX2_isRight 13 = .ok (.iconst 0, 1) := by decide +kernel
theorem dX2_isRight_14 : decode cX2_isRight 14 = .ok (.ireturn, 1) := by decide +kernel
theorem dX2_isRight_15 : decode cX2_isRight 15 = .ok (.aload_n 1, 1) := by decide +kernel
theorem dX2_isRight_16 : decode cX2_isRight 16 = .ok (.aload_n 0, 1) := by decide +kernel
theorem dX2_isRight_17 : decode cX2_isRight 17 = .ok (.getfield 11, 3) := by decide +kernel
theorem dX2_isRight_20 : decode cX2_isRight 20 = .ok (.iload_n 2, 1) := by decide +kernel
theorem dX2_isRight_21 : decode cX2_isRight 21 = .ok (.iaload, 1) := by decide +kernel
theorem dX2_isRight_22 : decode cX2_isRight 22 = .ok (.aload_n 0, 1) := by decide +kernel
theorem dX2_isRight_23 : decode cX2_isRight 23 = .ok (.getfield 15, 3) := by decide +kernel
theorem dX2_isRight_26 : decode cX2_isRight 26 = .ok (.iload_n 2, 1) := by decide +kernel
theorem dX2_isRight_27 : decode cX2_isRight 27 = .ok (.iaload, 1) := by decide +kernel
theorem dX2_isRight_28 : decode cX2_isRight 28 = .ok (.aload_n 0, 1) := by decide +kernel
theorem dX2_isRight_29 : decode cX2_isRight 29 = .ok (.getfield 18, 3) := by decide +kernel
theorem dX2_isRight_32 : decode cX2_isRight 32 = .ok (.iload_n 2, 1) := by decide +kernel
theorem dX2_isRight_33 : decode cX2_isRight 33 = .ok (.iaload, 1) := by decide +kernel
theorem dX2_isRight_34 : decode cX2_isRight 34 = .ok (.invokevirtual 42, 3) := by decide +kernel
theorem dX2_isRight_37 : decode cX2_isRight 37 = .ok (.istore_n 3, 1) := by decide +kernel
theorem dX2_isRight_38 : decode cX2_isRight 38 = .ok (.iload_n 3, 1) := by decide +kernel
theorem dX2_isRight_39 : decode cX2_isRight 39 = .ok (.iconst (-1), 1) := by decide +kernel
theorem dX2_isRight_40 : decode cX2_isRight 40 = .ok (.if_icmp .eq 20, 3) := by decide +kernel
theorem dX2_isRight_43 : decode cX2_isRight 43 = .ok (.iload_n 3, 1) := by decide +kernel
theorem dX2_isRight_44 : decode cX2_isRight 44 = .ok (.bipush 127, 2) := by decide +kernel
theorem dX2_isRight_46 : decode cX2_isRight 46 = .ok (.iand, 1) := by decide +kernel
theorem dX2_isRight_47 : decode cX2_isRight 47 = .ok (.aload_n 0, 1) := by decide +kernel
theorem dX2_isRight_48 : decode cX2_isRight 48 = .ok (.getfield 21, 3) := by decide +kernel
theorem dX2_isRight_51 : decode cX2_isRight 51 = .ok (.iload_n 2, 1) := by decide +kernel
theorem dX2_isRight_52 : decode cX2_isRight 52 = .ok (.iaload, 1) := by decide +kernel
theorem dX2_isRight_53 : decode cX2_isRight 53 = .ok (.if_icmp .ne 7, 3) := by decide +kernel
theorem dX2_isRight_56 : decode cX2_isRight 56 = .ok (.iconst 1, 1) := by decide +kernel
theorem dX2_isRight_57 : decode cX2_isRight 57 = .ok (.goto 4, 3) := by decide +kernel
theorem dX2_isRight_60 : decode cX2_isRight 60 = .ok (.iconst 0, 1) := by decide +kernel
theorem dX2_isRight_61 : decode cX2_isRight 61 = .ok (.ireturn, 1) := by decide +kernel
set_option maxRecDepth 20000 in
theorem ggX3_take_X5_countMended : GoodIn wsX3_take wsX5_countMended := goodIn_r _ [6, 7, 8, 9, 10, 11, 12, 13, 14, 15, 16, 17, 18, 19, 20, 21, 22, 23, 111, 112, 113, 114, 115, 116, 117, 118] (by decide +kernel) (by decide +kernel)
set_option maxRecDepth 20000 in
theorem gX3_take_X5_countMended : GoodIn wsX3_take (wsV RX3 9 RX5 yX5_countMended wsX5_countMended) := goodIn_app (goodIn_of _ (by decide +kernel)) ggX3_take_X5_countMended
set_option maxRecDepth 20000 in
theorem ggX3_take_X1_decode : GoodIn wsX3_take wsX1_decode := goodIn_r _ [12, 13, 14, 15, 16, 17, 18, 19, 20] (by decide +kernel) (by decide +kernel)
set_option maxRecDepth 20000 in
theorem gX3_take_X1_decode : GoodIn wsX3_take (va_wsS RX3 15 yX1_decode wsX1_decode) := goodIn_app (goodIn_of _ (by decide +kernel)) ggX3_take_X1_decode
set_option maxRecDepth 20000 in
theorem ggX3_take_X7_isWithin : GoodIn wsX3_take wsX7_isWithin := goodIn_r _ [27] (by decide +kernel) (by decide +kernel)
set_option maxRecDepth 20000 in
theorem gX3_take_X7_isWithin_n21 : GoodIn wsX3_take (wsX7_isWithin) := ggX3_take_X7_isWithin
set_option maxRecDepth 20000 in
theorem ggX3_take_X3_takeHead : GoodIn wsX3_take wsX3_takeHead := goodIn_r _ [31, 1, 2, 3, 4, 5, 6, 7, 8, 9, 10, 11, 12, 13, 14, 15, 16, 17, 18, 19, 20, 21, 22, 23, 32, 33, 30, 34, 24, 25, 26, 27, 35, 36, 37, 38, 39, 40, 41, 42, 43, 44, 45, 46, 47, 48, 49, 50, 51, 52, 53, 54, 55, 56, 57, 58, 59, 60, 61, 62, 63, 64, 65, 66, 67, 68, 69, 70, 71, 72, 73, 74, 75, 76, 77, 78, 79, 80, 81, 82, 83, 84, 85, 86, 111, 112, 113, 114, 115, 116, 117, 118] (by decide +kernel) (by decide +kernel)
set_option maxRecDepth 20000 in
theorem gX3_take_X3_takeHead : GoodIn wsX3_take (va_wsS RX3 25 yX3_takeHead wsX3_takeHead) := goodIn_app (goodIn_of _ (by decide +kernel)) ggX3_take_X3_takeHead
set_option maxRecDepth 20000 in
theorem ggX3_take_X3_takeLinks : GoodIn wsX3_take wsX3_takeLinks := goodIn_r _ [89, 90, 91, 92, 5, 93, 39, 25, 26, 27, 2, 3, 4, 6, 7, 8, 9, 10, 11, 12, 13, 14, 15, 16, 17, 18, 19, 20, 21, 22, 23, 32, 33, 30, 34, 24, 94, 95, 96, 97, 71, 72, 73, 74, 54, 111, 112, 113, 114, 115, 116, 117, 118] (by decide +kernel) (by decide +kernel)
set_option maxRecDepth 20000 in
theorem gX3_take_X3_takeLinks : GoodIn wsX3_take (va_wsS RX3 35 yX3_takeLinks wsX3_takeLinks) := goodIn_app (goodIn_of _ (by decide +kernel)) ggX3_take_X3_takeLinks
set_option maxRecDepth 20000 in
theorem ggX3_take_X3_takeRow : GoodIn wsX3_take wsX3_takeRow := goodIn_r _ [100, 90, 91, 92, 5, 93, 39, 25, 26, 27, 101, 102, 103, 104, 105, 106, 11, 107, 14, 15, 16, 17, 18, 19, 20, 71, 72, 73, 74, 54, 50, 51, 52, 53, 108, 109, 110, 111, 112, 113, 114, 115, 116, 117, 118] (by decide +kernel) (by decide +kernel)
set_option maxRecDepth 20000 in
theorem gX3_take_X3_takeRow : GoodIn wsX3_take (va_wsS RX3 38 yX3_takeRow wsX3_takeRow) := goodIn_app (goodIn_of _ (by decide +kernel)) ggX3_take_X3_takeRow
theorem dX3_take_0 : decode cX3_take 0 = .ok (.aload_n 1, 1) := by decide +kernel
theorem dX3_take_1 : decode cX3_take 1 = .ok (.arraylength, 1) := by decide +kernel
theorem dX3_take_2 : decode cX3_take 2 = .ok (.bipush 10, 2) := by decide +kernel
theorem dX3_take_4 : decode cX3_take 4 = .ok (.if_icmp .ge 5, 3) := by decide +kernel
theorem dX3_take_7 : decode cX3_take 7 = .ok (.iconst 0, 1) := by decide +kernel
theorem dX3_take_8 : decode cX3_take 8 = .ok (.ireturn, 1) := by decide +kernel
theorem dX3_take_9 : decode cX3_take 9 = .ok (.aload_n 0, 1) := by decide +kernel
theorem dX3_take_10 : decode cX3_take 10 = .ok (.aload_n 1, 1) := by decide +kernel
theorem dX3_take_11 : decode cX3_take 11 = .ok (.iconst 0, 1) := by decide +kernel
theorem dX3_take_12 : decode cX3_take 12 = .ok (.iconst 2, 1) := by decide +kernel
theorem dX3_take_13 : decode cX3_take 13 = .ok (.invokevirtual 9, 3) := by decide +kernel
theorem dX3_take_16 : decode cX3_take 16 = .ok (.aload_n 1, 1) := by decide +kernel
theorem dX3_take_17 : decode cX3_take 17 = .ok (.iconst 0, 1) := by decide +kernel
theorem dX3_take_18 : decode cX3_take 18 = .ok (.iaload, 1) := by decide +kernel
theorem dX3_take_19 : decode cX3_take 19 = .ok (.invokestatic 15, 3) := by decide +kernel
theorem dX3_take_22 : decode cX3_take 22 = .ok (.istore_n 2, 1) := by decide +kernel
theorem dX3_take_23 : decode cX3_take 23 = .ok (.aload_n 1, 1) := by decide +kernel
theorem dX3_take_24 : decode cX3_take 24 = .ok (.iconst 1, 1) := by decide +kernel
theorem dX3_take_25 : decode cX3_take 25 = .ok (.iaload, 1) := by decide +kernel
theorem dX3_take_26 : decode cX3_take 26 = .ok (.invokestatic 15, 3) := by decide +kernel
theorem dX3_take_29 : decode cX3_take 29 = .ok (.istore_n 3, 1) := by decide +kernel
theorem dX3_take_30 : decode cX3_take 30 = .ok (.iload_n 2, 1) := by decide +kernel
theorem dX3_take_31 : decode cX3_take 31 = .ok (.iconst 0, 1) := by decide +kernel
theorem dX3_take_32 : decode cX3_take 32 = .ok (.iconst 3, 1) := by decide +kernel
theorem dX3_take_33 : decode cX3_take 33 = .ok (.invokestatic 21, 3) := by decide +kernel
theorem dX3_take_36 : decode cX3_take 36 = .ok (.ifCond .ne 5, 3) := by decide +kernel
theorem dX3_take_39 : decode cX3_take 39 = .ok (.iconst 0, 1) := by decide +kernel
theorem dX3_take_40 : decode cX3_take 40 = .ok (.ireturn, 1) := by decide +kernel
theorem dX3_take_41 : decode cX3_take 41 = .ok (.iload_n 3, 1) := by decide +kernel
theorem dX3_take_42 : decode cX3_take 42 = .ok (.lookupswitch 55 #[(0, 34), (6, 41), (7, 53)], 34) := by decide +kernel
theorem dX3_take_76 : decode cX3_take 76 = .ok (.aload_n 0, 1) := by decide +kernel
theorem dX3_take_77 : decode cX3_take 77 = .ok (.iload_n 2, 1) := by decide +kernel
theorem dX3_take_78 : decode cX3_take 78 = .ok (.aload_n 1, 1) := by decide +kernel
theorem dX3_take_79 : decode cX3_take 79 = .ok (.invokestatic 25, 3) := by decide +kernel
theorem dX3_take_82 : decode cX3_take 82 = .ok (.ireturn, 1) := by decide +kernel
theorem dX3_take_83 : decode cX3_take 83 = .ok (.aload_n 0, 1) := by decide +kernel
theorem dX3_take_84 : decode cX3_take 84 = .ok (.aload_n 0, 1) := by decide +kernel
theorem dX3_take_85 : decode cX3_take 85 = .ok (.getfield 31, 3) := by decide +kernel
theorem dX3_take_88 : decode cX3_take 88 = .ok (.iload_n 2, 1) := by decide +kernel
theorem dX3_take_89 : decode cX3_take 89 = .ok (.iaload, 1) := by decide +kernel
theorem dX3_take_90 : decode cX3_take 90 = .ok (.aload_n 1, 1) := by decide +kernel
theorem dX3_take_91 : decode cX3_take 91 = .ok (.invokestatic 35, 3) := by decide +kernel
theorem dX3_take_94 : decode cX3_take 94 = .ok (.ireturn, 1) := by decide +kernel
theorem dX3_take_95 : decode cX3_take 95 = .ok (.iconst 1, 1) := by decide +kernel
theorem dX3_take_96 : decode cX3_take 96 = .ok (.ireturn, 1) := by decide +kernel
theorem dX3_take_97 : decode cX3_take 97 = .ok (.aload_n 0, 1) := by decide +kernel
theorem dX3_take_98 : decode cX3_take 98 = .ok (.aload_n 0, 1) := by decide +kernel
theorem dX3_take_99 : decode cX3_take 99 = .ok (.getfield 31, 3) := by decide +kernel
theorem dX3_take_102 : decode cX3_take 102 = .ok (.iload_n 2, 1) := by decide +kernel
theorem dX3_take_103 : decode cX3_take 103 = .ok (.iaload, 1) := by decide +kernel
theorem dX3_take_104 : decode cX3_take 104 = .ok (.iload_n 3, 1) := by decide +kernel
theorem dX3_take_105 : decode cX3_take 105 = .ok (.iconst 1, 1) := by decide +kernel
theorem dX3_take_106 : decode cX3_take 106 = .ok (.isub, 1) := by decide +kernel
theorem dX3_take_107 : decode cX3_take 107 = .ok (.aload_n 1, 1) := by decide +kernel
theorem dX3_take_108 : decode cX3_take 108 = .ok (.invokestatic 38, 3) := by decide +kernel
theorem dX3_take_111 : decode cX3_take 111 = .ok (.ireturn, 1) := by decide +kernel
set_option maxRecDepth 20000 in
theorem ggX3_takeHead_X5_countMended : GoodIn wsX3_takeHead wsX5_countMended := goodIn_r _ [6, 7, 8, 9, 10, 11, 12, 13, 14, 15, 16, 17, 18, 19, 20, 21, 22, 23, 84, 85, 86, 87, 88, 89, 90, 91] (by decide +kernel) (by decide +kernel)
set_option maxRecDepth 20000 in
theorem gX3_takeHead_X5_countMended : GoodIn wsX3_takeHead (wsV RX3 9 RX5 yX5_countMended wsX5_countMended) := goodIn_app (goodIn_of _ (by decide +kernel)) ggX3_takeHead_X5_countMended
set_option maxRecDepth 20000 in
theorem ggX3_takeHead_X3_numberAt : GoodIn wsX3_takeHead wsX3_numberAt := goodIn_r _ [27, 28, 10, 11, 12, 13, 14, 15, 16, 17, 18, 19, 20, 29, 30, 31] (by decide +kernel) (by decide +kernel)
set_option maxRecDepth 20000 in
theorem gX3_takeHead_X3_numberAt : GoodIn wsX3_takeHead (va_wsS RX3 42 yX3_numberAt wsX3_numberAt) := goodIn_app (goodIn_of _ (by decide +kernel)) ggX3_takeHead_X3_numberAt
set_option maxRecDepth 20000 in
theorem ggX3_takeHead_X1_decode : GoodIn wsX3_takeHead wsX1_decode := goodIn_r _ [12, 13, 14, 15, 16, 17, 18, 19, 20] (by decide +kernel) (by decide +kernel)
set_option maxRecDepth 20000 in
theorem gX3_takeHead_X1_decode : GoodIn wsX3_takeHead (va_wsS RX3 15 yX1_decode wsX1_decode) := goodIn_app (goodIn_of _ (by decide +kernel)) ggX3_takeHead_X1_decode
set_option maxRecDepth 20000 in
theorem ggX3_takeHead_X7_isWithin : GoodIn wsX3_takeHead wsX7_isWithin := goodIn_r _ [31] (by decide +kernel) (by decide +kernel)
set_option maxRecDepth 20000 in
theorem gX3_takeHead_X7_isWithin_n21 : GoodIn wsX3_takeHead (wsX7_isWithin) := ggX3_takeHead_X7_isWithin
set_option maxRecDepth 20000 in
theorem ggX3_takeHead_X5_openPage : GoodIn wsX3_takeHead wsX5_openPage := goodIn_r _ [35, 36, 37, 38, 39, 40, 41, 42, 43, 44, 45, 5, 46, 47, 48, 49, 50, 51, 52, 53, 54, 55, 56, 57, 58, 59, 60, 61, 62, 63, 64, 65, 66, 67, 68, 69, 70, 71, 72, 73, 74, 75, 76, 77, 78, 79, 80, 81, 82, 29, 30, 31, 84, 85, 86, 87, 88, 89, 90, 91] (by decide +kernel) (by decide +kernel)
set_option maxRecDepth 20000 in
theorem gX3_takeHead_X5_openPage : GoodIn wsX3_takeHead (wsV RX3 46 RX5 yX5_openPage wsX5_openPage) := goodIn_app (goodIn_of _ (by decide +kernel)) ggX3_takeHead_X5_openPage
set_option maxRecDepth 20000 in
theorem ggX3_takeHead_X5_clear : GoodIn wsX3_takeHead wsX5_clear := goodIn_r _ [75, 51, 76, 77, 78, 79, 80, 81, 82, 84, 85, 86, 87, 88, 89, 90, 91] (by decide +kernel) (by decide +kernel)
set_option maxRecDepth 20000 in
theorem gX3_takeHead_X5_clear : GoodIn wsX3_takeHead (wsV RX3 50 RX5 yX5_clear wsX5_clear) := goodIn_app (goodIn_of _ (by decide +kernel)) ggX3_takeHead_X5_clear
theorem dX3_takeHead_0 : decode cX3_takeHead 0 = .ok (.aload_n 0, 1) := by decide +kernel
theorem dX3_takeHead_1 : decode cX3_takeHead 1 = .ok (.aload_n 2, 1) := by decide +kernel
theorem dX3_takeHead_2 : decode cX3_takeHead 2 = .ok (.iconst 2, 1) := by decide +kernel
theorem dX3_takeHead_3 : decode cX3_takeHead 3 = .ok (.bipush 6, 2) := by decide +kernel
theorem dX3_takeHead_5 : decode cX3_takeHead 5 = .ok (.invokevirtual 9, 3) := by decide +kernel
theorem dX3_takeHead_8 : decode cX3_takeHead 8 = .ok (.aload_n 2, 1) := by decide +kernel
theorem dX3_takeHead_9 : decode cX3_takeHead 9 = .ok (.iconst 2, 1) := by decide +kernel
theorem dX3_takeHead_10 : decode cX3_takeHead 10 = .ok (.invokestatic 42, 3) := by decide +kernel
theorem dX3_takeHead_13 : decode cX3_takeHead 13 = .ok (.istore_n 3, 1) := by decide +kernel
theorem dX3_takeHead_14 : decode cX3_takeHead 14 = .ok (.aload_n 2, 1) := by decide +kernel
theorem dX3_takeHead_15 : decode cX3_takeHead 15 = .ok (.iconst 4, 1) := by decide +kernel
theorem dX3_takeHead_16 : decode cX3_takeHead 16 = .ok (.iaload, 1) := by decide +kernel
theorem dX3_takeHead_17 : decode cX3_takeHead 17 = .ok (.invokestatic 15, 3) := by decide +kernel
theorem dX3_takeHead_20 : decode cX3_takeHead 20 = .ok (.istore 4, 2) := by decide +kernel
theorem dX3_takeHead_22 : decode cX3_takeHead 22 = .ok (.aload_n 2, 1) := by decide +kernel
theorem dX3_takeHead_23 : decode cX3_takeHead 23 = .ok (.iconst 5, 1) := by decide +kernel
theorem dX3_takeHead_24 : decode cX3_takeHead 24 = .ok (.iaload, 1) := by decide +kernel
theorem dX3_takeHead_25 : decode cX3_takeHead 25 = .ok (.invokestatic 15, 3) := by decide +kernel
theorem dX3_takeHead_28 : decode cX3_takeHead 28 = .ok (.istore 5, 2) := by decide +kernel
theorem dX3_takeHead_30 : decode cX3_takeHead 30 = .ok (.iload_n 3, 1) := by decide +kernel
theorem dX3_takeHead_31 : decode cX3_takeHead 31 = .ok (.iconst (-1), 1) := by decide +kernel
theorem dX3_takeHead_32 : decode cX3_takeHead 32 = .ok (.if_icmp .eq 20, 3) := by decide +kernel
theorem dX3_takeHead_35 : decode cX3_takeHead 35 = .ok (.iload 4, 2) := by decide +kernel
theorem dX3_takeHead_37 : decode cX3_takeHead 37 = .ok (.iconst 0, 1) := by decide +kernel
theorem dX3_takeHead_38 : decode cX3_takeHead 38 = .ok (.bipush 7, 2) := by decide +kernel
theorem dX3_takeHead_40 : decode cX3_takeHead 40 = .ok (.invokestatic 21, 3) := by decide +kernel
theorem dX3_takeHead_43 : decode cX3_takeHead 43 = .ok (.ifCond .eq 9, 3) := by decide +kernel
theorem dX3_takeHead_46 : decode cX3_takeHead 46 = .ok (.iload 5, 2) := by decide +kernel
theorem dX3_takeHead_48 : decode cX3_takeHead 48 = .ok (.iconst (-1), 1) := by decide +kernel
theorem dX3_takeHead_49 : decode cX3_takeHead 49 = .ok (.if_icmp .ne 12, 3) := by decide +kernel
theorem dX3_takeHead_52 : decode cX3_takeHead 52 = .ok (.aload_n 0, 1) := by decide +kernel
theorem dX3_takeHead_53 : decode cX3_takeHead 53 = .ok (.getfield 31, 3) := by decide +kernel
theorem dX3_takeHead_56 : decode cX3_takeHead 56 = .ok (.iload_n 1, 1) := by decide +kernel
theorem dX3_takeHead_57 : decode cX3_takeHead 57 = .ok (.iconst (-1), 1) := by decide +kernel
theorem dX3_takeHead_58 : decode cX3_takeHead 58 = .ok (.iastore, 1) := by decide +kernel
theorem dX3_takeHead_59 : decode cX3_takeHead 59 = .ok (.iconst 0, 1) := by decide +kernel
theorem dX3_takeHead_60 : decode cX3_takeHead 60 = .ok (.ireturn, 1) := by decide +kernel
theorem dX3_takeHead_61 : decode cX3_takeHead 61 = .ok (.aload_n 0, 1) := by decide +kernel
theorem dX3_takeHead_62 : decode cX3_takeHead 62 = .ok (.iload_n 1, 1) := by decide +kernel
theorem dX3_takeHead_63 : decode cX3_takeHead 63 = .ok (.iload_n 3, 1) := by decide +kernel
theorem dX3_takeHead_64 : decode cX3_takeHead 64 = .ok (.iload 4, 2) := by decide +kernel
theorem dX3_takeHead_66 : decode cX3_takeHead 66 = .ok (.invokevirtual 46, 3) := by decide +kernel
theorem dX3_takeHead_69 : decode cX3_takeHead 69 = .ok (.istore 6, 2) := by decide +kernel
theorem dX3_takeHead_71 : decode cX3_takeHead 71 = .ok (.iload 5, 2) := by decide +kernel
theorem dX3_takeHead_73 : decode cX3_takeHead 73 = .ok (.iconst 1, 1) := by decide +kernel
theorem dX3_takeHead_74 : decode cX3_takeHead 74 = .ok (.iand, 1) := by decide +kernel
theorem dX3_takeHead_75 : decode cX3_takeHead 75 = .ok (.iconst 1, 1) := by decide +kernel
theorem dX3_takeHead_76 : decode cX3_takeHead 76 = .ok (.if_icmp .ne 9, 3) := by decide +kernel
theorem dX3_takeHead_79 : decode cX3_takeHead 79 = .ok (.aload_n 0, 1) := by decide +kernel
theorem dX3_takeHead_80 : decode cX3_takeHead 80 = .ok (.iload 6, 2) := by decide +kernel
theorem dX3_takeHead_82 : decode cX3_takeHead 82 = .ok (.invokevirtual 50, 3) := by decide +kernel
theorem dX3_takeHead_85 : decode cX3_takeHead 85 = .ok (.iconst 1, 1) := by decide +kernel
theorem dX3_takeHead_86 : decode cX3_takeHead 86 = .ok (.ireturn, 1) := by decide +kernel
set_option maxRecDepth 20000 in
theorem ggX3_takeLinks_X5_has : GoodIn wsX3_takeLinks wsX5_has := goodIn_r _ [5, 6, 7, 8, 9, 45, 46, 47, 48, 49, 50, 51, 52] (by decide +kernel) (by decide +kernel)
set_option maxRecDepth 20000 in
theorem gX3_takeLinks_X5_has : GoodIn wsX3_takeLinks (wsV RX3 54 RX5 yX5_has wsX5_has) := goodIn_app (goodIn_of _ (by decide +kernel)) ggX3_takeLinks_X5_has
set_option maxRecDepth 20000 in
theorem ggX3_takeLinks_X5_countMended : GoodIn wsX3_takeLinks wsX5_countMended := goodIn_r _ [13, 14, 15, 16, 17, 18, 19, 20, 21, 22, 23, 24, 25, 26, 27, 28, 29, 30, 45, 46, 47, 48, 49, 50, 51, 52] (by decide +kernel) (by decide +kernel)
set_option maxRecDepth 20000 in
theorem gX3_takeLinks_X5_countMended : GoodIn wsX3_takeLinks (wsV RX3 9 RX5 yX5_countMended wsX5_countMended) := goodIn_app (goodIn_of _ (by decide +kernel)) ggX3_takeLinks_X5_countMended
set_option maxRecDepth 20000 in
theorem ggX3_takeLinks_X3_numberAt : GoodIn wsX3_takeLinks wsX3_numberAt := goodIn_r _ [34, 35, 17, 18, 19, 20, 21, 22, 23, 24, 25, 26, 27, 7, 8, 9] (by decide +kernel) (by decide +kernel)
set_option maxRecDepth 20000 in
theorem gX3_takeLinks_X3_numberAt : GoodIn wsX3_takeLinks (va_wsS RX3 42 yX3_numberAt wsX3_numberAt) := goodIn_app (goodIn_of _ (by decide +kernel)) ggX3_takeLinks_X3_numberAt
set_option maxRecDepth 20000 in
theorem ggX3_takeLinks_X5_putLink : GoodIn wsX3_takeLinks wsX5_putLink := goodIn_r _ [39, 40, 41, 42, 4, 43, 44, 45, 46, 47, 48, 49, 50, 51, 52] (by decide +kernel) (by decide +kernel)
set_option maxRecDepth 20000 in
theorem gX3_takeLinks_X5_putLink : GoodIn wsX3_takeLinks (wsV RX3 58 RX5 yX5_putLink wsX5_putLink) := goodIn_app (goodIn_of _ (by decide +kernel)) ggX3_takeLinks_X5_putLink
theorem dX3_takeLinks_0 : decode cX3_takeLinks 0 = .ok (.aload_n 0, 1) := by decide +kernel
theorem dX3_takeLinks_1 : decode cX3_takeLinks 1 = .ok (.iload_n 1, 1) := by decide +kernel
theorem dX3_takeLinks_2 : decode cX3_takeLinks 2 = .ok (.invokevirtual 54, 3) := by decide +kernel
theorem dX3_takeLinks_5 : decode cX3_takeLinks 5 = .ok (.ifCond .ne 5, 3) := by decide +kernel
theorem dX3_takeLinks_8 : decode cX3_takeLinks 8 = .ok (.iconst 0, 1) := by decide +kernel
theorem dX3_takeLinks_9 : decode cX3_takeLinks 9 = .ok (.ireturn, 1) := by decide +kernel
theorem dX3_takeLinks_10 : decode cX3_takeLinks 10 = .ok (.aload_n 0, 1) := by decide +kernel
theorem dX3_takeLinks_11 : decode cX3_takeLinks 11 = .ok (.aload_n 2, 1) := by decide +kernel
theorem dX3_takeLinks_12 : decode cX3_takeLinks 12 = .ok (.iconst 2, 1) := by decide +kernel
theorem dX3_takeLinks_13 : decode cX3_takeLinks 13 = .ok (.bipush 10, 2) := by decide +kernel
theorem dX3_takeLinks_15 : decode cX3_takeLinks 15 = .ok (.invokevirtual 9, 3) := by decide +kernel
theorem dX3_takeLinks_18 : decode cX3_takeLinks 18 = .ok (.iconst 0, 1) := by decide +kernel
theorem dX3_takeLinks_19 : decode cX3_takeLinks 19 = .ok (.istore_n 3, 1) := by decide +kernel
theorem dX3_takeLinks_20 : decode cX3_takeLinks 20 = .ok (.iload_n 3, 1) := by decide +kernel
theorem dX3_takeLinks_21 : decode cX3_takeLinks 21 = .ok (.iconst 4, 1) := by decide +kernel
theorem dX3_takeLinks_22 : decode cX3_takeLinks 22 = .ok (.if_icmp .ge 34, 3) := by decide +kernel
theorem dX3_takeLinks_25 : decode cX3_takeLinks 25 = .ok (.aload_n 2, 1) := by decide +kernel
theorem dX3_takeLinks_26 : decode cX3_takeLinks 26 = .ok (.iconst 2, 1) := by decide +kernel
theorem dX3_takeLinks_27 : decode cX3_takeLinks 27 = .ok (.iconst 2, 1) := by decide +kernel
theorem dX3_takeLinks_28 : decode cX3_takeLinks 28 = .ok (.iload_n 3, 1) := by decide +kernel
theorem dX3_takeLinks_29 : decode cX3_takeLinks 29 = .ok (.imul, 1) := by decide +kernel
theorem dX3_takeLinks_30 : decode cX3_takeLinks 30 = .ok (.iadd, 1) := by decide +kernel
theorem dX3_takeLinks_31 : decode cX3_takeLinks 31 = .ok (.invokestatic 42, 3) := by decide +kernel
theorem dX3_takeLinks_34 : decode cX3_takeLinks 34 = .ok (.istore 4, 2) := by decide +kernel
theorem dX3_takeLinks_36 : decode cX3_takeLinks 36 = .ok (.iload 4, 2) := by decide +kernel
theorem dX3_takeLinks_38 : decode cX3_takeLinks 38 = .ok (.iconst (-1), 1) := by decide +kernel
theorem dX3_takeLinks_39 : decode cX3_takeLinks 39 = .ok (.if_icmp .eq 11, 3) := by decide +kernel
theorem dX3_takeLinks_42 : decode cX3_takeLinks 42 = .ok (.aload_n 0, 1) := by decide +kernel
theorem dX3_takeLinks_43 : decode cX3_takeLinks 43 = .ok (.iload_n 1, 1) := by decide +kernel
theorem dX3_takeLinks_44 : decode cX3_takeLinks 44 = .ok (.iload_n 3, 1) := by decide +kernel
theorem dX3_takeLinks_45 : decode cX3_takeLinks 45 = .ok (.iload 4, 2) := by decide +kernel
theorem dX3_takeLinks_47 : decode cX3_takeLinks 47 = .ok (.invokevirtual 58, 3) := by decide +kernel
theorem dX3_takeLinks_50 : decode cX3_takeLinks 50 = .ok (.iinc 3 1, 3) := by decide +kernel
theorem dX3_takeLinks_53 : decode cX3_takeLinks 53 = .ok (.goto (-33), 3) := by decide +kernel
theorem dX3_takeLinks_56 : decode cX3_takeLinks 56 = .ok (.iconst 1, 1) := by decide +kernel
theorem dX3_takeLinks_57 : decode cX3_takeLinks 57 = .ok (.ireturn, 1) := by decide +kernel
set_option maxRecDepth 20000 in
theorem ggX3_takeRow_X5_has : GoodIn wsX3_takeRow wsX5_has := goodIn_r _ [5, 6, 7, 8, 9, 37, 38, 39, 40, 41, 42, 43, 44] (by decide +kernel) (by decide +kernel)
set_option maxRecDepth 20000 in
theorem gX3_takeRow_X5_has : GoodIn wsX3_takeRow (wsV RX3 54 RX5 yX5_has wsX5_has) := goodIn_app (goodIn_of _ (by decide +kernel)) ggX3_takeRow_X5_has
set_option maxRecDepth 20000 in
theorem ggX3_takeRow_X7_isWithin : GoodIn wsX3_takeRow wsX7_isWithin := goodIn_r _ [9] (by decide +kernel) (by decide +kernel)
set_option maxRecDepth 20000 in
theorem gX3_takeRow_X7_isWithin_n21 : GoodIn wsX3_takeRow (wsX7_isWithin) := ggX3_takeRow_X7_isWithin
set_option maxRecDepth 20000 in
theorem ggX3_takeRow_X5_putLetter : GoodIn wsX3_takeRow wsX5_putLetter := goodIn_r _ [13, 14, 15, 16, 17, 18, 19, 20, 21, 22, 23, 24, 25, 26, 27, 4, 28, 29, 30, 31, 32, 33, 34, 35, 36, 7, 8, 9, 37, 38, 39, 40, 41, 42, 43, 44] (by decide +kernel) (by decide +kernel)
set_option maxRecDepth 20000 in
theorem gX3_takeRow_X5_putLetter : GoodIn wsX3_takeRow (wsV RX3 62 RX5 yX5_putLetter wsX5_putLetter) := goodIn_app (goodIn_of _ (by decide +kernel)) ggX3_takeRow_X5_putLetter
theorem dX3_takeRow_0 : decode cX3_takeRow 0 = .ok (.aload_n 0, 1) := by decide +kernel
theorem dX3_takeRow_1 : decode cX3_takeRow 1 = .ok (.iload_n 1, 1) := by decide +kernel
theorem dX3_takeRow_2 : decode cX3_takeRow 2 = .ok (.invokevirtual 54, 3) := by decide +kernel
theorem dX3_takeRow_5 : decode cX3_takeRow 5 = .ok (.ifCond .eq 12, 3) := by decide +kernel
theorem dX3_takeRow_8 : decode cX3_takeRow 8 = .ok (.iload_n 2, 1) := by decide +kernel
theorem dX3_takeRow_9 : decode cX3_takeRow 9 = .ok (.iconst 0, 1) := by decide +kernel
theorem dX3_takeRow_10 : decode cX3_takeRow 10 = .ok (.iconst 4, 1) := by decide +kernel
theorem dX3_takeRow_11 : decode cX3_takeRow 11 = .ok (.invokestatic 21, 3) := by decide +kernel
theorem dX3_takeRow_14 : decode cX3_takeRow 14 = .ok (.ifCond .ne 5, 3) := by decide +kernel
theorem dX3_takeRow_17 : decode cX3_takeRow 17 = .ok (.iconst 0, 1) := by decide +kernel
theorem dX3_takeRow_18 : decode cX3_takeRow 18 = .ok (.ireturn, 1) := by decide +kernel
theorem dX3_takeRow_19 : decode cX3_takeRow 19 = .ok (.iconst 0, 1) := by decide +kernel
theorem dX3_takeRow_20 : decode cX3_takeRow 20 = .ok (.istore 4, 2) := by decide +kernel
theorem dX3_takeRow_22 : decode cX3_takeRow 22 = .ok (.iload 4, 2) := by decide +kernel
theorem dX3_takeRow_24 : decode cX3_takeRow 24 = .ok (.bipush 8, 2) := by decide +kernel
theorem dX3_takeRow_26 : decode cX3_takeRow 26 = .ok (.if_icmp .ge 23, 3) := by decide +kernel
theorem dX3_takeRow_29 : decode cX3_takeRow 29 = .ok (.aload_n 0, 1) := by decide +kernel
theorem dX3_takeRow_30 : decode cX3_takeRow 30 = .ok (.iload_n 1, 1) := by decide +kernel
theorem dX3_takeRow_31 : decode cX3_takeRow 31 = .ok (.iload_n 2, 1) := by decide +kernel
theorem dX3_takeRow_32 : decode cX3_takeRow 32 = .ok (.iload 4, 2) := by decide +kernel
theorem dX3_takeRow_34 : decode cX3_takeRow 34 = .ok (.aload_n 3, 1) := by decide +kernel
theorem dX3_takeRow_35 : decode cX3_takeRow 35 = .ok (.iconst 2, 1) := by decide +kernel
theorem dX3_takeRow_36 : decode cX3_takeRow 36 = .ok (.iload 4, 2) := by decide +kernel
theorem dX3_takeRow_38 : decode cX3_takeRow 38 = .ok (.iadd, 1) := by decide +kernel
theorem dX3_takeRow_39 : decode cX3_takeRow 39 = .ok (.iaload, 1) := by decide +kernel
theorem dX3_takeRow_40 : decode cX3_takeRow 40 = .ok (.invokevirtual 62, 3) := by decide +kernel
theorem dX3_takeRow_43 : decode cX3_takeRow 43 = .ok (.iinc 4 1, 3) := by decide +kernel
theorem dX3_takeRow_46 : decode cX3_takeRow 46 = .ok (.goto (-24), 3) := by decide +kernel
theorem dX3_takeRow_49 : decode cX3_takeRow 49 = .ok (.iconst 1, 1) := by decide +kernel
theorem dX3_takeRow_50 : decode cX3_takeRow 50 = .ok (.ireturn, 1) := by decide +kernel
set_option maxRecDepth 20000 in
theorem ggX3_numberAt_X1_decode : GoodIn wsX3_numberAt wsX1_decode := goodIn_r _ [4, 5, 6, 7, 8, 9, 10, 11, 12] (by decide +kernel) (by decide +kernel)
set_option maxRecDepth 20000 in
theorem gX3_numberAt_X1_decode : GoodIn wsX3_numberAt (va_wsS RX3 15 yX1_decode wsX1_decode) := goodIn_app (goodIn_of _ (by decide +kernel)) ggX3_numberAt_X1_decode
set_option maxRecDepth 20000 in
theorem ggX3_numberAt_X7_isWithin : GoodIn wsX3_numberAt wsX7_isWithin := goodIn_r _ [15] (by decide +kernel) (by decide +kernel)
set_option maxRecDepth 20000 in
theorem gX3_numberAt_X7_isWithin_n21 : GoodIn wsX3_numberAt (wsX7_isWithin) := ggX3_numberAt_X7_isWithin
theorem dX3_numberAt_0 : decode cX3_numberAt 0 = .ok (.aload_n 0, 1) := by decide +kernel
theorem dX3_numberAt_1 : decode cX3_numberAt 1 = .ok (.iload_n 1, 1) := by decide +kernel
theorem dX3_numberAt_2 : decode cX3_numberAt 2 = .ok (.iaload, 1) := by decide +kernel
theorem dX3_numberAt_3 : decode cX3_numberAt 3 = .ok (.invokestatic 15, 3) := by decide +kernel
theorem dX3_numberAt_6 : decode cX3_numberAt 6 = .ok (.istore_n 2, 1) := by decide +kernel
theorem dX3_numberAt_7 : decode cX3_numberAt 7 = .ok (.aload_n 0, 1) := by decide +kernel
theorem dX3_numberAt_8 : decode cX3_numberAt 8 = .ok (.iload_n 1, 1) := by decide +kernel
theorem dX3_numberAt_9 : decode cX3_numberAt 9 = .ok (.iconst 1, 1) := by decide +kernel
theorem dX3_numberAt_10 : decode cX3_numberAt 10 = .ok (.iadd, 1) := by decide +kernel
theorem dX3_numberAt_11 : decode cX3_numberAt 11 = .ok (.iaload, 1) := by decide +kernel
theorem dX3_numberAt_12 : decode cX3_numberAt 12 = .ok (.invokestatic 15, 3) := by decide +kernel
theorem dX3_numberAt_15 : decode cX3_numberAt 15 = .ok (.istore_n 3, 1) := by decide +kernel
theorem dX3_numberAt_16 : decode cX3_numberAt 16 = .ok (.iload_n 2, 1) := by decide +kernel
theorem dX3_numberAt_17 : decode cX3_numberAt 17 = .ok (.iconst 0, 1) := by decide +kernel
theorem dX3_numberAt_18 : decode cX3_numberAt 18 = .ok (.bipush 9, 2) := by decide +kernel
theorem dX3_numberAt_20 : decode cX3_numberAt 20 = .ok (.invokestatic 21, 3) := by decide +kernel
theorem dX3_numberAt_23 : decode cX3_numberAt 23 = .ok (.ifCond .eq 17, 3) := by decide +kernel
theorem dX3_numberAt_26 : decode cX3_numberAt 26 = .ok (.iload_n 3, 1) := by decide +kernel
theorem dX3_numberAt_27 : decode cX3_numberAt 27 = .ok (.iconst 0, 1) := by decide +kernel
theorem dX3_numberAt_28 : decode cX3_numberAt 28 = .ok (.bipush 9, 2) := by decide +kernel
theorem dX3_numberAt_30 : decode cX3_numberAt 30 = .ok (.invokestatic 21, 3) := by decide +kernel
theorem dX3_numberAt_33 : decode cX3_numberAt 33 = .ok (.ifCond .eq 7, 3) := by decide +kernel
theorem dX3_numberAt_36 : decode cX3_numberAt 36 = .ok (.iconst 1, 1) := by decide +kernel
theorem dX3_numberAt_37 : decode cX3_numberAt 37 = .ok (.goto 4, 3) := by decide +kernel
theorem dX3_numberAt_40 : decode cX3_numberAt 40 = .ok (.iconst 0, 1) := by decide +kernel
theorem dX3_numberAt_41 : decode cX3_numberAt 41 = .ok (.istore 4, 2) := by decide +kernel
theorem dX3_numberAt_43 : decode cX3_numberAt 43 = .ok (.iload 4, 2) := by decide +kernel
theorem dX3_numberAt_45 : decode cX3_numberAt 45 = .ok (.ifCond .eq 12, 3) := by decide +kernel
theorem dX3_numberAt_48 : decode cX3_numberAt 48 = .ok (.bipush 10, 2) := by decide +kernel
theorem dX3_numberAt_50 : decode cX3_numberAt 50 = .ok (.iload_n 3, 1) := by decide +kernel
theorem dX3_numberAt_51 : decode cX3_numberAt 51 = .ok (.imul, 1) := by decide +kernel
theorem dX3_numberAt_52 : decode cX3_numberAt 52 = .ok (.iload_n 2, 1) := by decide +kernel
theorem dX3_numberAt_53 : decode cX3_numberAt 53 = .ok (.iadd, 1) := by decide +kernel
theorem dX3_numberAt_54 : decode cX3_numberAt 54 = .ok (.goto 4, 3) := by decide +kernel
theorem dX3_numberAt_57 : decode cX3_numberAt 57 = .ok (.iconst (-1), 1) := by decide +kernel
theorem dX3_numberAt_58 : decode cX3_numberAt 58 = .ok (.ireturn, 1) := by decide +kernel
theorem dX4_init_0 : decode cX4_init 0 = .ok (.aload_n 0, 1) := by decide +kernel
theorem dX4_init_1 : decode cX4_init 1 = .ok (.invokespecial 3, 3) := by decide +kernel
theorem dX4_init_4 : decode cX4_init 4 = .ok (.aload_n 0, 1) := by decide +kernel
theorem dX4_init_5 : decode cX4_init 5 = .ok (.bipush 10, 2) := by decide +kernel
theorem dX4_init_7 : decode cX4_init 7 = .ok (.newarray .int, 2) := by decide +kernel
theorem dX4_init_9 : decode cX4_init 9 = .ok (.putfield 9, 3) := by decide +kernel
theorem dX4_init_12 : decode cX4_init 12 = .ok (.aload_n 0, 1) := by decide +kernel
theorem dX4_init_13 : decode cX4_init 13 = .ok (.bipush 10, 2) := by decide +kernel
theorem dX4_init_15 : decode cX4_init 15 = .ok (.newarray .int, 2) := by decide +kernel
theorem dX4_init_17 : decode cX4_init 17 = .ok (.putfield 15, 3) := by decide +kernel
theorem dX4_init_20 : decode cX4_init 20 = .ok (.aload_n 0, 1) := by decide +kernel
theorem dX4_init_21 : decode cX4_init 21 = .ok (.bipush 10, 2) := by decide +kernel
theorem dX4_init_23 : decode cX4_init 23 = .ok (.newarray .int, 2) := by decide +kernel
theorem dX4_init_25 : decode cX4_init 25 = .ok (.putfield 18, 3) := by decide +kernel
theorem dX4_init_28 : decode cX4_init 28 = .ok (.aload_n 0, 1) := by decide +kernel
theorem dX4_init_29 : decode cX4_init 29 = .ok (.bipush 10, 2) := by decide +kernel
theorem dX4_init_31 : decode cX4_init 31 = .ok (.newarray .int, 2) := by decide +kernel
theorem dX4_init_33 : decode cX4_init 33 = .ok (.putfield 21, 3) := by decide +kernel
theorem dX4_init_36 : decode cX4_init 36 = .ok (.aload_n 0, 1) := by decide +kernel
theorem dX4_init_37 : decode cX4_init 37 = .ok (.bipush 10, 2) := by decide +kernel
theorem dX4_init_39 : decode cX4_init 39 = .ok (.newarray .int, 2) := by decide +kernel
theorem dX4_init_41 : decode cX4_init 41 = .ok (.putfield 24, 3) := by decide +kernel
theorem dX4_init_44 : decode cX4_init 44 = .ok (.return_, 1) := by decide +kernel
set_option maxRecDepth 20000 in
theorem ggX4_prepare_X0_length : GoodIn wsX4_prepare wsX0_length := goodIn_r _ [12, 13, 14, 11, 15, 16, 17, 18, 19, 20, 21, 22, 23, 24, 25, 26, 27, 28, 29, 30, 31, 32, 33, 34, 35, 36, 37, 38, 39, 40, 41, 42, 44, 45, 46, 47, 48, 49, 50, 51] (by decide +kernel) (by decide +kernel)
set_option maxRecDepth 20000 in
theorem gX4_prepare_X0_length : GoodIn wsX4_prepare (va_wsS RX4 40 yX0_length wsX0_length) := goodIn_app (goodIn_of _ (by decide +kernel)) ggX4_prepare_X0_length
set_option maxRecDepth 20000 in
theorem ggX4_prepare_X5_get : GoodIn wsX4_prepare wsX5_get := goodIn_r _ [27, 28, 44, 45, 46, 47, 48, 49, 50, 51] (by decide +kernel) (by decide +kernel)
set_option maxRecDepth 20000 in
theorem gX4_prepare_X5_get : GoodIn wsX4_prepare (wsV RX4 46 RX5 yX5_get wsX5_get) := goodIn_app (goodIn_of _ (by decide +kernel)) ggX4_prepare_X5_get
theorem dX4_prepare_0 : decode cX4_prepare 0 = .ok (.aload_n 0, 1) := by decide +kernel
theorem dX4_prepare_1 : decode cX4_prepare 1 = .ok (.aload_n 1, 1) := by decide +kernel
theorem dX4_prepare_2 : decode cX4_prepare 2 = .ok (.getfield 27, 3) := by decide +kernel
theorem dX4_prepare_5 : decode cX4_prepare 5 = .ok (.bipush 10, 2) := by decide +kernel
theorem dX4_prepare_7 : decode cX4_prepare 7 = .ok (.invokestatic 33, 3) := by decide +kernel
theorem dX4_prepare_10 : decode cX4_prepare 10 = .ok (.putfield 39, 3) := by decide +kernel
theorem dX4_prepare_13 : decode cX4_prepare 13 = .ok (.iconst 0, 1) := by decide +kernel
theorem dX4_prepare_14 : decode cX4_prepare 14 = .ok (.istore_n 2, 1) := by decide +kernel
theorem dX4_prepare_15 : decode cX4_prepare 15 = .ok (.iload_n 2, 1) := by decide +kernel
theorem dX4_prepare_16 : decode cX4_prepare 16 = .ok (.aload_n 0, 1) := by decide +kernel
theorem dX4_prepare_17 : decode cX4_prepare 17 = .ok (.getfield 39, 3) := by decide +kernel
theorem dX4_prepare_20 : decode cX4_prepare 20 = .ok (.if_icmp .ge 32, 3) := by decide +kernel
theorem dX4_prepare_23 : decode cX4_prepare 23 = .ok (.aload_n 0, 1) := by decide +kernel
theorem dX4_prepare_24 : decode cX4_prepare 24 = .ok (.getfield 9, 3) := by decide +kernel
theorem dX4_prepare_27 : decode cX4_prepare 27 = .ok (.iload_n 2, 1) := by decide +kernel
theorem dX4_prepare_28 : decode cX4_prepare 28 = .ok (.aload_n 1, 1) := by decide +kernel
theorem dX4_prepare_29 : decode cX4_prepare 29 = .ok (.iload_n 2, 1) := by decide +kernel
theorem dX4_prepare_30 : decode cX4_prepare 30 = .ok (.invokestatic 40, 3) := by decide +kernel
theorem dX4_prepare_33 : decode cX4_prepare 33 = .ok (.iastore, 1) := by decide +kernel
theorem dX4_prepare_34 : decode cX4_prepare 34 = .ok (.aload_n 0, 1) := by decide +kernel
theorem dX4_prepare_35 : decode cX4_prepare 35 = .ok (.getfield 15, 3) := by decide +kernel
theorem dX4_prepare_38 : decode cX4_prepare 38 = .ok (.iload_n 2, 1) := by decide +kernel
theorem dX4_prepare_39 : decode cX4_prepare 39 = .ok (.aload_n 1, 1) := by decide +kernel
theorem dX4_prepare_40 : decode cX4_prepare 40 = .ok (.iload_n 2, 1) := by decide +kernel
theorem dX4_prepare_41 : decode cX4_prepare 41 = .ok (.iconst 4, 1) := by decide +kernel
theorem dX4_prepare_42 : decode cX4_prepare 42 = .ok (.invokevirtual 46, 3) := by decide +kernel
theorem dX4_prepare_45 : decode cX4_prepare 45 = .ok (.iastore, 1) := by decide +kernel
theorem dX4_prepare_46 : decode cX4_prepare 46 = .ok (.iinc 2 1, 3) := by decide +kernel
theorem dX4_prepare_49 : decode cX4_prepare 49 = .ok (.goto (-34), 3) := by decide +kernel
theorem dX4_prepare_52 : decode cX4_prepare 52 = .ok (.return_, 1) := by decide +kernel
set_option maxRecDepth 20000 in
theorem ggX4_run_J7_fill_53178 : GoodIn wsX4_run wsJ7_fill_53178 := goodIn_r _ [10] (by decide +kernel) (by decide +kernel)
set_option maxRecDepth 20000 in
theorem gX4_run_J7_fill_53178 : GoodIn wsX4_run (va_wsS RX4 49 yJ7_fill_53178 wsJ7_fill_53178) := goodIn_app (goodIn_of _ (by decide +kernel)) ggX4_run_J7_fill_53178
set_option maxRecDepth 20000 in
theorem ggX4_run_X4_foremost : GoodIn wsX4_run wsX4_foremost := goodIn_r _ [15, 5, 16, 17, 18, 14, 19, 20, 21, 22, 23, 24, 4, 2, 25, 26, 27, 28, 1, 6, 37, 38, 39, 40, 41, 42, 43] (by decide +kernel) (by decide +kernel)
set_option maxRecDepth 20000 in
theorem gX4_run_X4_foremost : GoodIn wsX4_run (wsV RX4 58 RX4 yX4_foremost wsX4_foremost) := goodIn_app (goodIn_of _ (by decide +kernel)) ggX4_run_X4_foremost
set_option maxRecDepth 20000 in
theorem ggX4_run_X4_waitEnds : GoodIn wsX4_run wsX4_waitEnds := goodIn_r _ [32, 3, 4, 2, 33, 34, 35, 36, 37, 38, 39, 40, 41, 42, 43] (by decide +kernel) (by decide +kernel)
set_option maxRecDepth 20000 in
theorem gX4_run_X4_waitEnds : GoodIn wsX4_run (wsV RX4 62 RX4 yX4_waitEnds wsX4_waitEnds) := goodIn_app (goodIn_of _ (by decide +kernel)) ggX4_run_X4_waitEnds
theorem dX4_run_0 : decode cX4_run 0 = .ok (.aload_n 0, 1) := by decide +kernel
theorem dX4_run_1 : decode cX4_run 1 = .ok (.getfield 18, 3) := by decide +kernel
theorem dX4_run_4 : decode cX4_run 4 = .ok (.iconst 0, 1) := by decide +kernel
theorem dX4_run_5 : decode cX4_run 5 = .ok (.invokestatic 49, 3) := by decide +kernel
theorem dX4_run_8 : decode cX4_run 8 = .ok (.aload_n 0, 1) := by decide +kernel
theorem dX4_run_9 : decode cX4_run 9 = .ok (.getfield 21, 3) := by decide +kernel
theorem dX4_run_12 : decode cX4_run 12 = .ok (.iconst 0, 1) := by decide +kernel
theorem dX4_run_13 : decode cX4_run 13 = .ok (.invokestatic 49, 3) := by decide +kernel
theorem dX4_run_16 : decode cX4_run 16 = .ok (.aload_n 0, 1) := by decide +kernel
theorem dX4_run_17 : decode cX4_run 17 = .ok (.getfield 24, 3) := by decide +kernel
theorem dX4_run_20 : decode cX4_run 20 = .ok (.iconst 0, 1) := by decide +kernel
theorem dX4_run_21 : decode cX4_run 21 = .ok (.invokestatic 49, 3) := by decide +kernel
theorem dX4_run_24 : decode cX4_run 24 = .ok (.aload_n 0, 1) := by decide +kernel
theorem dX4_run_25 : decode cX4_run 25 = .ok (.iconst 0, 1) := by decide +kernel
theorem dX4_run_26 : decode cX4_run 26 = .ok (.putfield 55, 3) := by decide +kernel
theorem dX4_run_29 : decode cX4_run 29 = .ok (.iconst (-1), 1) := by decide +kernel
theorem dX4_run_30 : decode cX4_run 30 = .ok (.istore_n 3, 1) := by decide +kernel
theorem dX4_run_31 : decode cX4_run 31 = .ok (.iconst 0, 1) := by decide +kernel
theorem dX4_run_32 : decode cX4_run 32 = .ok (.istore 4, 2) := by decide +kernel
theorem dX4_run_34 : decode cX4_run 34 = .ok (.iload 4, 2) := by decide +kernel
theorem dX4_run_36 : decode cX4_run 36 = .ok (.iload_n 2, 1) := by decide +kernel
theorem dX4_run_37 : decode cX4_run 37 = .ok (.if_icmp .ge 76, 3) := by decide +kernel
theorem dX4_run_40 : decode cX4_run 40 = .ok (.aload_n 0, 1) := by decide +kernel
theorem dX4_run_41 : decode cX4_run 41 = .ok (.getfield 39, 3) := by decide +kernel
theorem dX4_run_44 : decode cX4_run 44 = .ok (.ifCond .le 69, 3) := by decide +kernel
theorem dX4_run_47 : decode cX4_run 47 = .ok (.iload_n 1, 1) := by decide +kernel
theorem dX4_run_48 : decode cX4_run 48 = .ok (.ifCond .ne 13, 3) := by decide +kernel
theorem dX4_run_51 : decode cX4_run 51 = .ok (.iload 4, 2) := by decide +kernel
theorem dX4_run_53 : decode cX4_run 53 = .ok (.aload_n 0, 1) := by decide +kernel
theorem dX4_run_54 : decode cX4_run 54 = .ok (.getfield 39, 3) := by decide +kernel
theorem dX4_run_57 : decode cX4_run 57 = .ok (.irem, 1) := by decide +kernel
theorem dX4_run_58 : decode cX4_run 58 = .ok (.goto 8, 3) := by decide +kernel
theorem dX4_run_61 : decode cX4_run 61 = .ok (.aload_n 0, 1) := by decide +kernel
theorem dX4_run_62 : decode cX4_run 62 = .ok (.iload_n 1, 1) := by decide +kernel
theorem dX4_run_63 : decode cX4_run 63 = .ok (.invokevirtual 58, 3) := by decide +kernel
theorem dX4_run_66 : decode cX4_run 66 = .ok (.istore_n 3, 1) := by decide +kernel
theorem dX4_run_67 : decode cX4_run 67 = .ok (.aload_n 0, 1) := by decide +kernel
theorem dX4_run_68 : decode cX4_run 68 = .ok (.dup, 1) := by decide +kernel
theorem dX4_run_69 : decode cX4_run 69 = .ok (.getfield 55, 3) := by decide +kernel
theorem dX4_run_72 : decode cX4_run 72 = .ok (.aload_n 0, 1) := by decide +kernel
theorem dX4_run_73 : decode cX4_run 73 = .ok (.getfield 9, 3) := by decide +kernel
theorem dX4_run_76 : decode cX4_run 76 = .ok (.iload_n 3, 1) := by decide +kernel
theorem dX4_run_77 : decode cX4_run 77 = .ok (.iaload, 1) := by decide +kernel
theorem dX4_run_78 : decode cX4_run 78 = .ok (.iadd, 1) := by decide +kernel
theorem dX4_run_79 : decode cX4_run 79 = .ok (.putfield 55, 3) := by decide +kernel
theorem dX4_run_82 : decode cX4_run 82 = .ok (.aload_n 0, 1) := by decide +kernel
theorem dX4_run_83 : decode cX4_run 83 = .ok (.iload_n 3, 1) := by decide +kernel
theorem dX4_run_84 : decode cX4_run 84 = .ok (.invokevirtual 62, 3) := by decide +kernel
theorem dX4_run_87 : decode cX4_run 87 = .ok (.aload_n 0, 1) := by decide +kernel
theorem dX4_run_88 : decode cX4_run 88 = .ok (.getfield 21, 3) := by decide +kernel
theorem dX4_run_91 : decode cX4_run 91 = .ok (.iload_n 3, 1) := by decide +kernel
theorem dX4_run_92 : decode cX4_run 92 = .ok (.aload_n 0, 1) := by decide +kernel
theorem dX4_run_93 : decode cX4_run 93 = .ok (.getfield 55, 3) := by decide +kernel
theorem dX4_run_96 : decode cX4_run 96 = .ok (.iastore, 1) := by decide +kernel
theorem dX4_run_97 : decode cX4_run 97 = .ok (.aload_n 0, 1) := by decide +kernel
theorem dX4_run_98 : decode cX4_run 98 = .ok (.getfield 18, 3) := by decide +kernel
theorem dX4_run_101 : decode cX4_run 101 = .ok (.iload_n 3, 1) := by decide +kernel
theorem dX4_run_102 : decode cX4_run 102 = .ok (.dup2, 1) := by decide +kernel
theorem dX4_run_103 : decode cX4_run 103 = .ok (.iaload, 1) := by decide +kernel
theorem dX4_run_104 : decode cX4_run 104 = .ok (.iconst 1, 1) := by decide +kernel
theorem dX4_run_105 : decode cX4_run 105 = .ok (.iadd, 1) := by decide +kernel
theorem dX4_run_106 : decode cX4_run 106 = .ok (.iastore, 1) := by decide +kernel
theorem dX4_run_107 : decode cX4_run 107 = .ok (.iinc 4 1, 3) := by decide +kernel
theorem dX4_run_110 : decode cX4_run 110 = .ok (.goto (-76), 3) := by decide +kernel
theorem dX4_run_113 : decode cX4_run 113 = .ok (.iconst 0, 1) := by decide +kernel
theorem dX4_run_114 : decode cX4_run 114 = .ok (.istore 4, 2) := by decide +kernel
theorem dX4_run_116 : decode cX4_run 116 = .ok (.iload 4, 2) := by decide +kernel
theorem dX4_run_118 : decode cX4_run 118 = .ok (.aload_n 0, 1) := by decide +kernel
theorem dX4_run_119 : decode cX4_run 119 = .ok (.getfield 39, 3) := by decide +kernel
theorem dX4_run_122 : decode cX4_run 122 = .ok (.if_icmp .ge 15, 3) := by decide +kernel
theorem dX4_run_125 : decode cX4_run 125 = .ok (.aload_n 0, 1) := by decide +kernel
theorem dX4_run_126 : decode cX4_run 126 = .ok (.iload 4, 2) := by decide +kernel
theorem dX4_run_128 : decode cX4_run 128 = .ok (.invokevirtual 62, 3) := by decide +kernel
theorem dX4_run_131 : decode cX4_run 131 = .ok (.iinc 4 1, 3) := by decide +kernel
theorem dX4_run_134 : decode cX4_run 134 = .ok (.goto (-18), 3) := by decide +kernel
theorem dX4_run_137 : decode cX4_run 137 = .ok (.iload_n 3, 1) := by decide +kernel
theorem dX4_run_138 : decode cX4_run 138 = .ok (.ireturn, 1) := by decide +kernel
set_option maxRecDepth 20000 in
theorem ggX4_waitOf_X7_isWithin : GoodIn wsX4_waitOf wsX7_isWithin := goodIn_r _ [5] (by decide +kernel) (by decide +kernel)
set_option maxRecDepth 20000 in
theorem gX4_waitOf_X7_isWithin_n66 : GoodIn wsX4_waitOf (wsX7_isWithin) := ggX4_waitOf_X7_isWithin
theorem dX4_waitOf_0 : decode cX4_waitOf 0 = .ok (.iload_n 1, 1) := by decide +kernel
theorem dX4_waitOf_1 : decode cX4_waitOf 1 = .ok (.iconst 0, 1) := by decide +kernel
theorem dX4_waitOf_2 : decode cX4_waitOf 2 = .ok (.aload_n 0, 1) := by decide +kernel
theorem dX4_waitOf_3 : decode cX4_waitOf 3 = .ok (.getfield 39, 3) := by decide +kernel
theorem dX4_waitOf_6 : decode cX4_waitOf 6 = .ok (.iconst 1, 1) := by decide +kernel
theorem dX4_waitOf_7 : decode cX4_waitOf 7 = .ok (.isub, 1) := by decide +kernel
theorem dX4_waitOf_8 : decode cX4_waitOf 8 = .ok (.invokestatic 66, 3) := by decide +kernel
theorem dX4_waitOf_11 : decode cX4_waitOf 11 = .ok (.ifCond .eq 12, 3) := by decide +kernel
theorem dX4_waitOf_14 : decode cX4_waitOf 14 = .ok (.aload_n 0, 1) := by decide +kernel
theorem dX4_waitOf_15 : decode cX4_waitOf 15 = .ok (.getfield 24, 3) := by decide +kernel
theorem dX4_waitOf_18 : decode cX4_waitOf 18 = .ok (.iload_n 1, 1) := by decide +kernel
theorem dX4_waitOf_19 : decode cX4_waitOf 19 = .ok (.iaload, 1) := by decide +kernel
theorem dX4_waitOf_20 : decode cX4_waitOf 20 = .ok (.goto 4, 3) := by decide +kernel
theorem dX4_waitOf_23 : decode cX4_waitOf 23 = .ok (.iconst (-1), 1) := by decide +kernel
theorem dX4_waitOf_24 : decode cX4_waitOf 24 = .ok (.ireturn, 1) := by decide +kernel
set_option maxRecDepth 20000 in
theorem ggX4_best_X4_worstWait : GoodIn wsX4_best wsX4_worstWait := goodIn_r _ [6, 1, 7, 8, 9, 10, 11, 12, 13, 14, 15, 5, 16, 17, 18, 19, 20, 21, 22, 23, 24, 25, 26, 27, 28, 29, 30, 31, 32, 33, 34, 35, 36, 37, 38, 39, 40, 41, 42, 43, 44, 45, 46, 47, 48, 49, 50, 51] (by decide +kernel) (by decide +kernel)
set_option maxRecDepth 20000 in
theorem gX4_best_X4_worstWait : GoodIn wsX4_best (wsV RX4 70 RX4 yX4_worstWait wsX4_worstWait) := goodIn_app (goodIn_of _ (by decide +kernel)) ggX4_best_X4_worstWait
theorem dX4_best_0 : decode cX4_best 0 = .ok (.iconst (-1), 1) := by decide +kernel
theorem dX4_best_1 : decode cX4_best 1 = .ok (.istore_n 2, 1) := by decide +kernel
theorem dX4_best_2 : decode cX4_best 2 = .ok (.iconst 0, 1) := by decide +kernel
theorem dX4_best_3 : decode cX4_best 3 = .ok (.istore_n 3, 1) := by decide +kernel
theorem dX4_best_4 : decode cX4_best 4 = .ok (.iconst 0, 1) := by decide +kernel
theorem dX4_best_5 : decode cX4_best 5 = .ok (.istore 4, 2) := by decide +kernel
theorem dX4_best_7 : decode cX4_best 7 = .ok (.iload 4, 2) := by decide +kernel
theorem dX4_best_9 : decode cX4_best 9 = .ok (.iconst 4, 1) := by decide +kernel
theorem dX4_best_10 : decode cX4_best 10 = .ok (.if_icmp .ge 42, 3) := by decide +kernel
theorem dX4_best_13 : decode cX4_best 13 = .ok (.aload_n 0, 1) := by decide +kernel
theorem dX4_best_14 : decode cX4_best 14 = .ok (.getfield 39, 3) := by decide +kernel
theorem dX4_best_17 : decode cX4_best 17 = .ok (.ifCond .le 35, 3) := by decide +kernel
theorem dX4_best_20 : decode cX4_best 20 = .ok (.aload_n 0, 1) := by decide +kernel
theorem dX4_best_21 : decode cX4_best 21 = .ok (.iload 4, 2) := by decide +kernel
theorem dX4_best_23 : decode cX4_best 23 = .ok (.iload_n 1, 1) := by decide +kernel
theorem dX4_best_24 : decode cX4_best 24 = .ok (.invokevirtual 70, 3) := by decide +kernel
theorem dX4_best_27 : decode cX4_best 27 = .ok (.istore 5, 2) := by decide +kernel
theorem dX4_best_29 : decode cX4_best 29 = .ok (.iload_n 2, 1) := by decide +kernel
theorem dX4_best_30 : decode cX4_best 30 = .ok (.iconst (-1), 1) := by decide +kernel
theorem dX4_best_31 : decode cX4_best 31 = .ok (.if_icmp .eq 9, 3) := by decide +kernel
theorem dX4_best_34 : decode cX4_best 34 = .ok (.iload 5, 2) := by decide +kernel
theorem dX4_best_36 : decode cX4_best 36 = .ok (.iload_n 3, 1) := by decide +kernel
theorem dX4_best_37 : decode cX4_best 37 = .ok (.if_icmp .ge 9, 3) := by decide +kernel
theorem dX4_best_40 : decode cX4_best 40 = .ok (.iload 4, 2) := by decide +kernel
theorem dX4_best_42 : decode cX4_best 42 = .ok (.istore_n 2, 1) := by decide +kernel
theorem dX4_best_43 : decode cX4_best 43 = .ok (.iload 5, 2) := by decide +kernel
theorem dX4_best_45 : decode cX4_best 45 = .ok (.istore_n 3, 1) := by decide +kernel
theorem dX4_best_46 : decode cX4_best 46 = .ok (.iinc 4 1, 3) := by decide +kernel
theorem dX4_best_49 : decode cX4_best 49 = .ok (.goto (-42), 3) := by decide +kernel
theorem dX4_best_52 : decode cX4_best 52 = .ok (.iload_n 2, 1) := by decide +kernel
theorem dX4_best_53 : decode cX4_best 53 = .ok (.ireturn, 1) := by decide +kernel
set_option maxRecDepth 20000 in
theorem ggX4_worstWait_X4_run : GoodIn wsX4_worstWait wsX4_run := goodIn_r _ [12, 13, 14, 3, 15, 1, 16, 17, 18, 19, 20, 21, 22, 23, 11, 24, 25, 26, 27, 28, 2, 29, 30, 31, 32, 33, 34, 35, 36, 37, 38, 39, 40, 4, 5, 6, 7, 41, 42, 43, 44, 45, 46, 47] (by decide +kernel) (by decide +kernel)
set_option maxRecDepth 20000 in
theorem gX4_worstWait_X4_run : GoodIn wsX4_worstWait (wsV RX4 73 RX4 yX4_run wsX4_run) := goodIn_app (goodIn_of _ (by decide +kernel)) ggX4_worstWait_X4_run
theorem dX4_worstWait_0 : decode cX4_worstWait 0 = .ok (.aload_n 0, 1) := by decide +kernel
theorem dX4_worstWait_1 : decode cX4_worstWait 1 = .ok (.iload_n 1, 1) := by decide +kernel
theorem dX4_worstWait_2 : decode cX4_worstWait 2 = .ok (.iload_n 2, 1) := by decide +kernel
theorem dX4_worstWait_3 : decode cX4_worstWait 3 = .ok (.invokevirtual 73, 3) := by decide +kernel
theorem dX4_worstWait_6 : decode cX4_worstWait 6 = .ok (.pop, 1) := by decide +kernel
theorem dX4_worstWait_7 : decode cX4_worstWait 7 = .ok (.iconst 0, 1) := by decide +kernel
theorem dX4_worstWait_8 : decode cX4_worstWait 8 = .ok (.istore_n 3, 1) := by decide +kernel
theorem dX4_worstWait_9 : decode cX4_worstWait 9 = .ok (.iconst 0, 1) := by decide +kernel
theorem dX4_worstWait_10 : decode cX4_worstWait 10 = .ok (.istore 4, 2) := by decide +kernel
theorem dX4_worstWait_12 : decode cX4_worstWait 12 = .ok (.iload 4, 2) := by decide +kernel
theorem dX4_worstWait_14 : decode cX4_worstWait 14 = .ok (.aload_n 0, 1) := by decide +kernel
theorem dX4_worstWait_15 : decode cX4_worstWait 15 = .ok (.getfield 39, 3) := by decide +kernel
theorem dX4_worstWait_18 : decode cX4_worstWait 18 = .ok (.if_icmp .ge 29, 3) := by decide +kernel
theorem dX4_worstWait_21 : decode cX4_worstWait 21 = .ok (.iload_n 3, 1) := by decide +kernel
theorem dX4_worstWait_22 : decode cX4_worstWait 22 = .ok (.aload_n 0, 1) := by decide +kernel
theorem dX4_worstWait_23 : decode cX4_worstWait 23 = .ok (.getfield 15, 3) := by decide +kernel
theorem dX4_worstWait_26 : decode cX4_worstWait 26 = .ok (.iload 4, 2) := by decide +kernel
theorem dX4_worstWait_28 : decode cX4_worstWait 28 = .ok (.iaload, 1) := by decide +kernel
theorem dX4_worstWait_29 : decode cX4_worstWait 29 = .ok (.aload_n 0, 1) := by decide +kernel
theorem dX4_worstWait_30 : decode cX4_worstWait 30 = .ok (.getfield 24, 3) := by decide +kernel
theorem dX4_worstWait_33 : decode cX4_worstWait 33 = .ok (.iload 4, 2) := by decide +kernel
theorem dX4_worstWait_35 : decode cX4_worstWait 35 = .ok (.iaload, 1) := by decide +kernel
theorem dX4_worstWait_36 : decode cX4_worstWait 36 = .ok (.imul, 1) := by decide +kernel
theorem dX4_worstWait_37 : decode cX4_worstWait 37 = .ok (.invokestatic 76, 3) := by decide +kernel
theorem dX4_worstWait_40 : decode cX4_worstWait 40 = .ok (.istore_n 3, 1) := by decide +kernel
theorem dX4_worstWait_41 : decode cX4_worstWait 41 = .ok (.iinc 4 1, 3) := by decide +kernel
theorem dX4_worstWait_44 : decode cX4_worstWait 44 = .ok (.goto (-32), 3) := by decide +kernel
theorem dX4_worstWait_47 : decode cX4_worstWait 47 = .ok (.iload_n 3, 1) := by decide +kernel
theorem dX4_worstWait_48 : decode cX4_worstWait 48 = .ok (.ireturn, 1) := by decide +kernel
theorem dX4_waitEnds_0 : decode cX4_waitEnds 0 = .ok (.aload_n 0, 1) := by decide +kernel
theorem dX4_waitEnds_1 : decode cX4_waitEnds 1 = .ok (.getfield 24, 3) := by decide +kernel
theorem dX4_waitEnds_4 : decode cX4_waitEnds 4 = .ok (.iload_n 1, 1) := by decide +kernel
theorem dX4_waitEnds_5 : decode cX4_waitEnds 5 = .ok (.aload_n 0, 1) := by decide +kernel
theorem dX4_waitEnds_6 : decode cX4_waitEnds 6 = .ok (.getfield 24, 3) := by decide +kernel
theorem dX4_waitEnds_9 : decode cX4_waitEnds 9 = .ok (.iload_n 1, 1) := by decide +kernel
theorem dX4_waitEnds_10 : decode cX4_waitEnds 10 = .ok (.iaload, 1) := by decide +kernel
theorem dX4_waitEnds_11 : decode cX4_waitEnds 11 = .ok (.aload_n 0, 1) := by decide +kernel
theorem dX4_waitEnds_12 : decode cX4_waitEnds 12 = .ok (.getfield 55, 3) := by decide +kernel
theorem dX4_waitEnds_15 : decode cX4_waitEnds 15 = .ok (.aload_n 0, 1) := by decide +kernel
theorem dX4_waitEnds_16 : decode cX4_waitEnds 16 = .ok (.getfield 21, 3) := by decide +kernel
theorem dX4_waitEnds_19 : decode cX4_waitEnds 19 = .ok (.iload_n 1, 1) := by decide +kernel
theorem dX4_waitEnds_20 : decode cX4_waitEnds 20 = .ok (.iaload, 1) := by decide +kernel
theorem dX4_waitEnds_21 : decode cX4_waitEnds 21 = .ok (.isub, 1) := by decide +kernel
theorem dX4_waitEnds_22 : decode cX4_waitEnds 22 = .ok (.invokestatic 76, 3) := by decide +kernel
theorem dX4_waitEnds_25 : decode cX4_waitEnds 25 = .ok (.iastore, 1) := by decide +kernel
theorem dX4_waitEnds_26 : decode cX4_waitEnds 26 = .ok (.return_, 1) := by decide +kernel
set_option maxRecDepth 20000 in
theorem ggX4_foremost_X4_goesAhead : GoodIn wsX4_foremost wsX4_goesAhead := goodIn_r _ [6, 7, 8, 9, 10, 5, 11, 12, 13, 14, 15, 16, 17, 18, 19, 20, 21, 22, 23, 24, 25, 26] (by decide +kernel) (by decide +kernel)
set_option maxRecDepth 20000 in
theorem gX4_foremost_X4_goesAhead : GoodIn wsX4_foremost (wsV RX4 79 RX4 yX4_goesAhead wsX4_goesAhead) := goodIn_app (goodIn_of _ (by decide +kernel)) ggX4_foremost_X4_goesAhead
theorem dX4_foremost_0 : decode cX4_foremost 0 = .ok (.iconst 0, 1) := by decide +kernel
theorem dX4_foremost_1 : decode cX4_foremost 1 = .ok (.istore_n 2, 1) := by decide +kernel
theorem dX4_foremost_2 : decode cX4_foremost 2 = .ok (.iconst 1, 1) := by decide +kernel
theorem dX4_foremost_3 : decode cX4_foremost 3 = .ok (.istore_n 3, 1) := by decide +kernel
theorem dX4_foremost_4 : decode cX4_foremost 4 = .ok (.iload_n 3, 1) := by decide +kernel
theorem dX4_foremost_5 : decode cX4_foremost 5 = .ok (.aload_n 0, 1) := by decide +kernel
theorem dX4_foremost_6 : decode cX4_foremost 6 = .ok (.getfield 39, 3) := by decide +kernel
theorem dX4_foremost_9 : decode cX4_foremost 9 = .ok (.if_icmp .ge 21, 3) := by decide +kernel
theorem dX4_foremost_12 : decode cX4_foremost 12 = .ok (.aload_n 0, 1) := by decide +kernel
theorem dX4_foremost_13 : decode cX4_foremost 13 = .ok (.iload_n 1, 1) := by decide +kernel
theorem dX4_foremost_14 : decode cX4_foremost 14 = .ok (.iload_n 3, 1) := by decide +kernel
theorem dX4_foremost_15 : decode cX4_foremost 15 = .ok (.iload_n 2, 1) := by decide +kernel
theorem dX4_foremost_16 : decode cX4_foremost 16 = .ok (.invokevirtual 79, 3) := by decide +kernel
theorem dX4_foremost_19 : decode cX4_foremost 19 = .ok (.ifCond .eq 5, 3) := by decide +kernel
theorem dX4_foremost_22 : decode cX4_foremost 22 = .ok (.iload_n 3, 1) := by decide +kernel
theorem dX4_foremost_23 : decode cX4_foremost 23 = .ok (.istore_n 2, 1) := by decide +kernel
theorem dX4_foremost_24 : decode cX4_foremost 24 = .ok (.iinc 3 1, 3) := by decide +kernel
theorem dX4_foremost_27 : decode cX4_foremost 27 = .ok (.goto (-23), 3) := by decide +kernel
theorem dX4_foremost_30 : decode cX4_foremost 30 = .ok (.iload_n 2, 1) := by decide +kernel
theorem dX4_foremost_31 : decode cX4_foremost 31 = .ok (.ireturn, 1) := by decide +kernel
set_option maxRecDepth 20000 in
theorem ggX4_goesAhead_X4_urgency : GoodIn wsX4_goesAhead wsX4_urgency := goodIn_r _ [6, 1, 7, 8, 15, 16, 17, 18, 19, 20, 21] (by decide +kernel) (by decide +kernel)
set_option maxRecDepth 20000 in
theorem gX4_goesAhead_X4_urgency : GoodIn wsX4_goesAhead (wsV RX4 82 RX4 yX4_urgency wsX4_urgency) := goodIn_app (goodIn_of _ (by decide +kernel)) ggX4_goesAhead_X4_urgency
set_option maxRecDepth 20000 in
theorem ggX4_goesAhead_X4_cost : GoodIn wsX4_goesAhead wsX4_cost := goodIn_r _ [12, 13, 14, 15, 16, 17, 18, 19, 20, 21] (by decide +kernel) (by decide +kernel)
set_option maxRecDepth 20000 in
theorem gX4_goesAhead_X4_cost : GoodIn wsX4_goesAhead (wsV RX4 85 RX4 yX4_cost wsX4_cost) := goodIn_app (goodIn_of _ (by decide +kernel)) ggX4_goesAhead_X4_cost
theorem dX4_goesAhead_0 : decode cX4_goesAhead 0 = .ok (.iload_n 1, 1) := by decide +kernel
theorem dX4_goesAhead_1 : decode cX4_goesAhead 1 = .ok (.lookupswitch 79 #[(1, 27), (2, 46)], 27) := by decide +kernel
theorem dX4_goesAhead_28 : decode cX4_goesAhead 28 = .ok (.aload_n 0, 1) := by decide +kernel
theorem dX4_goesAhead_29 : decode cX4_goesAhead 29 = .ok (.iload_n 2, 1) := by decide +kernel
theorem dX4_goesAhead_30 : decode cX4_goesAhead 30 = .ok (.invokevirtual 82, 3) := by decide +kernel
theorem dX4_goesAhead_33 : decode cX4_goesAhead 33 = .ok (.aload_n 0, 1) := by decide +kernel
theorem dX4_goesAhead_34 : decode cX4_goesAhead 34 = .ok (.iload_n 3, 1) := by decide +kernel
theorem dX4_goesAhead_35 : decode cX4_goesAhead 35 = .ok (.invokevirtual 82, 3) := by decide +kernel
theorem dX4_goesAhead_38 : decode cX4_goesAhead 38 = .ok (.if_icmp .le 7, 3) := by decide +kernel
theorem dX4_goesAhead_41 : decode cX4_goesAhead 41 = .ok (.iconst 1, 1) := by decide +kernel
theorem dX4_goesAhead_42 : decode cX4_goesAhead 42 = .ok (.goto 4, 3) := by decide +kernel
theorem dX4_goesAhead_45 : decode cX4_goesAhead 45 = .ok (.iconst 0, 1) := by decide +kernel
theorem dX4_goesAhead_46 : decode cX4_goesAhead 46 = .ok (.ireturn, 1) := by decide +kernel
theorem dX4_goesAhead_47 : decode cX4_goesAhead 47 = .ok (.aload_n 0, 1) := by decide +kernel
theorem dX4_goesAhead_48 : decode cX4_goesAhead 48 = .ok (.iload_n 2, 1) := by decide +kernel
theorem dX4_goesAhead_49 : decode cX4_goesAhead 49 = .ok (.invokevirtual 85, 3) := by decide +kernel
theorem dX4_goesAhead_52 : decode cX4_goesAhead 52 = .ok (.aload_n 0, 1) := by decide +kernel
theorem dX4_goesAhead_53 : decode cX4_goesAhead 53 = .ok (.getfield 15, 3) := by decide +kernel
theorem dX4_goesAhead_56 : decode cX4_goesAhead 56 = .ok (.iload_n 3, 1) := by decide +kernel
theorem dX4_goesAhead_57 : decode cX4_goesAhead 57 = .ok (.iaload, 1) := by decide +kernel
theorem dX4_goesAhead_58 : decode cX4_goesAhead 58 = .ok (.imul, 1) := by decide +kernel
theorem dX4_goesAhead_59 : decode cX4_goesAhead 59 = .ok (.aload_n 0, 1) := by decide +kernel
theorem dX4_goesAhead_60 : decode cX4_goesAhead 60 = .ok (.iload_n 3, 1) := by decide +kernel
theorem dX4_goesAhead_61 : decode cX4_goesAhead 61 = .ok (.invokevirtual 85, 3) := by decide +kernel
theorem dX4_goesAhead_64 : decode cX4_goesAhead 64 = .ok (.aload_n 0, 1) := by decide +kernel
theorem dX4_goesAhead_65 : decode cX4_goesAhead 65 = .ok (.getfield 15, 3) := by decide +kernel
theorem dX4_goesAhead_68 : decode cX4_goesAhead 68 = .ok (.iload_n 2, 1) := by decide +kernel
theorem dX4_goesAhead_69 : decode cX4_goesAhead 69 = .ok (.iaload, 1) := by decide +kernel
theorem dX4_goesAhead_70 : decode cX4_goesAhead 70 = .ok (.imul, 1) := by decide +kernel
theorem dX4_goesAhead_71 : decode cX4_goesAhead 71 = .ok (.if_icmp .ge 7, 3) := by decide +kernel
theorem dX4_goesAhead_74 : decode cX4_goesAhead 74 = .ok (.iconst 1, 1) := by decide +kernel
theorem dX4_goesAhead_75 : decode cX4_goesAhead 75 = .ok (.goto 4, 3) := by decide +kernel
theorem dX4_goesAhead_78 : decode cX4_goesAhead 78 = .ok (.iconst 0, 1) := by decide +kernel
theorem dX4_goesAhead_79 : decode cX4_goesAhead 79 = .ok (.ireturn, 1) := by decide +kernel
theorem dX4_goesAhead_80 : decode cX4_goesAhead 80 = .ok (.aload_n 0, 1) := by decide +kernel
theorem dX4_goesAhead_81 : decode cX4_goesAhead 81 = .ok (.iload_n 2, 1) := by decide +kernel
theorem dX4_goesAhead_82 : decode cX4_goesAhead 82 = .ok (.invokevirtual 85, 3) := by decide +kernel
theorem dX4_goesAhead_85 : decode cX4_goesAhead 85 = .ok (.aload_n 0, 1) := by decide +kernel
theorem dX4_goesAhead_86 : decode cX4_goesAhead 86 = .ok (.iload_n 3, 1) := by decide +kernel
theorem dX4_goesAhead_87 : decode cX4_goesAhead 87 = .ok (.invokevirtual 85, 3) := by decide +kernel
theorem dX4_goesAhead_90 : decode cX4_goesAhead 90 = .ok (.if_icmp .ge 7, 3) := by decide +kernel
theorem dX4_goesAhead_93 : decode cX4_goesAhead 93 = .ok (.iconst 1, 1) := by decide +kernel
theorem dX4_goesAhead_94 : decode cX4_goesAhead 94 = .ok (.goto 4, 3) := by decide +kernel
theorem dX4_goesAhead_97 : decode cX4_goesAhead 97 = .ok (.iconst 0, 1) := by decide +kernel
theorem dX4_goesAhead_98 : decode cX4_goesAhead 98 = .ok (.ireturn, 1) := by decide +kernel
theorem dX4_urgency_0 : decode cX4_urgency 0 = .ok (.aload_n 0, 1) := by decide +kernel
theorem dX4_urgency_1 : decode cX4_urgency 1 = .ok (.getfield 15, 3) := by decide +kernel
theorem dX4_urgency_4 : decode cX4_urgency 4 = .ok (.iload_n 1, 1) := by decide +kernel
theorem dX4_urgency_5 : decode cX4_urgency 5 = .ok (.iaload, 1) := by decide +kernel
theorem dX4_urgency_6 : decode cX4_urgency 6 = .ok (.aload_n 0, 1) := by decide +kernel
theorem dX4_urgency_7 : decode cX4_urgency 7 = .ok (.getfield 55, 3) := by decide +kernel
theorem dX4_urgency_10 : decode cX4_urgency 10 = .ok (.aload_n 0, 1) := by decide +kernel
theorem dX4_urgency_11 : decode cX4_urgency 11 = .ok (.getfield 21, 3) := by decide +kernel
theorem dX4_urgency_14 : decode cX4_urgency 14 = .ok (.iload_n 1, 1) := by decide +kernel
theorem dX4_urgency_15 : decode cX4_urgency 15 = .ok (.iaload, 1) := by decide +kernel
theorem dX4_urgency_16 : decode cX4_urgency 16 = .ok (.isub, 1) := by decide +kernel
theorem dX4_urgency_17 : decode cX4_urgency 17 = .ok (.iconst 1, 1) := by decide +kernel
theorem dX4_urgency_18 : decode cX4_urgency 18 = .ok (.iadd, 1) := by decide +kernel
theorem dX4_urgency_19 : decode cX4_urgency 19 = .ok (.imul, 1) := by decide +kernel
theorem dX4_urgency_20 : decode cX4_urgency 20 = .ok (.ireturn, 1) := by decide +kernel
theorem dX4_cost_0 : decode cX4_cost 0 = .ok (.aload_n 0, 1) := by decide +kernel
theorem dX4_cost_1 : decode cX4_cost 1 = .ok (.getfield 18, 3) := by decide +kernel
theorem dX4_cost_4 : decode cX4_cost 4 = .ok (.iload_n 1, 1) := by decide +kernel
theorem dX4_cost_5 : decode cX4_cost 5 = .ok (.iaload, 1) := by decide +kernel
theorem dX4_cost_6 : decode cX4_cost 6 = .ok (.iconst 1, 1) := by decide +kernel
theorem dX4_cost_7 : decode cX4_cost 7 = .ok (.iadd, 1) := by decide +kernel
theorem dX4_cost_8 : decode cX4_cost 8 = .ok (.aload_n 0, 1) := by decide +kernel
theorem dX4_cost_9 : decode cX4_cost 9 = .ok (.getfield 9, 3) := by decide +kernel
theorem dX4_cost_12 : decode cX4_cost 12 = .ok (.iload_n 1, 1) := by decide +kernel
theorem dX4_cost_13 : decode cX4_cost 13 = .ok (.iaload, 1) := by decide +kernel
theorem dX4_cost_14 : decode cX4_cost 14 = .ok (.imul, 1) := by decide +kernel
theorem dX4_cost_15 : decode cX4_cost 15 = .ok (.ireturn, 1) := by decide +kernel
set_option maxRecDepth 20000 in
theorem ggX5_init_J7_fill_53178 : GoodIn wsX5_init wsJ7_fill_53178 := goodIn_r _ [10] (by decide +kernel) (by decide +kernel)
set_option maxRecDepth 20000 in
theorem gX5_init_J7_fill_53178 : GoodIn wsX5_init (va_wsS RX5 18 yJ7_fill_53178 wsJ7_fill_53178) := goodIn_app (goodIn_of _ (by decide +kernel)) ggX5_init_J7_fill_53178
theorem dX5_init_0 : decode cX5_init 0 = .ok (.aload_n 0, 1) := by decide +kernel
theorem dX5_init_1 : decode cX5_init 1 = .ok (.invokespecial 5, 3) := by decide +kernel
theorem dX5_init_4 : decode cX5_init 4 = .ok (.aload_n 0, 1) := by decide +kernel
theorem dX5_init_5 : decode cX5_init 5 = .ok (.sipush 500, 3) := by decide +kernel
theorem dX5_init_8 : decode cX5_init 8 = .ok (.newarray .int, 2) := by decide +kernel
theorem dX5_init_10 : decode cX5_init 10 = .ok (.putfield 11, 3) := by decide +kernel
theorem dX5_init_13 : decode cX5_init 13 = .ok (.aload_n 0, 1) := by decide +kernel
theorem dX5_init_14 : decode cX5_init 14 = .ok (.iconst 4, 1) := by decide +kernel
theorem dX5_init_15 : decode cX5_init 15 = .ok (.newarray .int, 2) := by decide +kernel
theorem dX5_init_17 : decode cX5_init 17 = .ok (.putfield 15, 3) := by decide +kernel
theorem dX5_init_20 : decode cX5_init 20 = .ok (.aload_n 0, 1) := by decide +kernel
theorem dX5_init_21 : decode cX5_init 21 = .ok (.getfield 15, 3) := by decide +kernel
theorem dX5_init_24 : decode cX5_init 24 = .ok (.iconst (-1), 1) := by decide +kernel
theorem dX5_init_25 : decode cX5_init 25 = .ok (.invokestatic 18, 3) := by decide +kernel
theorem dX5_init_28 : decode cX5_init 28 = .ok (.return_, 1) := by decide +kernel
theorem dX5_become_0 : decode cX5_become 0 = .ok (.aload_n 1, 1) := by decide +kernel
theorem dX5_become_1 : decode cX5_become 1 = .ok (.getfield 11, 3) := by decide +kernel
theorem dX5_become_4 : decode cX5_become 4 = .ok (.iconst 0, 1) := by decide +kernel
theorem dX5_become_5 : decode cX5_become 5 = .ok (.aload_n 0, 1) := by decide +kernel
theorem dX5_become_6 : decode cX5_become 6 = .ok (.getfield 11, 3) := by decide +kernel
theorem dX5_become_9 : decode cX5_become 9 = .ok (.iconst 0, 1) := by decide +kernel
theorem dX5_become_10 : decode cX5_become 10 = .ok (.aload_n 1, 1) := by decide +kernel
theorem dX5_become_11 : decode cX5_become 11 = .ok (.getfield 24, 3) := by decide +kernel
theorem dX5_become_14 : decode cX5_become 14 = .ok (.bipush 50, 2) := by decide +kernel
theorem dX5_become_16 : decode cX5_become 16 = .ok (.imul, 1) := by decide +kernel
theorem dX5_become_17 : decode cX5_become 17 = .ok (.invokestatic 28, 3) := by decide +kernel
theorem dX5_become_20 : decode cX5_become 20 = .ok (.aload_n 1, 1) := by decide +kernel
theorem dX5_become_21 : decode cX5_become 21 = .ok (.getfield 15, 3) := by decide +kernel
theorem dX5_become_24 : decode cX5_become 24 = .ok (.iconst 0, 1) := by decide +kernel
theorem dX5_become_25 : decode cX5_become 25 = .ok (.aload_n 0, 1) := by decide +kernel
theorem dX5_become_26 : decode cX5_become 26 = .ok (.getfield 15, 3) := by decide +kernel
theorem dX5_become_29 : decode cX5_become 29 = .ok (.iconst 0, 1) := by decide +kernel
theorem dX5_become_30 : decode cX5_become 30 = .ok (.aload_n 0, 1) := by decide +kernel
theorem dX5_become_31 : decode cX5_become 31 = .ok (.getfield 15, 3) := by decide +kernel
theorem dX5_become_34 : decode cX5_become 34 = .ok (.arraylength, 1) := by decide +kernel
theorem dX5_become_35 : decode cX5_become 35 = .ok (.invokestatic 28, 3) := by decide +kernel
theorem dX5_become_38 : decode cX5_become 38 = .ok (.aload_n 0, 1) := by decide +kernel
theorem dX5_become_39 : decode cX5_become 39 = .ok (.aload_n 1, 1) := by decide +kernel
theorem dX5_become_40 : decode cX5_become 40 = .ok (.getfield 24, 3) := by decide +kernel
theorem dX5_become_43 : decode cX5_become 43 = .ok (.putfield 24, 3) := by decide +kernel
theorem dX5_become_46 : decode cX5_become 46 = .ok (.aload_n 0, 1) := by decide +kernel
theorem dX5_become_47 : decode cX5_become 47 = .ok (.aload_n 1, 1) := by decide +kernel
theorem dX5_become_48 : decode cX5_become 48 = .ok (.getfield 34, 3) := by decide +kernel
theorem dX5_become_51 : decode cX5_become 51 = .ok (.putfield 34, 3) := by decide +kernel
theorem dX5_become_54 : decode cX5_become 54 = .ok (.aload_n 0, 1) := by decide +kernel
theorem dX5_become_55 : decode cX5_become 55 = .ok (.aload_n 1, 1) := by decide +kernel
theorem dX5_become_56 : decode cX5_become 56 = .ok (.getfield 37, 3) := by decide +kernel
theorem dX5_become_59 : decode cX5_become 59 = .ok (.putfield 37, 3) := by decide +kernel
theorem dX5_become_62 : decode cX5_become 62 = .ok (.aload_n 0, 1) := by decide +kernel
theorem dX5_become_63 : decode cX5_become 63 = .ok (.aload_n 1, 1) := by decide +kernel
theorem dX5_become_64 : decode cX5_become 64 = .ok (.getfield 40, 3) := by decide +kernel
theorem dX5_become_67 : decode cX5_become 67 = .ok (.putfield 40, 3) := by decide +kernel
theorem dX5_become_70 : decode cX5_become 70 = .ok (.aload_n 0, 1) := by decide +kernel
theorem dX5_become_71 : decode cX5_become 71 = .ok (.aload_n 1, 1) := by decide +kernel
theorem dX5_become_72 : decode cX5_become 72 = .ok (.getfield 43, 3) := by decide +kernel
theorem dX5_become_75 : decode cX5_become 75 = .ok (.putfield 43, 3) := by decide +kernel
theorem dX5_become_78 : decode cX5_become 78 = .ok (.return_, 1) := by decide +kernel
set_option maxRecDepth 20000 in
theorem ggX5_draw_J9_floorMod_7cf53 : GoodIn wsX5_draw wsJ9_floorMod_7cf53 := goodIn_r _ [9] (by decide +kernel) (by decide +kernel)
set_option maxRecDepth 20000 in
theorem gX5_draw_J9_floorMod_7cf53 : GoodIn wsX5_draw (va_wsS RX5 56 yJ9_floorMod_7cf53 wsJ9_floorMod_7cf53) := goodIn_app (goodIn_of _ (by decide +kernel)) ggX5_draw_J9_floorMod_7cf53
theorem dX5_draw_0 : decode cX5_draw 0 = .ok (.aload_n 0, 1) := by decide +kernel
theorem dX5_draw_1 : decode cX5_draw 1 = .ok (.aload_n 0, 1) := by decide +kernel
theorem dX5_draw_2 : decode cX5_draw 2 = .ok (.getfield 46, 3) := by decide +kernel
theorem dX5_draw_5 : decode cX5_draw 5 = .ok (.i2l, 1) := by decide +kernel
theorem dX5_draw_6 : decode cX5_draw 6 = .ok (.ldc2_w 49, 3) := by decide +kernel
theorem dX5_draw_9 : decode cX5_draw 9 = .ok (.lmul, 1) := by decide +kernel
theorem dX5_draw_10 : decode cX5_draw 10 = .ok (.ldc2_w 51, 3) := by decide +kernel
theorem dX5_draw_13 : decode cX5_draw 13 = .ok (.ladd, 1) := by decide +kernel
theorem dX5_draw_14 : decode cX5_draw 14 = .ok (.ldc2_w 53, 3) := by decide +kernel
theorem dX5_draw_17 : decode cX5_draw 17 = .ok (.lrem, 1) := by decide +kernel
theorem dX5_draw_18 : decode cX5_draw 18 = .ok (.l2i, 1) := by decide +kernel
theorem dX5_draw_19 : decode cX5_draw 19 = .ok (.putfield 46, 3) := by decide +kernel
theorem dX5_draw_22 : decode cX5_draw 22 = .ok (.iload_n 1, 1) := by decide +kernel
theorem dX5_draw_23 : decode cX5_draw 23 = .ok (.iconst 1, 1) := by decide +kernel
theorem dX5_draw_24 : decode cX5_draw 24 = .ok (.if_icmp .ge 7, 3) := by decide +kernel
theorem dX5_draw_27 : decode cX5_draw 27 = .ok (.iconst 0, 1) := by decide +kernel
theorem dX5_draw_28 : decode cX5_draw 28 = .ok (.goto 14, 3) := by decide +kernel
theorem dX5_draw_31 : decode cX5_draw 31 = .ok (.aload_n 0, 1) := by decide +kernel
theorem dX5_draw_32 : decode cX5_draw 32 = .ok (.getfield 46, 3) := by decide +kernel
theorem dX5_draw_35 : decode cX5_draw 35 = .ok (.ldc 55, 2) := by decide +kernel
theorem dX5_draw_37 : decode cX5_draw 37 = .ok (.idiv, 1) := by decide +kernel
theorem dX5_draw_38 : decode cX5_draw 38 = .ok (.iload_n 1, 1) := by decide +kernel
theorem dX5_draw_39 : decode cX5_draw 39 = .ok (.invokestatic 56, 3) := by decide +kernel
theorem dX5_draw_42 : decode cX5_draw 42 = .ok (.ireturn, 1) := by decide +kernel
set_option maxRecDepth 20000 in
theorem ggX5_countMended_X1_decode : GoodIn wsX5_countMended wsX1_decode := goodIn_r _ [6, 7, 8, 9, 10, 11, 12, 13, 14] (by decide +kernel) (by decide +kernel)
set_option maxRecDepth 20000 in
theorem gX5_countMended_X1_decode : GoodIn wsX5_countMended (va_wsS RX5 62 yX1_decode wsX1_decode) := goodIn_app (goodIn_of _ (by decide +kernel)) ggX5_countMended_X1_decode
set_option maxRecDepth 20000 in
theorem ggX5_countMended_X1_encode : GoodIn wsX5_countMended wsX1_encode := goodIn_r _ [17, 7] (by decide +kernel) (by decide +kernel)
set_option maxRecDepth 20000 in
theorem gX5_countMended_X1_encode : GoodIn wsX5_countMended (va_wsS RX5 68 yX1_encode wsX1_encode) := goodIn_app (goodIn_of _ (by decide +kernel)) ggX5_countMended_X1_encode
theorem dX5_countMended_0 : decode cX5_countMended 0 = .ok (.iload_n 2, 1) := by decide +kernel
theorem dX5_countMended_1 : decode cX5_countMended 1 = .ok (.istore 4, 2) := by decide +kernel
theorem dX5_countMended_3 : decode cX5_countMended 3 = .ok (.iload 4, 2) := by decide +kernel
theorem dX5_countMended_5 : decode cX5_countMended 5 = .ok (.iload_n 3, 1) := by decide +kernel
theorem dX5_countMended_6 : decode cX5_countMended 6 = .ok (.if_icmp .ge 62, 3) := by decide +kernel
theorem dX5_countMended_9 : decode cX5_countMended 9 = .ok (.iload 4, 2) := by decide +kernel
theorem dX5_countMended_11 : decode cX5_countMended 11 = .ok (.aload_n 1, 1) := by decide +kernel
theorem dX5_countMended_12 : decode cX5_countMended 12 = .ok (.arraylength, 1) := by decide +kernel
theorem dX5_countMended_13 : decode cX5_countMended 13 = .ok (.if_icmp .ge 55, 3) := by decide +kernel
theorem dX5_countMended_16 : decode cX5_countMended 16 = .ok (.aload_n 1, 1) := by decide +kernel
theorem dX5_countMended_17 : decode cX5_countMended 17 = .ok (.iload 4, 2) := by decide +kernel
theorem dX5_countMended_19 : decode cX5_countMended 19 = .ok (.iaload, 1) := by decide +kernel
theorem dX5_countMended_20 : decode cX5_countMended 20 = .ok (.invokestatic 62, 3) := by decide +kernel
theorem dX5_countMended_23 : decode cX5_countMended 23 = .ok (.istore 5, 2) := by decide +kernel
theorem dX5_countMended_25 : decode cX5_countMended 25 = .ok (.iload 5, 2) := by decide +kernel
theorem dX5_countMended_27 : decode cX5_countMended 27 = .ok (.iconst (-1), 1) := by decide +kernel
theorem dX5_countMended_28 : decode cX5_countMended 28 = .ok (.if_icmp .eq 34, 3) := by decide +kernel
theorem dX5_countMended_31 : decode cX5_countMended 31 = .ok (.aload_n 1, 1) := by decide +kernel
theorem dX5_countMended_32 : decode cX5_countMended 32 = .ok (.iload 4, 2) := by decide +kernel
theorem dX5_countMended_34 : decode cX5_countMended 34 = .ok (.iaload, 1) := by decide +kernel
theorem dX5_countMended_35 : decode cX5_countMended 35 = .ok (.iload 5, 2) := by decide +kernel
theorem dX5_countMended_37 : decode cX5_countMended 37 = .ok (.invokestatic 68, 3) := by decide +kernel
theorem dX5_countMended_40 : decode cX5_countMended 40 = .ok (.if_icmp .eq 22, 3) := by decide +kernel
theorem dX5_countMended_43 : decode cX5_countMended 43 = .ok (.aload_n 0, 1) := by decide +kernel
theorem dX5_countMended_44 : decode cX5_countMended 44 = .ok (.getfield 40, 3) := by decide +kernel
theorem dX5_countMended_47 : decode cX5_countMended 47 = .ok (.ldc 71, 2) := by decide +kernel
theorem dX5_countMended_49 : decode cX5_countMended 49 = .ok (.if_icmp .ge 13, 3) := by decide +kernel
theorem dX5_countMended_52 : decode cX5_countMended 52 = .ok (.aload_n 0, 1) := by decide +kernel
theorem dX5_countMended_53 : decode cX5_countMended 53 = .ok (.dup, 1) := by decide +kernel
theorem dX5_countMended_54 : decode cX5_countMended 54 = .ok (.getfield 40, 3) := by decide +kernel
theorem dX5_countMended_57 : decode cX5_countMended 57 = .ok (.iconst 1, 1) := by decide +kernel
theorem dX5_countMended_58 : decode cX5_countMended 58 = .ok (.iadd, 1) := by decide +kernel
theorem dX5_countMended_59 : decode cX5_countMended 59 = .ok (.putfield 40, 3) := by decide +kernel
theorem dX5_countMended_62 : decode cX5_countMended 62 = .ok (.iinc 4 1, 3) := by decide +kernel
theorem dX5_countMended_65 : decode cX5_countMended 65 = .ok (.goto (-62), 3) := by decide +kernel
theorem dX5_countMended_68 : decode cX5_countMended 68 = .ok (.return_, 1) := by decide +kernel
set_option maxRecDepth 20000 in
theorem ggX5_has_X7_isWithin : GoodIn wsX5_has wsX7_isWithin := goodIn_r _ [4] (by decide +kernel) (by decide +kernel)
set_option maxRecDepth 20000 in
theorem gX5_has_X7_isWithin_n72 : GoodIn wsX5_has (wsX7_isWithin) := ggX5_has_X7_isWithin
theorem dX5_has_0 : decode cX5_has 0 = .ok (.iload_n 1, 1) := by decide +kernel
theorem dX5_has_1 : decode cX5_has 1 = .ok (.iconst 0, 1) := by decide +kernel
theorem dX5_has_2 : decode cX5_has 2 = .ok (.aload_n 0, 1) := by decide +kernel
theorem dX5_has_3 : decode cX5_has 3 = .ok (.getfield 24, 3) := by decide +kernel
theorem dX5_has_6 : decode cX5_has 6 = .ok (.iconst 1, 1) := by decide +kernel
theorem dX5_has_7 : decode cX5_has 7 = .ok (.isub, 1) := by decide +kernel
theorem dX5_has_8 : decode cX5_has 8 = .ok (.invokestatic 72, 3) := by decide +kernel
theorem dX5_has_11 : decode cX5_has 11 = .ok (.ireturn, 1) := by decide +kernel
theorem dX5_get_0 : decode cX5_get 0 = .ok (.iload_n 1, 1) := by decide +kernel
theorem dX5_get_1 : decode cX5_get 1 = .ok (.bipush 50, 2) := by decide +kernel
theorem dX5_get_3 : decode cX5_get 3 = .ok (.imul, 1) := by decide +kernel
theorem dX5_get_4 : decode cX5_get 4 = .ok (.iload_n 2, 1) := by decide +kernel
theorem dX5_get_5 : decode cX5_get 5 = .ok (.iadd, 1) := by decide +kernel
theorem dX5_get_6 : decode cX5_get 6 = .ok (.istore_n 3, 1) := by decide +kernel
theorem dX5_get_7 : decode cX5_get 7 = .ok (.iload_n 3, 1) := by decide +kernel
theorem dX5_get_8 : decode cX5_get 8 = .ok (.ifCond .lt 12, 3) := by decide +kernel
theorem dX5_get_11 : decode cX5_get 11 = .ok (.iload_n 3, 1) := by decide +kernel
theorem dX5_get_12 : decode cX5_get 12 = .ok (.aload_n 0, 1) := by decide +kernel
theorem dX5_get_13 : decode cX5_get 13 = .ok (.getfield 11, 3) := by decide +kernel
theorem dX5_get_16 : decode cX5_get 16 = .ok (.arraylength, 1) := by decide +kernel
theorem dX5_get_17 : decode cX5_get 17 = .ok (.if_icmp .lt 7, 3) := by decide +kernel
theorem dX5_get_20 : decode cX5_get 20 = .ok (.iconst (-1), 1) := by decide +kernel
theorem dX5_get_21 : decode cX5_get 21 = .ok (.goto 9, 3) := by decide +kernel
theorem dX5_get_24 : decode cX5_get 24 = .ok (.aload_n 0, 1) := by decide +kernel
theorem dX5_get_25 : decode cX5_get 25 = .ok (.getfield 11, 3) := by decide +kernel
theorem dX5_get_28 : decode cX5_get 28 = .ok (.iload_n 3, 1) := by decide +kernel
theorem dX5_get_29 : decode cX5_get 29 = .ok (.iaload, 1) := by decide +kernel
theorem dX5_get_30 : decode cX5_get 30 = .ok (.ireturn, 1) := by decide +kernel
theorem dX5_set_0 : decode cX5_set 0 = .ok (.iload_n 1, 1) := by decide +kernel
theorem dX5_set_1 : decode cX5_set 1 = .ok (.bipush 50, 2) := by decide +kernel
theorem dX5_set_3 : decode cX5_set 3 = .ok (.imul, 1) := by decide +kernel
theorem dX5_set_4 : decode cX5_set 4 = .ok (.iload_n 2, 1) := by decide +kernel
theorem dX5_set_5 : decode cX5_set 5 = .ok (.iadd, 1) := by decide +kernel
theorem dX5_set_6 : decode cX5_set 6 = .ok (.istore 4, 2) := by decide +kernel
theorem dX5_set_8 : decode cX5_set 8 = .ok (.iload 4, 2) := by decide +kernel
theorem dX5_set_10 : decode cX5_set 10 = .ok (.ifCond .lt 21, 3) := by decide +kernel
theorem dX5_set_13 : decode cX5_set 13 = .ok (.iload 4, 2) := by decide +kernel
theorem dX5_set_15 : decode cX5_set 15 = .ok (.aload_n 0, 1) := by decide +kernel
theorem dX5_set_16 : decode cX5_set 16 = .ok (.getfield 11, 3) := by decide +kernel
theorem dX5_set_19 : decode cX5_set 19 = .ok (.arraylength, 1) := by decide +kernel
theorem dX5_set_20 : decode cX5_set 20 = .ok (.if_icmp .ge 11, 3) := by decide +kernel
theorem dX5_set_23 : decode cX5_set 23 = .ok (.aload_n 0, 1) := by decide +kernel
theorem dX5_set_24 : decode cX5_set 24 = .ok (.getfield 11, 3) := by decide +kernel
theorem dX5_set_27 : decode cX5_set 27 = .ok (.iload 4, 2) := by decide +kernel
theorem dX5_set_29 : decode cX5_set 29 = .ok (.iload_n 3, 1) := by decide +kernel
theorem dX5_set_30 : decode cX5_set 30 = .ok (.iastore, 1) := by decide +kernel
theorem dX5_set_31 : decode cX5_set 31 = .ok (.return_, 1) := by decide +kernel
set_option maxRecDepth 20000 in
theorem ggX5_linkAt_X5_get : GoodIn wsX5_linkAt wsX5_get := goodIn_r _ [5, 6, 7, 8, 9, 10, 11, 12, 13, 14] (by decide +kernel) (by decide +kernel)
set_option maxRecDepth 20000 in
theorem gX5_linkAt_X5_get : GoodIn wsX5_linkAt (wsV RX5 76 RX5 yX5_get wsX5_get) := goodIn_app (goodIn_of _ (by decide +kernel)) ggX5_linkAt_X5_get
theorem dX5_linkAt_0 : decode cX5_linkAt 0 = .ok (.aload_n 0, 1) := by decide +kernel
theorem dX5_linkAt_1 : decode cX5_linkAt 1 = .ok (.iload_n 1, 1) := by decide +kernel
theorem dX5_linkAt_2 : decode cX5_linkAt 2 = .ok (.bipush 6, 2) := by decide +kernel
theorem dX5_linkAt_4 : decode cX5_linkAt 4 = .ok (.iload_n 2, 1) := by decide +kernel
theorem dX5_linkAt_5 : decode cX5_linkAt 5 = .ok (.iadd, 1) := by decide +kernel
theorem dX5_linkAt_6 : decode cX5_linkAt 6 = .ok (.invokevirtual 76, 3) := by decide +kernel
theorem dX5_linkAt_9 : decode cX5_linkAt 9 = .ok (.ireturn, 1) := by decide +kernel
set_option maxRecDepth 20000 in
theorem ggX5_putLink_X5_set : GoodIn wsX5_putLink wsX5_set := goodIn_r _ [5, 6, 7, 8, 9, 10, 11, 12, 13, 14] (by decide +kernel) (by decide +kernel)
set_option maxRecDepth 20000 in
theorem gX5_putLink_X5_set : GoodIn wsX5_putLink (wsV RX5 79 RX5 yX5_set wsX5_set) := goodIn_app (goodIn_of _ (by decide +kernel)) ggX5_putLink_X5_set
theorem dX5_putLink_0 : decode cX5_putLink 0 = .ok (.aload_n 0, 1) := by decide +kernel
theorem dX5_putLink_1 : decode cX5_putLink 1 = .ok (.iload_n 1, 1) := by decide +kernel
theorem dX5_putLink_2 : decode cX5_putLink 2 = .ok (.bipush 6, 2) := by decide +kernel
theorem dX5_putLink_4 : decode cX5_putLink 4 = .ok (.iload_n 2, 1) := by decide +kernel
theorem dX5_putLink_5 : decode cX5_putLink 5 = .ok (.iadd, 1) := by decide +kernel
theorem dX5_putLink_6 : decode cX5_putLink 6 = .ok (.iload_n 3, 1) := by decide +kernel
theorem dX5_putLink_7 : decode cX5_putLink 7 = .ok (.invokevirtual 79, 3) := by decide +kernel
theorem dX5_putLink_10 : decode cX5_putLink 10 = .ok (.return_, 1) := by decide +kernel
set_option maxRecDepth 20000 in
theorem ggX5_letterAt_X5_get : GoodIn wsX5_letterAt wsX5_get := goodIn_r _ [5, 6, 7, 8, 9, 10, 11, 12, 13, 14] (by decide +kernel) (by decide +kernel)
set_option maxRecDepth 20000 in
theorem gX5_letterAt_X5_get : GoodIn wsX5_letterAt (wsV RX5 76 RX5 yX5_get wsX5_get) := goodIn_app (goodIn_of _ (by decide +kernel)) ggX5_letterAt_X5_get
theorem dX5_letterAt_0 : decode cX5_letterAt 0 = .ok (.aload_n 0, 1) := by decide +kernel
theorem dX5_letterAt_1 : decode cX5_letterAt 1 = .ok (.iload_n 1, 1) := by decide +kernel
theorem dX5_letterAt_2 : decode cX5_letterAt 2 = .ok (.bipush 10, 2) := by decide +kernel
theorem dX5_letterAt_4 : decode cX5_letterAt 4 = .ok (.iload_n 2, 1) := by decide +kernel
theorem dX5_letterAt_5 : decode cX5_letterAt 5 = .ok (.bipush 8, 2) := by decide +kernel
theorem dX5_letterAt_7 : decode cX5_letterAt 7 = .ok (.imul, 1) := by decide +kernel
theorem dX5_letterAt_8 : decode cX5_letterAt 8 = .ok (.iadd, 1) := by decide +kernel
theorem dX5_letterAt_9 : decode cX5_letterAt 9 = .ok (.iload_n 3, 1) := by decide +kernel
theorem dX5_letterAt_10 : decode cX5_letterAt 10 = .ok (.iadd, 1) := by decide +kernel
theorem dX5_letterAt_11 : decode cX5_letterAt 11 = .ok (.invokevirtual 76, 3) := by decide +kernel
theorem dX5_letterAt_14 : decode cX5_letterAt 14 = .ok (.ireturn, 1) := by decide +kernel
set_option maxRecDepth 20000 in
theorem ggX5_putLetter_X1_isWell : GoodIn wsX5_putLetter wsX1_isWell := goodIn_r _ [4, 5, 6, 7, 8, 9, 10, 11] (by decide +kernel) (by decide +kernel)
set_option maxRecDepth 20000 in
theorem gX5_putLetter_X1_isWell : GoodIn wsX5_putLetter (va_wsS RX5 83 yX1_isWell wsX1_isWell) := goodIn_app (goodIn_of _ (by decide +kernel)) ggX5_putLetter_X1_isWell
set_option maxRecDepth 20000 in
theorem ggX5_putLetter_X5_set : GoodIn wsX5_putLetter wsX5_set := goodIn_r _ [16, 17, 28, 29, 30, 31, 32, 33, 34, 35] (by decide +kernel) (by decide +kernel)
set_option maxRecDepth 20000 in
theorem gX5_putLetter_X5_set : GoodIn wsX5_putLetter (wsV RX5 79 RX5 yX5_set wsX5_set) := goodIn_app (goodIn_of _ (by decide +kernel)) ggX5_putLetter_X5_set
set_option maxRecDepth 20000 in
theorem ggX5_putLetter_X5_get : GoodIn wsX5_putLetter wsX5_get := goodIn_r _ [21, 17, 28, 29, 30, 31, 32, 33, 34, 35] (by decide +kernel) (by decide +kernel)
set_option maxRecDepth 20000 in
theorem gX5_putLetter_X5_get : GoodIn wsX5_putLetter (wsV RX5 76 RX5 yX5_get wsX5_get) := goodIn_app (goodIn_of _ (by decide +kernel)) ggX5_putLetter_X5_get
set_option maxRecDepth 20000 in
theorem ggX5_putLetter_X5_isSure : GoodIn wsX5_putLetter wsX5_isSure := goodIn_r _ [24, 25, 26, 27] (by decide +kernel) (by decide +kernel)
set_option maxRecDepth 20000 in
theorem gX5_putLetter_X5_isSure : GoodIn wsX5_putLetter (va_wsS RX5 87 yX5_isSure wsX5_isSure) := goodIn_app (goodIn_of _ (by decide +kernel)) ggX5_putLetter_X5_isSure
theorem dX5_putLetter_0 : decode cX5_putLetter 0 = .ok (.bipush 10, 2) := by decide +kernel
theorem dX5_putLetter_2 : decode cX5_putLetter 2 = .ok (.iload_n 2, 1) := by decide +kernel
theorem dX5_putLetter_3 : decode cX5_putLetter 3 = .ok (.bipush 8, 2) := by decide +kernel
theorem dX5_putLetter_5 : decode cX5_putLetter 5 = .ok (.imul, 1) := by decide +kernel
theorem dX5_putLetter_6 : decode cX5_putLetter 6 = .ok (.iadd, 1) := by decide +kernel
theorem dX5_putLetter_7 : decode cX5_putLetter 7 = .ok (.iload_n 3, 1) := by decide +kernel
theorem dX5_putLetter_8 : decode cX5_putLetter 8 = .ok (.iadd, 1) := by decide +kernel
theorem dX5_putLetter_9 : decode cX5_putLetter 9 = .ok (.istore 5, 2) := by decide +kernel
theorem dX5_putLetter_11 : decode cX5_putLetter 11 = .ok (.iload 4, 2) := by decide +kernel
theorem dX5_putLetter_13 : decode cX5_putLetter 13 = .ok (.bipush 127, 2) := by decide +kernel
theorem dX5_putLetter_15 : decode cX5_putLetter 15 = .ok (.iand, 1) := by decide +kernel
theorem dX5_putLetter_16 : decode cX5_putLetter 16 = .ok (.istore 6, 2) := by decide +kernel
theorem dX5_putLetter_18 : decode cX5_putLetter 18 = .ok (.iload 4, 2) := by decide +kernel
theorem dX5_putLetter_20 : decode cX5_putLetter 20 = .ok (.invokestatic 83, 3) := by decide +kernel
theorem dX5_putLetter_23 : decode cX5_putLetter 23 = .ok (.ifCond .eq 15, 3) := by decide +kernel
theorem dX5_putLetter_26 : decode cX5_putLetter 26 = .ok (.aload_n 0, 1) := by decide +kernel
theorem dX5_putLetter_27 : decode cX5_putLetter 27 = .ok (.iload_n 1, 1) := by decide +kernel
theorem dX5_putLetter_28 : decode cX5_putLetter 28 = .ok (.iload 5, 2) := by decide +kernel
theorem dX5_putLetter_30 : decode cX5_putLetter 30 = .ok (.iload 6, 2) := by decide +kernel
theorem dX5_putLetter_32 : decode cX5_putLetter 32 = .ok (.invokevirtual 79, 3) := by decide +kernel
theorem dX5_putLetter_35 : decode cX5_putLetter 35 = .ok (.goto 29, 3) := by decide +kernel
theorem dX5_putLetter_38 : decode cX5_putLetter 38 = .ok (.aload_n 0, 1) := by decide +kernel
theorem dX5_putLetter_39 : decode cX5_putLetter 39 = .ok (.iload_n 1, 1) := by decide +kernel
theorem dX5_putLetter_40 : decode cX5_putLetter 40 = .ok (.iload 5, 2) := by decide +kernel
theorem dX5_putLetter_42 : decode cX5_putLetter 42 = .ok (.invokevirtual 76, 3) := by decide +kernel
theorem dX5_putLetter_45 : decode cX5_putLetter 45 = .ok (.invokestatic 87, 3) := by decide +kernel
theorem dX5_putLetter_48 : decode cX5_putLetter 48 = .ok (.ifCond .ne 16, 3) := by decide +kernel
theorem dX5_putLetter_51 : decode cX5_putLetter 51 = .ok (.aload_n 0, 1) := by decide +kernel
theorem dX5_putLetter_52 : decode cX5_putLetter 52 = .ok (.iload_n 1, 1) := by decide +kernel
theorem dX5_putLetter_53 : decode cX5_putLetter 53 = .ok (.iload 5, 2) := by decide +kernel
theorem dX5_putLetter_55 : decode cX5_putLetter 55 = .ok (.iload 6, 2) := by decide +kernel
theorem dX5_putLetter_57 : decode cX5_putLetter 57 = .ok (.sipush 128, 3) := by decide +kernel
theorem dX5_putLetter_60 : decode cX5_putLetter 60 = .ok (.iadd, 1) := by decide +kernel
theorem dX5_putLetter_61 : decode cX5_putLetter 61 = .ok (.invokevirtual 79, 3) := by decide +kernel
theorem dX5_putLetter_64 : decode cX5_putLetter 64 = .ok (.return_, 1) := by decide +kernel
set_option maxRecDepth 20000 in
theorem ggX5_isSure_X7_isWithin : GoodIn wsX5_isSure wsX7_isWithin := goodIn_r _ [3] (by decide +kernel) (by decide +kernel)
set_option maxRecDepth 20000 in
theorem gX5_isSure_X7_isWithin_n72 : GoodIn wsX5_isSure (wsX7_isWithin) := ggX5_isSure_X7_isWithin
theorem dX5_isSure_0 : decode cX5_isSure 0 = .ok (.iload_n 0, 1) := by decide +kernel
theorem dX5_isSure_1 : decode cX5_isSure 1 = .ok (.iconst 0, 1) := by decide +kernel
theorem dX5_isSure_2 : decode cX5_isSure 2 = .ok (.bipush 127, 2) := by decide +kernel
theorem dX5_isSure_4 : decode cX5_isSure 4 = .ok (.invokestatic 72, 3) := by decide +kernel
theorem dX5_isSure_7 : decode cX5_isSure 7 = .ok (.ireturn, 1) := by decide +kernel
set_option maxRecDepth 20000 in
theorem ggX5_clear_J7_fill_fda19 : GoodIn wsX5_clear wsJ7_fill_fda19 := goodIn_r _ [5, 6, 7, 4, 8] (by decide +kernel) (by decide +kernel)
set_option maxRecDepth 20000 in
theorem gX5_clear_J7_fill_fda19 : GoodIn wsX5_clear (va_wsS RX5 90 yJ7_fill_fda19 wsJ7_fill_fda19) := goodIn_app (goodIn_of _ (by decide +kernel)) ggX5_clear_J7_fill_fda19
theorem dX5_clear_0 : decode cX5_clear 0 = .ok (.iload_n 1, 1) := by decide +kernel
theorem dX5_clear_1 : decode cX5_clear 1 = .ok (.ifCond .lt 30, 3) := by decide +kernel
theorem dX5_clear_4 : decode cX5_clear 4 = .ok (.iload_n 1, 1) := by decide +kernel
theorem dX5_clear_5 : decode cX5_clear 5 = .ok (.bipush 10, 2) := by decide +kernel
theorem dX5_clear_7 : decode cX5_clear 7 = .ok (.if_icmp .ge 24, 3) := by decide +kernel
theorem dX5_clear_10 : decode cX5_clear 10 = .ok (.aload_n 0, 1) := by decide +kernel
theorem dX5_clear_11 : decode cX5_clear 11 = .ok (.getfield 11, 3) := by decide +kernel
theorem dX5_clear_14 : decode cX5_clear 14 = .ok (.iload_n 1, 1) := by decide +kernel
theorem dX5_clear_15 : decode cX5_clear 15 = .ok (.bipush 50, 2) := by decide +kernel
theorem dX5_clear_17 : decode cX5_clear 17 = .ok (.imul, 1) := by decide +kernel
theorem dX5_clear_18 : decode cX5_clear 18 = .ok (.bipush 6, 2) := by decide +kernel
theorem dX5_clear_20 : decode cX5_clear 20 = .ok (.iadd, 1) := by decide +kernel
theorem dX5_clear_21 : decode cX5_clear 21 = .ok (.iload_n 1, 1) := by decide +kernel
theorem dX5_clear_22 : decode cX5_clear 22 = .ok (.iconst 1, 1) := by decide +kernel
theorem dX5_clear_23 : decode cX5_clear 23 = .ok (.iadd, 1) := by decide +kernel
theorem dX5_clear_24 : decode cX5_clear 24 = .ok (.bipush 50, 2) := by decide +kernel
theorem dX5_clear_26 : decode cX5_clear 26 = .ok (.imul, 1) := by decide +kernel
theorem dX5_clear_27 : decode cX5_clear 27 = .ok (.iconst (-1), 1) := by decide +kernel
theorem dX5_clear_28 : decode cX5_clear 28 = .ok (.invokestatic 90, 3) := by decide +kernel
theorem dX5_clear_31 : decode cX5_clear 31 = .ok (.return_, 1) := by decide +kernel
set_option maxRecDepth 20000 in
theorem ggX5_search_X5_get : GoodIn wsX5_search wsX5_get := goodIn_r _ [6, 7, 8, 9, 10, 11, 12, 13, 14, 15] (by decide +kernel) (by decide +kernel)
set_option maxRecDepth 20000 in
theorem gX5_search_X5_get : GoodIn wsX5_search (wsV RX5 76 RX5 yX5_get wsX5_get) := goodIn_app (goodIn_of _ (by decide +kernel)) ggX5_search_X5_get
theorem dX5_search_0 : decode cX5_search 0 = .ok (.iconst 0, 1) := by decide +kernel
theorem dX5_search_1 : decode cX5_search 1 = .ok (.istore 4, 2) := by decide +kernel
theorem dX5_search_3 : decode cX5_search 3 = .ok (.iload 4, 2) := by decide +kernel
theorem dX5_search_5 : decode cX5_search 5 = .ok (.aload_n 0, 1) := by decide +kernel
theorem dX5_search_6 : decode cX5_search 6 = .ok (.getfield 24, 3) := by decide +kernel
theorem dX5_search_9 : decode cX5_search 9 = .ok (.if_icmp .ge 45, 3) := by decide +kernel
theorem dX5_search_12 : decode cX5_search 12 = .ok (.aload_n 0, 1) := by decide +kernel
theorem dX5_search_13 : decode cX5_search 13 = .ok (.iload 4, 2) := by decide +kernel
theorem dX5_search_15 : decode cX5_search 15 = .ok (.iconst 0, 1) := by decide +kernel
theorem dX5_search_16 : decode cX5_search 16 = .ok (.invokevirtual 76, 3) := by decide +kernel
theorem dX5_search_19 : decode cX5_search 19 = .ok (.iload_n 1, 1) := by decide +kernel
theorem dX5_search_20 : decode cX5_search 20 = .ok (.if_icmp .ne 28, 3) := by decide +kernel
theorem dX5_search_23 : decode cX5_search 23 = .ok (.aload_n 0, 1) := by decide +kernel
theorem dX5_search_24 : decode cX5_search 24 = .ok (.iload 4, 2) := by decide +kernel
theorem dX5_search_26 : decode cX5_search 26 = .ok (.iconst 1, 1) := by decide +kernel
theorem dX5_search_27 : decode cX5_search 27 = .ok (.invokevirtual 76, 3) := by decide +kernel
theorem dX5_search_30 : decode cX5_search 30 = .ok (.iload_n 2, 1) := by decide +kernel
theorem dX5_search_31 : decode cX5_search 31 = .ok (.if_icmp .ne 17, 3) := by decide +kernel
theorem dX5_search_34 : decode cX5_search 34 = .ok (.aload_n 0, 1) := by decide +kernel
theorem dX5_search_35 : decode cX5_search 35 = .ok (.iload 4, 2) := by decide +kernel
theorem dX5_search_37 : decode cX5_search 37 = .ok (.iconst 2, 1) := by decide +kernel
theorem dX5_search_38 : decode cX5_search 38 = .ok (.invokevirtual 76, 3) := by decide +kernel
theorem dX5_search_41 : decode cX5_search 41 = .ok (.iload_n 3, 1) := by decide +kernel
theorem dX5_search_42 : decode cX5_search 42 = .ok (.if_icmp .ne 6, 3) := by decide +kernel
theorem dX5_search_45 : decode cX5_search 45 = .ok (.iload 4, 2) := by decide +kernel
theorem dX5_search_47 : decode cX5_search 47 = .ok (.ireturn, 1) := by decide +kernel
theorem dX5_search_48 : decode cX5_search 48 = .ok (.iinc 4 1, 3) := by decide +kernel
theorem dX5_search_51 : decode cX5_search 51 = .ok (.goto (-48), 3) := by decide +kernel
theorem dX5_search_54 : decode cX5_search 54 = .ok (.iconst (-1), 1) := by decide +kernel
theorem dX5_search_55 : decode cX5_search 55 = .ok (.ireturn, 1) := by decide +kernel
set_option maxRecDepth 20000 in
theorem ggX5_openPage_X5_search : GoodIn wsX5_openPage wsX5_search := goodIn_r _ [12, 1, 13, 14, 15, 11, 16, 17, 52, 53, 54, 55, 56, 57, 58, 59] (by decide +kernel) (by decide +kernel)
set_option maxRecDepth 20000 in
theorem gX5_openPage_X5_search : GoodIn wsX5_openPage (wsV RX5 93 RX5 yX5_search wsX5_search) := goodIn_app (goodIn_of _ (by decide +kernel)) ggX5_openPage_X5_search
set_option maxRecDepth 20000 in
theorem ggX5_openPage_X5_longestAgo : GoodIn wsX5_openPage wsX5_longestAgo := goodIn_r _ [21, 1, 13, 14, 15, 11, 16, 17, 52, 53, 54, 55, 56, 57, 58, 59] (by decide +kernel) (by decide +kernel)
set_option maxRecDepth 20000 in
theorem gX5_openPage_X5_longestAgo : GoodIn wsX5_openPage (wsV RX5 97 RX5 yX5_longestAgo wsX5_longestAgo) := goodIn_app (goodIn_of _ (by decide +kernel)) ggX5_openPage_X5_longestAgo
set_option maxRecDepth 20000 in
theorem ggX5_openPage_X5_remove : GoodIn wsX5_openPage wsX5_remove := goodIn_r _ [25, 1, 17, 26, 27, 28, 29, 7, 52, 53, 54, 55, 56, 57, 58, 59] (by decide +kernel) (by decide +kernel)
set_option maxRecDepth 20000 in
theorem gX5_openPage_X5_remove : GoodIn wsX5_openPage (wsV RX5 101 RX5 yX5_remove wsX5_remove) := goodIn_app (goodIn_of _ (by decide +kernel)) ggX5_openPage_X5_remove
set_option maxRecDepth 20000 in
theorem ggX5_openPage_X5_append : GoodIn wsX5_openPage wsX5_append := goodIn_r _ [33, 1, 34, 35, 36, 11, 37, 17, 52, 53, 54, 55, 56, 57, 58, 59] (by decide +kernel) (by decide +kernel)
set_option maxRecDepth 20000 in
theorem gX5_openPage_X5_append : GoodIn wsX5_openPage (wsV RX5 105 RX5 yX5_append wsX5_append) := goodIn_app (goodIn_of _ (by decide +kernel)) ggX5_openPage_X5_append
set_option maxRecDepth 20000 in
theorem ggX5_openPage_X5_clear : GoodIn wsX5_openPage wsX5_clear := goodIn_r _ [41, 17, 42, 43, 44, 45, 46, 47, 48, 52, 53, 54, 55, 56, 57, 58, 59] (by decide +kernel) (by decide +kernel)
set_option maxRecDepth 20000 in
theorem gX5_openPage_X5_clear : GoodIn wsX5_openPage (wsV RX5 108 RX5 yX5_clear wsX5_clear) := goodIn_app (goodIn_of _ (by decide +kernel)) ggX5_openPage_X5_clear
set_option maxRecDepth 20000 in
theorem ggX5_openPage_X5_set : GoodIn wsX5_openPage wsX5_set := goodIn_r _ [37, 17, 52, 53, 54, 55, 56, 57, 58, 59] (by decide +kernel) (by decide +kernel)
set_option maxRecDepth 20000 in
theorem gX5_openPage_X5_set : GoodIn wsX5_openPage (wsV RX5 79 RX5 yX5_set wsX5_set) := goodIn_app (goodIn_of _ (by decide +kernel)) ggX5_openPage_X5_set
set_option maxRecDepth 20000 in
theorem ggX5_openPage_X5_get : GoodIn wsX5_openPage wsX5_get := goodIn_r _ [16, 17, 52, 53, 54, 55, 56, 57, 58, 59] (by decide +kernel) (by decide +kernel)
set_option maxRecDepth 20000 in
theorem gX5_openPage_X5_get : GoodIn wsX5_openPage (wsV RX5 76 RX5 yX5_get wsX5_get) := goodIn_app (goodIn_of _ (by decide +kernel)) ggX5_openPage_X5_get
set_option maxRecDepth 20000 in
theorem ggX5_openPage_X7_isWithin : GoodIn wsX5_openPage wsX7_isWithin := goodIn_r _ [51] (by decide +kernel) (by decide +kernel)
set_option maxRecDepth 20000 in
theorem gX5_openPage_X7_isWithin_n72 : GoodIn wsX5_openPage (wsX7_isWithin) := ggX5_openPage_X7_isWithin
theorem dX5_openPage_0 : decode cX5_openPage 0 = .ok (.aload_n 0, 1) := by decide +kernel
theorem dX5_openPage_1 : decode cX5_openPage 1 = .ok (.iload_n 1, 1) := by decide +kernel
theorem dX5_openPage_2 : decode cX5_openPage 2 = .ok (.iload_n 2, 1) := by decide +kernel
theorem dX5_openPage_3 : decode cX5_openPage 3 = .ok (.iload_n 3, 1) := by decide +kernel
theorem dX5_openPage_4 : decode cX5_openPage 4 = .ok (.invokevirtual 93, 3) := by decide +kernel
theorem dX5_openPage_7 : decode cX5_openPage 7 = .ok (.istore 4, 2) := by decide +kernel
theorem dX5_openPage_9 : decode cX5_openPage 9 = .ok (.iload 4, 2) := by decide +kernel
theorem dX5_openPage_11 : decode cX5_openPage 11 = .ok (.iconst (-1), 1) := by decide +kernel
theorem dX5_openPage_12 : decode cX5_openPage 12 = .ok (.if_icmp .ne 35, 3) := by decide +kernel
theorem dX5_openPage_15 : decode cX5_openPage 15 = .ok (.aload_n 0, 1) := by decide +kernel
theorem dX5_openPage_16 : decode cX5_openPage 16 = .ok (.getfield 24, 3) := by decide +kernel
theorem dX5_openPage_19 : decode cX5_openPage 19 = .ok (.bipush 10, 2) := by decide +kernel
theorem dX5_openPage_21 : decode cX5_openPage 21 = .ok (.if_icmp .lt 11, 3) := by decide +kernel
theorem dX5_openPage_24 : decode cX5_openPage 24 = .ok (.aload_n 0, 1) := by decide +kernel
theorem dX5_openPage_25 : decode cX5_openPage 25 = .ok (.aload_n 0, 1) := by decide +kernel
theorem dX5_openPage_26 : decode cX5_openPage 26 = .ok (.invokevirtual 97, 3) := by decide +kernel
theorem dX5_openPage_29 : decode cX5_openPage 29 = .ok (.invokevirtual 101, 3) := by decide +kernel
theorem dX5_openPage_32 : decode cX5_openPage 32 = .ok (.aload_n 0, 1) := by decide +kernel
theorem dX5_openPage_33 : decode cX5_openPage 33 = .ok (.iload_n 1, 1) := by decide +kernel
theorem dX5_openPage_34 : decode cX5_openPage 34 = .ok (.iload_n 2, 1) := by decide +kernel
theorem dX5_openPage_35 : decode cX5_openPage 35 = .ok (.iload_n 3, 1) := by decide +kernel
theorem dX5_openPage_36 : decode cX5_openPage 36 = .ok (.invokevirtual 105, 3) := by decide +kernel
theorem dX5_openPage_39 : decode cX5_openPage 39 = .ok (.istore 4, 2) := by decide +kernel
theorem dX5_openPage_41 : decode cX5_openPage 41 = .ok (.aload_n 0, 1) := by decide +kernel
theorem dX5_openPage_42 : decode cX5_openPage 42 = .ok (.iload 4, 2) := by decide +kernel
theorem dX5_openPage_44 : decode cX5_openPage 44 = .ok (.invokevirtual 108, 3) := by decide +kernel
theorem dX5_openPage_47 : decode cX5_openPage 47 = .ok (.aload_n 0, 1) := by decide +kernel
theorem dX5_openPage_48 : decode cX5_openPage 48 = .ok (.dup, 1) := by decide +kernel
theorem dX5_openPage_49 : decode cX5_openPage 49 = .ok (.getfield 43, 3) := by decide +kernel
theorem dX5_openPage_52 : decode cX5_openPage 52 = .ok (.iconst 1, 1) := by decide +kernel
theorem dX5_openPage_53 : decode cX5_openPage 53 = .ok (.iadd, 1) := by decide +kernel
theorem dX5_openPage_54 : decode cX5_openPage 54 = .ok (.putfield 43, 3) := by decide +kernel
theorem dX5_openPage_57 : decode cX5_openPage 57 = .ok (.aload_n 0, 1) := by decide +kernel
theorem dX5_openPage_58 : decode cX5_openPage 58 = .ok (.iload 4, 2) := by decide +kernel
theorem dX5_openPage_60 : decode cX5_openPage 60 = .ok (.iconst 5, 1) := by decide +kernel
theorem dX5_openPage_61 : decode cX5_openPage 61 = .ok (.aload_n 0, 1) := by decide +kernel
theorem dX5_openPage_62 : decode cX5_openPage 62 = .ok (.getfield 43, 3) := by decide +kernel
theorem dX5_openPage_65 : decode cX5_openPage 65 = .ok (.invokevirtual 79, 3) := by decide +kernel
theorem dX5_openPage_68 : decode cX5_openPage 68 = .ok (.aload_n 0, 1) := by decide +kernel
theorem dX5_openPage_69 : decode cX5_openPage 69 = .ok (.iload 4, 2) := by decide +kernel
theorem dX5_openPage_71 : decode cX5_openPage 71 = .ok (.iconst 3, 1) := by decide +kernel
theorem dX5_openPage_72 : decode cX5_openPage 72 = .ok (.aload_n 0, 1) := by decide +kernel
theorem dX5_openPage_73 : decode cX5_openPage 73 = .ok (.iload 4, 2) := by decide +kernel
theorem dX5_openPage_75 : decode cX5_openPage 75 = .ok (.iconst 3, 1) := by decide +kernel
theorem dX5_openPage_76 : decode cX5_openPage 76 = .ok (.invokevirtual 76, 3) := by decide +kernel
theorem dX5_openPage_79 : decode cX5_openPage 79 = .ok (.iconst 1, 1) := by decide +kernel
theorem dX5_openPage_80 : decode cX5_openPage 80 = .ok (.iadd, 1) := by decide +kernel
theorem dX5_openPage_81 : decode cX5_openPage 81 = .ok (.sipush 9999, 3) := by decide +kernel
theorem dX5_openPage_84 : decode cX5_openPage 84 = .ok (.invokestatic 111, 3) := by decide +kernel
theorem dX5_openPage_87 : decode cX5_openPage 87 = .ok (.invokevirtual 79, 3) := by decide +kernel
theorem dX5_openPage_90 : decode cX5_openPage 90 = .ok (.iload_n 1, 1) := by decide +kernel
theorem dX5_openPage_91 : decode cX5_openPage 91 = .ok (.iconst 0, 1) := by decide +kernel
theorem dX5_openPage_92 : decode cX5_openPage 92 = .ok (.iconst 3, 1) := by decide +kernel
theorem dX5_openPage_93 : decode cX5_openPage 93 = .ok (.invokestatic 72, 3) := by decide +kernel
theorem dX5_openPage_96 : decode cX5_openPage 96 = .ok (.ifCond .eq 11, 3) := by decide +kernel
theorem dX5_openPage_99 : decode cX5_openPage 99 = .ok (.aload_n 0, 1) := by decide +kernel
theorem dX5_openPage_100 : decode cX5_openPage 100 = .ok (.getfield 15, 3) := by decide +kernel
theorem dX5_openPage_103 : decode cX5_openPage 103 = .ok (.iload_n 1, 1) := by decide +kernel
theorem dX5_openPage_104 : decode cX5_openPage 104 = .ok (.iload 4, 2) := by decide +kernel
theorem dX5_openPage_106 : decode cX5_openPage 106 = .ok (.iastore, 1) := by decide +kernel
theorem dX5_openPage_107 : decode cX5_openPage 107 = .ok (.iload 4, 2) := by decide +kernel
theorem dX5_openPage_109 : decode cX5_openPage 109 = .ok (.ireturn, 1) := by decide +kernel
set_option maxRecDepth 20000 in
theorem ggX5_append_X5_set : GoodIn wsX5_append wsX5_set := goodIn_r _ [6, 7, 8, 9, 10, 11, 12, 13, 14, 15] (by decide +kernel) (by decide +kernel)
set_option maxRecDepth 20000 in
theorem gX5_append_X5_set : GoodIn wsX5_append (wsV RX5 79 RX5 yX5_set wsX5_set) := goodIn_app (goodIn_of _ (by decide +kernel)) ggX5_append_X5_set
theorem dX5_append_0 : decode cX5_append 0 = .ok (.aload_n 0, 1) := by decide +kernel
theorem dX5_append_1 : decode cX5_append 1 = .ok (.getfield 24, 3) := by decide +kernel
theorem dX5_append_4 : decode cX5_append 4 = .ok (.istore 4, 2) := by decide +kernel
theorem dX5_append_6 : decode cX5_append 6 = .ok (.aload_n 0, 1) := by decide +kernel
theorem dX5_append_7 : decode cX5_append 7 = .ok (.dup, 1) := by decide +kernel
theorem dX5_append_8 : decode cX5_append 8 = .ok (.getfield 24, 3) := by decide +kernel
theorem dX5_append_11 : decode cX5_append 11 = .ok (.iconst 1, 1) := by decide +kernel
theorem dX5_append_12 : decode cX5_append 12 = .ok (.iadd, 1) := by decide +kernel
theorem dX5_append_13 : decode cX5_append 13 = .ok (.putfield 24, 3) := by decide +kernel
theorem dX5_append_16 : decode cX5_append 16 = .ok (.aload_n 0, 1) := by decide +kernel
theorem dX5_append_17 : decode cX5_append 17 = .ok (.iload 4, 2) := by decide +kernel
theorem dX5_append_19 : decode cX5_append 19 = .ok (.iconst 0, 1) := by decide +kernel
theorem dX5_append_20 : decode cX5_append 20 = .ok (.iload_n 1, 1) := by decide +kernel
theorem dX5_append_21 : decode cX5_append 21 = .ok (.invokevirtual 79, 3) := by decide +kernel
theorem dX5_append_24 : decode cX5_append 24 = .ok (.aload_n 0, 1) := by decide +kernel
theorem dX5_append_25 : decode cX5_append 25 = .ok (.iload 4, 2) := by decide +kernel
theorem dX5_append_27 : decode cX5_append 27 = .ok (.iconst 1, 1) := by decide +kernel
theorem dX5_append_28 : decode cX5_append 28 = .ok (.iload_n 2, 1) := by decide +kernel
theorem dX5_append_29 : decode cX5_append 29 = .ok (.invokevirtual 79, 3) := by decide +kernel
theorem dX5_append_32 : decode cX5_append 32 = .ok (.aload_n 0, 1) := by decide +kernel
theorem dX5_append_33 : decode cX5_append 33 = .ok (.iload 4, 2) := by decide +kernel
theorem dX5_append_35 : decode cX5_append 35 = .ok (.iconst 2, 1) := by decide +kernel
theorem dX5_append_36 : decode cX5_append 36 = .ok (.iload_n 3, 1) := by decide +kernel
theorem dX5_append_37 : decode cX5_append 37 = .ok (.invokevirtual 79, 3) := by decide +kernel
theorem dX5_append_40 : decode cX5_append 40 = .ok (.aload_n 0, 1) := by decide +kernel
theorem dX5_append_41 : decode cX5_append 41 = .ok (.iload 4, 2) := by decide +kernel
theorem dX5_append_43 : decode cX5_append 43 = .ok (.iconst 3, 1) := by decide +kernel
theorem dX5_append_44 : decode cX5_append 44 = .ok (.iconst 0, 1) := by decide +kernel
theorem dX5_append_45 : decode cX5_append 45 = .ok (.invokevirtual 79, 3) := by decide +kernel
theorem dX5_append_48 : decode cX5_append 48 = .ok (.aload_n 0, 1) := by decide +kernel
theorem dX5_append_49 : decode cX5_append 49 = .ok (.iload 4, 2) := by decide +kernel
theorem dX5_append_51 : decode cX5_append 51 = .ok (.iconst 4, 1) := by decide +kernel
theorem dX5_append_52 : decode cX5_append 52 = .ok (.iconst 1, 1) := by decide +kernel
theorem dX5_append_53 : decode cX5_append 53 = .ok (.invokevirtual 79, 3) := by decide +kernel
theorem dX5_append_56 : decode cX5_append 56 = .ok (.iload 4, 2) := by decide +kernel
theorem dX5_append_58 : decode cX5_append 58 = .ok (.ireturn, 1) := by decide +kernel
theorem dX5_remove_0 : decode cX5_remove 0 = .ok (.iload_n 1, 1) := by decide +kernel
theorem dX5_remove_1 : decode cX5_remove 1 = .ok (.ifCond .lt 11, 3) := by decide +kernel
theorem dX5_remove_4 : decode cX5_remove 4 = .ok (.iload_n 1, 1) := by decide +kernel
theorem dX5_remove_5 : decode cX5_remove 5 = .ok (.aload_n 0, 1) := by decide +kernel
theorem dX5_remove_6 : decode cX5_remove 6 = .ok (.getfield 24, 3) := by decide +kernel
theorem dX5_remove_9 : decode cX5_remove 9 = .ok (.if_icmp .lt 4, 3) := by decide +kernel
theorem dX5_remove_12 : decode cX5_remove 12 = .ok (.return_, 1) := by decide +kernel
theorem dX5_remove_13 : decode cX5_remove 13 = .ok (.aload_n 0, 1) := by decide +kernel
theorem dX5_remove_14 : decode cX5_remove 14 = .ok (.getfield 11, 3) := by decide +kernel
theorem dX5_remove_17 : decode cX5_remove 17 = .ok (.iload_n 1, 1) := by decide +kernel
theorem dX5_remove_18 : decode cX5_remove 18 = .ok (.iconst 1, 1) := by decide +kernel
theorem dX5_remove_19 : decode cX5_remove 19 = .ok (.iadd, 1) := by decide +kernel
theorem dX5_remove_20 : decode cX5_remove 20 = .ok (.bipush 50, 2) := by decide +kernel
theorem dX5_remove_22 : decode cX5_remove 22 = .ok (.imul, 1) := by decide +kernel
theorem dX5_remove_23 : decode cX5_remove 23 = .ok (.aload_n 0, 1) := by decide +kernel
theorem dX5_remove_24 : decode cX5_remove 24 = .ok (.getfield 11, 3) := by decide +kernel
theorem dX5_remove_27 : decode cX5_remove 27 = .ok (.iload_n 1, 1) := by decide +kernel
theorem dX5_remove_28 : decode cX5_remove 28 = .ok (.bipush 50, 2) := by decide +kernel
theorem dX5_remove_30 : decode cX5_remove 30 = .ok (.imul, 1) := by decide +kernel
theorem dX5_remove_31 : decode cX5_remove 31 = .ok (.aload_n 0, 1) := by decide +kernel
theorem dX5_remove_32 : decode cX5_remove 32 = .ok (.getfield 24, 3) := by decide +kernel
theorem dX5_remove_35 : decode cX5_remove 35 = .ok (.iconst 1, 1) := by decide +kernel
theorem dX5_remove_36 : decode cX5_remove 36 = .ok (.isub, 1) := by decide +kernel
theorem dX5_remove_37 : decode cX5_remove 37 = .ok (.iload_n 1, 1) := by decide +kernel
theorem dX5_remove_38 : decode cX5_remove 38 = .ok (.isub, 1) := by decide +kernel
theorem dX5_remove_39 : decode cX5_remove 39 = .ok (.bipush 50, 2) := by decide +kernel
theorem dX5_remove_41 : decode cX5_remove 41 = .ok (.imul, 1) := by decide +kernel
theorem dX5_remove_42 : decode cX5_remove 42 = .ok (.invokestatic 28, 3) := by decide +kernel
theorem dX5_remove_45 : decode cX5_remove 45 = .ok (.aload_n 0, 1) := by decide +kernel
theorem dX5_remove_46 : decode cX5_remove 46 = .ok (.dup, 1) := by decide +kernel
theorem dX5_remove_47 : decode cX5_remove 47 = .ok (.getfield 24, 3) := by decide +kernel
theorem dX5_remove_50 : decode cX5_remove 50 = .ok (.iconst 1, 1) := by decide +kernel
theorem dX5_remove_51 : decode cX5_remove 51 = .ok (.isub, 1) := by decide +kernel
theorem dX5_remove_52 : decode cX5_remove 52 = .ok (.putfield 24, 3) := by decide +kernel
theorem dX5_remove_55 : decode cX5_remove 55 = .ok (.iconst 0, 1) := by decide +kernel
theorem dX5_remove_56 : decode cX5_remove 56 = .ok (.istore_n 2, 1) := by decide +kernel
theorem dX5_remove_57 : decode cX5_remove 57 = .ok (.iload_n 2, 1) := by decide +kernel
theorem dX5_remove_58 : decode cX5_remove 58 = .ok (.iconst 4, 1) := by decide +kernel
theorem dX5_remove_59 : decode cX5_remove 59 = .ok (.if_icmp .ge 49, 3) := by decide +kernel
theorem dX5_remove_62 : decode cX5_remove 62 = .ok (.aload_n 0, 1) := by decide +kernel
theorem dX5_remove_63 : decode cX5_remove 63 = .ok (.getfield 15, 3) := by decide +kernel
theorem dX5_remove_66 : decode cX5_remove 66 = .ok (.iload_n 2, 1) := by decide +kernel
theorem dX5_remove_67 : decode cX5_remove 67 = .ok (.iaload, 1) := by decide +kernel
theorem dX5_remove_68 : decode cX5_remove 68 = .ok (.iload_n 1, 1) := by decide +kernel
theorem dX5_remove_69 : decode cX5_remove 69 = .ok (.if_icmp .ne 13, 3) := by decide +kernel
theorem dX5_remove_72 : decode cX5_remove 72 = .ok (.aload_n 0, 1) := by decide +kernel
theorem dX5_remove_73 : decode cX5_remove 73 = .ok (.getfield 15, 3) := by decide +kernel
theorem dX5_remove_76 : decode cX5_remove 76 = .ok (.iload_n 2, 1) := by decide +kernel
theorem dX5_remove_77 : decode cX5_remove 77 = .ok (.iconst (-1), 1) := by decide +kernel
theorem dX5_remove_78 : decode cX5_remove 78 = .ok (.iastore, 1) := by decide +kernel
theorem dX5_remove_79 : decode cX5_remove 79 = .ok (.goto 23, 3) := by decide +kernel
theorem dX5_remove_82 : decode cX5_remove 82 = .ok (.aload_n 0, 1) := by decide +kernel
theorem dX5_remove_83 : decode cX5_remove 83 = .ok (.getfield 15, 3) := by decide +kernel
theorem dX5_remove_86 : decode cX5_remove 86 = .ok (.iload_n 2, 1) := by decide +kernel
theorem dX5_remove_87 : decode cX5_remove 87 = .ok (.iaload, 1) := by decide +kernel
theorem dX5_remove_88 : decode cX5_remove 88 = .ok (.iload_n 1, 1) := by decide +kernel
theorem dX5_remove_89 : decode cX5_remove 89 = .ok (.if_icmp .le 13, 3) := by decide +kernel
theorem dX5_remove_92 : decode cX5_remove 92 = .ok (.aload_n 0, 1) := by decide +kernel
theorem dX5_remove_93 : decode cX5_remove 93 = .ok (.getfield 15, 3) := by decide +kernel
theorem dX5_remove_96 : decode cX5_remove 96 = .ok (.iload_n 2, 1) := by decide +kernel
theorem dX5_remove_97 : decode cX5_remove 97 = .ok (.dup2, 1) := by decide +kernel
theorem dX5_remove_98 : decode cX5_remove 98 = .ok (.iaload, 1) := by decide +kernel
theorem dX5_remove_99 : decode cX5_remove 99 = .ok (.iconst 1, 1) := by decide +kernel
theorem dX5_remove_100 : decode cX5_remove 100 = .ok (.isub, 1) := by decide +kernel
theorem dX5_remove_101 : decode cX5_remove 101 = .ok (.iastore, 1) := by decide +kernel
theorem dX5_remove_102 : decode cX5_remove 102 = .ok (.iinc 2 1, 3) := by decide +kernel
theorem dX5_remove_105 : decode cX5_remove 105 = .ok (.goto (-48), 3) := by decide +kernel
theorem dX5_remove_108 : decode cX5_remove 108 = .ok (.return_, 1) := by decide +kernel
set_option maxRecDepth 20000 in
theorem ggX5_longestAgo_X5_get : GoodIn wsX5_longestAgo wsX5_get := goodIn_r _ [6, 7, 8, 9, 10, 11, 12, 13, 14, 15] (by decide +kernel) (by decide +kernel)
set_option maxRecDepth 20000 in
theorem gX5_longestAgo_X5_get : GoodIn wsX5_longestAgo (wsV RX5 76 RX5 yX5_get wsX5_get) := goodIn_app (goodIn_of _ (by decide +kernel)) ggX5_longestAgo_X5_get
theorem dX5_longestAgo_0 : decode cX5_longestAgo 0 = .ok (.iconst 0, 1) := by decide +kernel
theorem dX5_longestAgo_1 : decode cX5_longestAgo 1 = .ok (.istore_n 1, 1) := by decide +kernel
theorem dX5_longestAgo_2 : decode cX5_longestAgo 2 = .ok (.iconst 1, 1) := by decide +kernel
theorem dX5_longestAgo_3 : decode cX5_longestAgo 3 = .ok (.istore_n 2, 1) := by decide +kernel
theorem dX5_longestAgo_4 : decode cX5_longestAgo 4 = .ok (.iload_n 2, 1) := by decide +kernel
theorem dX5_longestAgo_5 : decode cX5_longestAgo 5 = .ok (.aload_n 0, 1) := by decide +kernel
theorem dX5_longestAgo_6 : decode cX5_longestAgo 6 = .ok (.getfield 24, 3) := by decide +kernel
theorem dX5_longestAgo_9 : decode cX5_longestAgo 9 = .ok (.if_icmp .ge 26, 3) := by decide +kernel
theorem dX5_longestAgo_12 : decode cX5_longestAgo 12 = .ok (.aload_n 0, 1) := by decide +kernel
theorem dX5_longestAgo_13 : decode cX5_longestAgo 13 = .ok (.iload_n 2, 1) := by decide +kernel
theorem dX5_longestAgo_14 : decode cX5_longestAgo 14 = .ok (.iconst 5, 1) := by decide +kernel
theorem dX5_longestAgo_15 : decode cX5_longestAgo 15 = .ok (.invokevirtual 76, 3) := by decide +kernel
theorem dX5_longestAgo_18 : decode cX5_longestAgo 18 = .ok (.aload_n 0, 1) := by decide +kernel
theorem dX5_longestAgo_19 : decode cX5_longestAgo 19 = .ok (.iload_n 1, 1) := by decide +kernel
theorem dX5_longestAgo_20 : decode cX5_longestAgo 20 = .ok (.iconst 5, 1) := by decide +kernel
theorem dX5_longestAgo_21 : decode cX5_longestAgo 21 = .ok (.invokevirtual 76, 3) := by decide +kernel
theorem dX5_longestAgo_24 : decode cX5_longestAgo 24 = .ok (.if_icmp .ge 5, 3) := by decide +kernel
theorem dX5_longestAgo_27 : decode cX5_longestAgo 27 = .ok (.iload_n 2, 1) := by decide +kernel
theorem dX5_longestAgo_28 : decode cX5_longestAgo 28 = .ok (.istore_n 1, 1) := by decide +kernel
theorem dX5_longestAgo_29 : decode cX5_longestAgo 29 = .ok (.iinc 2 1, 3) := by decide +kernel
theorem dX5_longestAgo_32 : decode cX5_longestAgo 32 = .ok (.goto (-28), 3) := by decide +kernel
theorem dX5_longestAgo_35 : decode cX5_longestAgo 35 = .ok (.iload_n 1, 1) := by decide +kernel
theorem dX5_longestAgo_36 : decode cX5_longestAgo 36 = .ok (.ireturn, 1) := by decide +kernel
set_option maxRecDepth 20000 in
theorem ggX6_init_X5_init : GoodIn wsX6_init wsX5_init := goodIn_r _ [10, 11, 2, 3, 12, 13, 14, 15, 16, 17, 18, 22, 23, 24, 25, 26, 27, 28, 29] (by decide +kernel) (by decide +kernel)
set_option maxRecDepth 20000 in
theorem gX6_init_X5_init : GoodIn wsX6_init (wsX5_init) := ggX6_init_X5_init
theorem dX6_init_0 : decode cX6_init 0 = .ok (.aload_n 0, 1) := by decide +kernel
theorem dX6_init_1 : decode cX6_init 1 = .ok (.invokespecial 3, 3) := by decide +kernel
theorem dX6_init_4 : decode cX6_init 4 = .ok (.aload_n 0, 1) := by decide +kernel
theorem dX6_init_5 : decode cX6_init 5 = .ok (.bipush 16, 2) := by decide +kernel
theorem dX6_init_7 : decode cX6_init 7 = .ok (.anewarray 9, 3) := by decide +kernel
theorem dX6_init_10 : decode cX6_init 10 = .ok (.putfield 11, 3) := by decide +kernel
theorem dX6_init_13 : decode cX6_init 13 = .ok (.iconst 0, 1) := by decide +kernel
theorem dX6_init_14 : decode cX6_init 14 = .ok (.istore_n 1, 1) := by decide +kernel
theorem dX6_init_15 : decode cX6_init 15 = .ok (.iload_n 1, 1) := by decide +kernel
theorem dX6_init_16 : decode cX6_init 16 = .ok (.bipush 16, 2) := by decide +kernel
theorem dX6_init_18 : decode cX6_init 18 = .ok (.if_icmp .ge 22, 3) := by decide +kernel
theorem dX6_init_21 : decode cX6_init 21 = .ok (.aload_n 0, 1) := by decide +kernel
theorem dX6_init_22 : decode cX6_init 22 = .ok (.getfield 11, 3) := by decide +kernel
theorem dX6_init_25 : decode cX6_init 25 = .ok (.iload_n 1, 1) := by decide +kernel
theorem dX6_init_26 : decode cX6_init 26 = .ok (.new 9, 3) := by decide +kernel
theorem dX6_init_29 : decode cX6_init 29 = .ok (.dup, 1) := by decide +kernel
theorem dX6_init_30 : decode cX6_init 30 = .ok (.invokespecial 17, 3) := by decide +kernel
theorem dX6_init_33 : decode cX6_init 33 = .ok (.aastore, 1) := by decide +kernel
theorem dX6_init_34 : decode cX6_init 34 = .ok (.iinc 1 1, 3) := by decide +kernel
theorem dX6_init_37 : decode cX6_init 37 = .ok (.goto (-22), 3) := by decide +kernel
theorem dX6_init_40 : decode cX6_init 40 = .ok (.return_, 1) := by decide +kernel
set_option maxRecDepth 20000 in
theorem ggX6_remember_X5_become : GoodIn wsX6_remember wsX5_become := goodIn_r _ [12, 13, 14, 15, 16, 17, 18, 19, 20, 21, 22, 23, 27, 28, 29, 30, 31, 32, 33, 34] (by decide +kernel) (by decide +kernel)
set_option maxRecDepth 20000 in
theorem gX6_remember_X5_become : GoodIn wsX6_remember (wsV RX6 22 RX5 yX5_become wsX5_become) := goodIn_app (goodIn_of _ (by decide +kernel)) ggX6_remember_X5_become
theorem dX6_remember_0 : decode cX6_remember 0 = .ok (.aload_n 0, 1) := by decide +kernel
theorem dX6_remember_1 : decode cX6_remember 1 = .ok (.getfield 11, 3) := by decide +kernel
theorem dX6_remember_4 : decode cX6_remember 4 = .ok (.aload_n 0, 1) := by decide +kernel
theorem dX6_remember_5 : decode cX6_remember 5 = .ok (.getfield 18, 3) := by decide +kernel
theorem dX6_remember_8 : decode cX6_remember 8 = .ok (.aaload, 1) := by decide +kernel
theorem dX6_remember_9 : decode cX6_remember 9 = .ok (.aload_n 1, 1) := by decide +kernel
theorem dX6_remember_10 : decode cX6_remember 10 = .ok (.invokevirtual 22, 3) := by decide +kernel
theorem dX6_remember_13 : decode cX6_remember 13 = .ok (.aload_n 0, 1) := by decide +kernel
theorem dX6_remember_14 : decode cX6_remember 14 = .ok (.aload_n 0, 1) := by decide +kernel
theorem dX6_remember_15 : decode cX6_remember 15 = .ok (.getfield 18, 3) := by decide +kernel
theorem dX6_remember_18 : decode cX6_remember 18 = .ok (.iconst 1, 1) := by decide +kernel
theorem dX6_remember_19 : decode cX6_remember 19 = .ok (.iadd, 1) := by decide +kernel
theorem dX6_remember_20 : decode cX6_remember 20 = .ok (.bipush 16, 2) := by decide +kernel
theorem dX6_remember_22 : decode cX6_remember 22 = .ok (.irem, 1) := by decide +kernel
theorem dX6_remember_23 : decode cX6_remember 23 = .ok (.putfield 18, 3) := by decide +kernel
theorem dX6_remember_26 : decode cX6_remember 26 = .ok (.aload_n 0, 1) := by decide +kernel
theorem dX6_remember_27 : decode cX6_remember 27 = .ok (.aload_n 0, 1) := by decide +kernel
theorem dX6_remember_28 : decode cX6_remember 28 = .ok (.getfield 26, 3) := by decide +kernel
theorem dX6_remember_31 : decode cX6_remember 31 = .ok (.iconst 1, 1) := by decide +kernel
theorem dX6_remember_32 : decode cX6_remember 32 = .ok (.iadd, 1) := by decide +kernel
theorem dX6_remember_33 : decode cX6_remember 33 = .ok (.bipush 16, 2) := by decide +kernel
theorem dX6_remember_35 : decode cX6_remember 35 = .ok (.invokestatic 29, 3) := by decide +kernel
theorem dX6_remember_38 : decode cX6_remember 38 = .ok (.putfield 26, 3) := by decide +kernel
theorem dX6_remember_41 : decode cX6_remember 41 = .ok (.return_, 1) := by decide +kernel
set_option maxRecDepth 20000 in
theorem ggX6_takeBack_J9_floorMod_7cf53 : GoodIn wsX6_takeBack wsJ9_floorMod_7cf53 := goodIn_r _ [7] (by decide +kernel) (by decide +kernel)
set_option maxRecDepth 20000 in
theorem gX6_takeBack_J9_floorMod_7cf53 : GoodIn wsX6_takeBack (va_wsS RX6 35 yJ9_floorMod_7cf53 wsJ9_floorMod_7cf53) := goodIn_app (goodIn_of _ (by decide +kernel)) ggX6_takeBack_J9_floorMod_7cf53
set_option maxRecDepth 20000 in
theorem ggX6_takeBack_X5_become : GoodIn wsX6_takeBack wsX5_become := goodIn_r _ [12, 13, 14, 15, 16, 17, 18, 19, 20, 21, 22, 23, 27, 28, 29, 30, 31, 32, 33, 34] (by decide +kernel) (by decide +kernel)
set_option maxRecDepth 20000 in
theorem gX6_takeBack_X5_become : GoodIn wsX6_takeBack (wsV RX6 22 RX5 yX5_become wsX5_become) := goodIn_app (goodIn_of _ (by decide +kernel)) ggX6_takeBack_X5_become
theorem dX6_takeBack_0 : decode cX6_takeBack 0 = .ok (.aload_n 0, 1) := by decide +kernel
theorem dX6_takeBack_1 : decode cX6_takeBack 1 = .ok (.aload_n 0, 1) := by decide +kernel
theorem dX6_takeBack_2 : decode cX6_takeBack 2 = .ok (.getfield 18, 3) := by decide +kernel
theorem dX6_takeBack_5 : decode cX6_takeBack 5 = .ok (.iload_n 2, 1) := by decide +kernel
theorem dX6_takeBack_6 : decode cX6_takeBack 6 = .ok (.isub, 1) := by decide +kernel
theorem dX6_takeBack_7 : decode cX6_takeBack 7 = .ok (.bipush 16, 2) := by decide +kernel
theorem dX6_takeBack_9 : decode cX6_takeBack 9 = .ok (.invokestatic 35, 3) := by decide +kernel
theorem dX6_takeBack_12 : decode cX6_takeBack 12 = .ok (.putfield 18, 3) := by decide +kernel
theorem dX6_takeBack_15 : decode cX6_takeBack 15 = .ok (.aload_n 0, 1) := by decide +kernel
theorem dX6_takeBack_16 : decode cX6_takeBack 16 = .ok (.dup, 1) := by decide +kernel
theorem dX6_takeBack_17 : decode cX6_takeBack 17 = .ok (.getfield 26, 3) := by decide +kernel
theorem dX6_takeBack_20 : decode cX6_takeBack 20 = .ok (.iload_n 2, 1) := by decide +kernel
theorem dX6_takeBack_21 : decode cX6_takeBack 21 = .ok (.isub, 1) := by decide +kernel
theorem dX6_takeBack_22 : decode cX6_takeBack 22 = .ok (.putfield 26, 3) := by decide +kernel
theorem dX6_takeBack_25 : decode cX6_takeBack 25 = .ok (.aload_n 1, 1) := by decide +kernel
theorem dX6_takeBack_26 : decode cX6_takeBack 26 = .ok (.aload_n 0, 1) := by decide +kernel
theorem dX6_takeBack_27 : decode cX6_takeBack 27 = .ok (.getfield 11, 3) := by decide +kernel
theorem dX6_takeBack_30 : decode cX6_takeBack 30 = .ok (.aload_n 0, 1) := by decide +kernel
theorem dX6_takeBack_31 : decode cX6_takeBack 31 = .ok (.getfield 18, 3) := by decide +kernel
theorem dX6_takeBack_34 : decode cX6_takeBack 34 = .ok (.aaload, 1) := by decide +kernel
theorem dX6_takeBack_35 : decode cX6_takeBack 35 = .ok (.invokevirtual 22, 3) := by decide +kernel
theorem dX6_takeBack_38 : decode cX6_takeBack 38 = .ok (.return_, 1) := by decide +kernel
theorem dX6_forget_0 : decode cX6_forget 0 = .ok (.aload_n 0, 1) := by decide +kernel
theorem dX6_forget_1 : decode cX6_forget 1 = .ok (.iconst 0, 1) := by decide +kernel
theorem dX6_forget_2 : decode cX6_forget 2 = .ok (.putfield 26, 3) := by decide +kernel
theorem dX6_forget_5 : decode cX6_forget 5 = .ok (.return_, 1) := by decide +kernel
