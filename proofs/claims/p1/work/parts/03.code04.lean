theorem dX3_writeRoot_45 : decode cX3_writeRoot 45 = .ok (.invokevirtual 166, 3) := by decide +kernel
theorem dX3_writeRoot_48 : decode cX3_writeRoot 48 = .ok (.aload_n 0, 1) := by decide +kernel
theorem dX3_writeRoot_49 : decode cX3_writeRoot 49 = .ok (.iload_n 3, 1) := by decide +kernel
theorem dX3_writeRoot_50 : decode cX3_writeRoot 50 = .ok (.invokevirtual 153, 3) := by decide +kernel
theorem dX3_writeRoot_53 : decode cX3_writeRoot 53 = .ok (.ireturn, 1) := by decide +kernel
set_option maxRecDepth 20000 in
theorem ggX3_pageOfNewestNode_X3_pageOfRoot : GoodIn wsX3_pageOfNewestNode wsX3_pageOfRoot := goodIn_r _ [6] (by decide +kernel) (by decide +kernel)
set_option maxRecDepth 20000 in
theorem gX3_pageOfNewestNode_X3_pageOfRoot : GoodIn wsX3_pageOfNewestNode (va_wsS RX3 104 yX3_pageOfRoot wsX3_pageOfRoot) := goodIn_app (goodIn_of _ (by decide +kernel)) ggX3_pageOfNewestNode_X3_pageOfRoot
set_option maxRecDepth 20000 in
theorem ggX3_pageOfNewestNode_X0_at : GoodIn wsX3_pageOfNewestNode wsX0_at := goodIn_r _ [11, 12, 21, 22] (by decide +kernel) (by decide +kernel)
set_option maxRecDepth 20000 in
theorem gX3_pageOfNewestNode_X0_at : GoodIn wsX3_pageOfNewestNode (wsV RX3 98 RX0 yX0_at wsX0_at) := goodIn_app (goodIn_of _ (by decide +kernel)) ggX3_pageOfNewestNode_X0_at
theorem dX3_pageOfNewestNode_0 : decode cX3_pageOfNewestNode 0 = .ok (.aload_n 0, 1) := by decide +kernel
theorem dX3_pageOfNewestNode_1 : decode cX3_pageOfNewestNode 1 = .ok (.getfield 52, 3) := by decide +kernel
theorem dX3_pageOfNewestNode_4 : decode cX3_pageOfNewestNode 4 = .ok (.ifCond .ne 7, 3) := by decide +kernel
theorem dX3_pageOfNewestNode_7 : decode cX3_pageOfNewestNode 7 = .ok (.iconst 0, 1) := by decide +kernel
theorem dX3_pageOfNewestNode_8 : decode cX3_pageOfNewestNode 8 = .ok (.goto 21, 3) := by decide +kernel
theorem dX3_pageOfNewestNode_11 : decode cX3_pageOfNewestNode 11 = .ok (.aload_n 0, 1) := by decide +kernel
theorem dX3_pageOfNewestNode_12 : decode cX3_pageOfNewestNode 12 = .ok (.getfield 23, 3) := by decide +kernel
theorem dX3_pageOfNewestNode_15 : decode cX3_pageOfNewestNode 15 = .ok (.aload_n 0, 1) := by decide +kernel
theorem dX3_pageOfNewestNode_16 : decode cX3_pageOfNewestNode 16 = .ok (.getfield 52, 3) := by decide +kernel
theorem dX3_pageOfNewestNode_19 : decode cX3_pageOfNewestNode 19 = .ok (.invokestatic 104, 3) := by decide +kernel
theorem dX3_pageOfNewestNode_22 : decode cX3_pageOfNewestNode 22 = .ok (.bipush 9, 2) := by decide +kernel
theorem dX3_pageOfNewestNode_24 : decode cX3_pageOfNewestNode 24 = .ok (.iload_n 1, 1) := by decide +kernel
theorem dX3_pageOfNewestNode_25 : decode cX3_pageOfNewestNode 25 = .ok (.iadd, 1) := by decide +kernel
theorem dX3_pageOfNewestNode_26 : decode cX3_pageOfNewestNode 26 = .ok (.invokevirtual 98, 3) := by decide +kernel
theorem dX3_pageOfNewestNode_29 : decode cX3_pageOfNewestNode 29 = .ok (.ireturn, 1) := by decide +kernel
set_option maxRecDepth 20000 in
theorem ggX3_takePlacesOfNode_J7_fill_53178 : GoodIn wsX3_takePlacesOfNode wsJ7_fill_53178 := goodIn_r _ [6] (by decide +kernel) (by decide +kernel)
set_option maxRecDepth 20000 in
theorem gX3_takePlacesOfNode_J7_fill_53178 : GoodIn wsX3_takePlacesOfNode (va_wsS RX3 173 yJ7_fill_53178 wsJ7_fill_53178) := goodIn_app (goodIn_of _ (by decide +kernel)) ggX3_takePlacesOfNode_J7_fill_53178
set_option maxRecDepth 20000 in
theorem ggX3_takePlacesOfNode_X0_takePlaces : GoodIn wsX3_takePlacesOfNode wsX0_takePlaces := goodIn_r _ [11, 12, 13, 14, 15, 16, 25, 26] (by decide +kernel) (by decide +kernel)
set_option maxRecDepth 20000 in
theorem gX3_takePlacesOfNode_X0_takePlaces : GoodIn wsX3_takePlacesOfNode (wsV RX3 179 RX0 yX0_takePlaces wsX0_takePlaces) := goodIn_app (goodIn_of _ (by decide +kernel)) ggX3_takePlacesOfNode_X0_takePlaces
theorem dX3_takePlacesOfNode_0 : decode cX3_takePlacesOfNode 0 = .ok (.iload_n 1, 1) := by decide +kernel
theorem dX3_takePlacesOfNode_1 : decode cX3_takePlacesOfNode 1 = .ok (.ifCond .ne 14, 3) := by decide +kernel
theorem dX3_takePlacesOfNode_4 : decode cX3_takePlacesOfNode 4 = .ok (.aload_n 0, 1) := by decide +kernel
theorem dX3_takePlacesOfNode_5 : decode cX3_takePlacesOfNode 5 = .ok (.getfield 45, 3) := by decide +kernel
theorem dX3_takePlacesOfNode_8 : decode cX3_takePlacesOfNode 8 = .ok (.iconst 0, 1) := by decide +kernel
theorem dX3_takePlacesOfNode_9 : decode cX3_takePlacesOfNode 9 = .ok (.invokestatic 173, 3) := by decide +kernel
theorem dX3_takePlacesOfNode_12 : decode cX3_takePlacesOfNode 12 = .ok (.goto 16, 3) := by decide +kernel
theorem dX3_takePlacesOfNode_15 : decode cX3_takePlacesOfNode 15 = .ok (.aload_n 0, 1) := by decide +kernel
theorem dX3_takePlacesOfNode_16 : decode cX3_takePlacesOfNode 16 = .ok (.getfield 23, 3) := by decide +kernel
theorem dX3_takePlacesOfNode_19 : decode cX3_takePlacesOfNode 19 = .ok (.iload_n 1, 1) := by decide +kernel
theorem dX3_takePlacesOfNode_20 : decode cX3_takePlacesOfNode 20 = .ok (.iconst 2, 1) := by decide +kernel
theorem dX3_takePlacesOfNode_21 : decode cX3_takePlacesOfNode 21 = .ok (.aload_n 0, 1) := by decide +kernel
theorem dX3_takePlacesOfNode_22 : decode cX3_takePlacesOfNode 22 = .ok (.getfield 45, 3) := by decide +kernel
theorem dX3_takePlacesOfNode_25 : decode cX3_takePlacesOfNode 25 = .ok (.invokevirtual 179, 3) := by decide +kernel
theorem dX3_takePlacesOfNode_28 : decode cX3_takePlacesOfNode 28 = .ok (.return_, 1) := by decide +kernel
set_option maxRecDepth 20000 in
theorem ggX3_takePlacesOfNewestRoot_J7_fill_53178 : GoodIn wsX3_takePlacesOfNewestRoot wsJ7_fill_53178 := goodIn_r _ [7] (by decide +kernel) (by decide +kernel)
set_option maxRecDepth 20000 in
theorem gX3_takePlacesOfNewestRoot_J7_fill_53178 : GoodIn wsX3_takePlacesOfNewestRoot (va_wsS RX3 173 yJ7_fill_53178 wsJ7_fill_53178) := goodIn_app (goodIn_of _ (by decide +kernel)) ggX3_takePlacesOfNewestRoot_J7_fill_53178
set_option maxRecDepth 20000 in
theorem ggX3_takePlacesOfNewestRoot_X3_pageOfRoot : GoodIn wsX3_takePlacesOfNewestRoot wsX3_pageOfRoot := goodIn_r _ [11] (by decide +kernel) (by decide +kernel)
set_option maxRecDepth 20000 in
theorem gX3_takePlacesOfNewestRoot_X3_pageOfRoot : GoodIn wsX3_takePlacesOfNewestRoot (va_wsS RX3 104 yX3_pageOfRoot wsX3_pageOfRoot) := goodIn_app (goodIn_of _ (by decide +kernel)) ggX3_takePlacesOfNewestRoot_X3_pageOfRoot
set_option maxRecDepth 20000 in
theorem ggX3_takePlacesOfNewestRoot_X0_takePlaces : GoodIn wsX3_takePlacesOfNewestRoot wsX0_takePlaces := goodIn_r _ [16, 17, 18, 19, 20, 21, 30, 31] (by decide +kernel) (by decide +kernel)
set_option maxRecDepth 20000 in
theorem gX3_takePlacesOfNewestRoot_X0_takePlaces : GoodIn wsX3_takePlacesOfNewestRoot (wsV RX3 179 RX0 yX0_takePlaces wsX0_takePlaces) := goodIn_app (goodIn_of _ (by decide +kernel)) ggX3_takePlacesOfNewestRoot_X0_takePlaces
theorem dX3_takePlacesOfNewestRoot_0 : decode cX3_takePlacesOfNewestRoot 0 = .ok (.aload_n 0, 1) := by decide +kernel
theorem dX3_takePlacesOfNewestRoot_1 : decode cX3_takePlacesOfNewestRoot 1 = .ok (.getfield 52, 3) := by decide +kernel
theorem dX3_takePlacesOfNewestRoot_4 : decode cX3_takePlacesOfNewestRoot 4 = .ok (.ifCond .ne 14, 3) := by decide +kernel
theorem dX3_takePlacesOfNewestRoot_7 : decode cX3_takePlacesOfNewestRoot 7 = .ok (.aload_n 0, 1) := by decide +kernel
theorem dX3_takePlacesOfNewestRoot_8 : decode cX3_takePlacesOfNewestRoot 8 = .ok (.getfield 45, 3) := by decide +kernel
theorem dX3_takePlacesOfNewestRoot_11 : decode cX3_takePlacesOfNewestRoot 11 = .ok (.iconst 0, 1) := by decide +kernel
theorem dX3_takePlacesOfNewestRoot_12 : decode cX3_takePlacesOfNewestRoot 12 = .ok (.invokestatic 173, 3) := by decide +kernel
theorem dX3_takePlacesOfNewestRoot_15 : decode cX3_takePlacesOfNewestRoot 15 = .ok (.goto 23, 3) := by decide +kernel
theorem dX3_takePlacesOfNewestRoot_18 : decode cX3_takePlacesOfNewestRoot 18 = .ok (.aload_n 0, 1) := by decide +kernel
theorem dX3_takePlacesOfNewestRoot_19 : decode cX3_takePlacesOfNewestRoot 19 = .ok (.getfield 23, 3) := by decide +kernel
theorem dX3_takePlacesOfNewestRoot_22 : decode cX3_takePlacesOfNewestRoot 22 = .ok (.aload_n 0, 1) := by decide +kernel
theorem dX3_takePlacesOfNewestRoot_23 : decode cX3_takePlacesOfNewestRoot 23 = .ok (.getfield 52, 3) := by decide +kernel
theorem dX3_takePlacesOfNewestRoot_26 : decode cX3_takePlacesOfNewestRoot 26 = .ok (.invokestatic 104, 3) := by decide +kernel
theorem dX3_takePlacesOfNewestRoot_29 : decode cX3_takePlacesOfNewestRoot 29 = .ok (.bipush 9, 2) := by decide +kernel
theorem dX3_takePlacesOfNewestRoot_31 : decode cX3_takePlacesOfNewestRoot 31 = .ok (.aload_n 0, 1) := by decide +kernel
theorem dX3_takePlacesOfNewestRoot_32 : decode cX3_takePlacesOfNewestRoot 32 = .ok (.getfield 45, 3) := by decide +kernel
theorem dX3_takePlacesOfNewestRoot_35 : decode cX3_takePlacesOfNewestRoot 35 = .ok (.invokevirtual 179, 3) := by decide +kernel
theorem dX3_takePlacesOfNewestRoot_38 : decode cX3_takePlacesOfNewestRoot 38 = .ok (.return_, 1) := by decide +kernel
set_option maxRecDepth 20000 in
theorem ggX3_finishPage_X0_seal : GoodIn wsX3_finishPage wsX0_seal := goodIn_r _ [7, 8, 9, 10, 6, 11, 12, 13, 14, 15, 16, 17, 18, 19, 20, 21, 42, 43] (by decide +kernel) (by decide +kernel)
set_option maxRecDepth 20000 in
theorem gX3_finishPage_X0_seal : GoodIn wsX3_finishPage (wsV RX3 182 RX0 yX0_seal wsX0_seal) := goodIn_app (goodIn_of _ (by decide +kernel)) ggX3_finishPage_X0_seal
set_option maxRecDepth 20000 in
theorem ggX3_finishPage_X1_usePage : GoodIn wsX3_finishPage wsX1_usePage := goodIn_r _ [26, 27, 28, 29, 44, 45, 46] (by decide +kernel) (by decide +kernel)
set_option maxRecDepth 20000 in
theorem gX3_finishPage_X1_usePage : GoodIn wsX3_finishPage (wsV RX3 185 RX1 yX1_usePage wsX1_usePage) := goodIn_app (goodIn_of _ (by decide +kernel)) ggX3_finishPage_X1_usePage
set_option maxRecDepth 20000 in
theorem ggX3_finishPage_X1_isOff : GoodIn wsX3_finishPage wsX1_isOff := goodIn_r _ [33, 29, 44, 45, 46] (by decide +kernel) (by decide +kernel)
set_option maxRecDepth 20000 in
theorem gX3_finishPage_X1_isOff : GoodIn wsX3_finishPage (wsV RX3 58 RX1 yX1_isOff wsX1_isOff) := goodIn_app (goodIn_of _ (by decide +kernel)) ggX3_finishPage_X1_isOff
theorem dX3_finishPage_0 : decode cX3_finishPage 0 = .ok (.aload_n 0, 1) := by decide +kernel
theorem dX3_finishPage_1 : decode cX3_finishPage 1 = .ok (.getfield 23, 3) := by decide +kernel
theorem dX3_finishPage_4 : decode cX3_finishPage 4 = .ok (.iload_n 1, 1) := by decide +kernel
theorem dX3_finishPage_5 : decode cX3_finishPage 5 = .ok (.invokevirtual 182, 3) := by decide +kernel
theorem dX3_finishPage_8 : decode cX3_finishPage 8 = .ok (.aload_n 0, 1) := by decide +kernel
theorem dX3_finishPage_9 : decode cX3_finishPage 9 = .ok (.getfield 37, 3) := by decide +kernel
theorem dX3_finishPage_12 : decode cX3_finishPage 12 = .ok (.invokevirtual 185, 3) := by decide +kernel
theorem dX3_finishPage_15 : decode cX3_finishPage 15 = .ok (.aload_n 0, 1) := by decide +kernel
theorem dX3_finishPage_16 : decode cX3_finishPage 16 = .ok (.getfield 37, 3) := by decide +kernel
theorem dX3_finishPage_19 : decode cX3_finishPage 19 = .ok (.invokevirtual 58, 3) := by decide +kernel
theorem dX3_finishPage_22 : decode cX3_finishPage 22 = .ok (.ifCond .ne 7, 3) := by decide +kernel
theorem dX3_finishPage_25 : decode cX3_finishPage 25 = .ok (.iconst 1, 1) := by decide +kernel
theorem dX3_finishPage_26 : decode cX3_finishPage 26 = .ok (.goto 4, 3) := by decide +kernel
theorem dX3_finishPage_29 : decode cX3_finishPage 29 = .ok (.iconst 0, 1) := by decide +kernel
theorem dX3_finishPage_30 : decode cX3_finishPage 30 = .ok (.ireturn, 1) := by decide +kernel
theorem dX4_init_0 : decode cX4_init 0 = .ok (.aload_n 0, 1) := by decide +kernel
theorem dX4_init_1 : decode cX4_init 1 = .ok (.invokespecial 1, 3) := by decide +kernel
theorem dX4_init_4 : decode cX4_init 4 = .ok (.aload_n 0, 1) := by decide +kernel
theorem dX4_init_5 : decode cX4_init 5 = .ok (.sipush 5760, 3) := by decide +kernel
theorem dX4_init_8 : decode cX4_init 8 = .ok (.newarray .int, 2) := by decide +kernel
theorem dX4_init_10 : decode cX4_init 10 = .ok (.putfield 7, 3) := by decide +kernel
theorem dX4_init_13 : decode cX4_init 13 = .ok (.aload_n 0, 1) := by decide +kernel
theorem dX4_init_14 : decode cX4_init 14 = .ok (.iconst 1, 1) := by decide +kernel
theorem dX4_init_15 : decode cX4_init 15 = .ok (.putfield 13, 3) := by decide +kernel
theorem dX4_init_18 : decode cX4_init 18 = .ok (.aload_n 0, 1) := by decide +kernel
theorem dX4_init_19 : decode cX4_init 19 = .ok (.iconst (-1), 1) := by decide +kernel
theorem dX4_init_20 : decode cX4_init 20 = .ok (.putfield 17, 3) := by decide +kernel
theorem dX4_init_23 : decode cX4_init 23 = .ok (.aload_n 0, 1) := by decide +kernel
theorem dX4_init_24 : decode cX4_init 24 = .ok (.bipush 32, 2) := by decide +kernel
theorem dX4_init_26 : decode cX4_init 26 = .ok (.newarray .int, 2) := by decide +kernel
theorem dX4_init_28 : decode cX4_init 28 = .ok (.putfield 20, 3) := by decide +kernel
theorem dX4_init_31 : decode cX4_init 31 = .ok (.aload_n 0, 1) := by decide +kernel
theorem dX4_init_32 : decode cX4_init 32 = .ok (.bipush 120, 2) := by decide +kernel
theorem dX4_init_34 : decode cX4_init 34 = .ok (.newarray .boolean, 2) := by decide +kernel
theorem dX4_init_36 : decode cX4_init 36 = .ok (.putfield 23, 3) := by decide +kernel
theorem dX4_init_39 : decode cX4_init 39 = .ok (.aload_n 0, 1) := by decide +kernel
theorem dX4_init_40 : decode cX4_init 40 = .ok (.iload_n 1, 1) := by decide +kernel
theorem dX4_init_41 : decode cX4_init 41 = .ok (.bipush 12, 2) := by decide +kernel
theorem dX4_init_43 : decode cX4_init 43 = .ok (.if_icmp .ge 8, 3) := by decide +kernel
theorem dX4_init_46 : decode cX4_init 46 = .ok (.bipush 12, 2) := by decide +kernel
theorem dX4_init_48 : decode cX4_init 48 = .ok (.goto 15, 3) := by decide +kernel
theorem dX4_init_51 : decode cX4_init 51 = .ok (.iload_n 1, 1) := by decide +kernel
theorem dX4_init_52 : decode cX4_init 52 = .ok (.bipush 120, 2) := by decide +kernel
theorem dX4_init_54 : decode cX4_init 54 = .ok (.if_icmp .le 8, 3) := by decide +kernel
theorem dX4_init_57 : decode cX4_init 57 = .ok (.bipush 120, 2) := by decide +kernel
theorem dX4_init_59 : decode cX4_init 59 = .ok (.goto 4, 3) := by decide +kernel
theorem dX4_init_62 : decode cX4_init 62 = .ok (.iload_n 1, 1) := by decide +kernel
theorem dX4_init_63 : decode cX4_init 63 = .ok (.putfield 27, 3) := by decide +kernel
theorem dX4_init_66 : decode cX4_init 66 = .ok (.return_, 1) := by decide +kernel
theorem dX4_at_0 : decode cX4_at 0 = .ok (.aload_n 0, 1) := by decide +kernel
theorem dX4_at_1 : decode cX4_at 1 = .ok (.getfield 7, 3) := by decide +kernel
theorem dX4_at_4 : decode cX4_at 4 = .ok (.bipush 48, 2) := by decide +kernel
theorem dX4_at_6 : decode cX4_at 6 = .ok (.iload_n 1, 1) := by decide +kernel
theorem dX4_at_7 : decode cX4_at 7 = .ok (.imul, 1) := by decide +kernel
theorem dX4_at_8 : decode cX4_at 8 = .ok (.iload_n 2, 1) := by decide +kernel
theorem dX4_at_9 : decode cX4_at 9 = .ok (.iadd, 1) := by decide +kernel
theorem dX4_at_10 : decode cX4_at 10 = .ok (.iaload, 1) := by decide +kernel
theorem dX4_at_11 : decode cX4_at 11 = .ok (.ireturn, 1) := by decide +kernel
set_option maxRecDepth 20000 in
theorem ggX4_number_X4_at : GoodIn wsX4_number wsX4_at := goodIn_r _ [5, 6, 7, 8, 9, 10, 11, 12, 13, 14, 15, 16, 17, 18] (by decide +kernel) (by decide +kernel)
set_option maxRecDepth 20000 in
theorem gX4_number_X4_at : GoodIn wsX4_number (wsV RX4 33 RX4 yX4_at wsX4_at) := goodIn_app (goodIn_of _ (by decide +kernel)) ggX4_number_X4_at
theorem dX4_number_0 : decode cX4_number 0 = .ok (.aload_n 0, 1) := by decide +kernel
theorem dX4_number_1 : decode cX4_number 1 = .ok (.iload_n 1, 1) := by decide +kernel
theorem dX4_number_2 : decode cX4_number 2 = .ok (.iload_n 2, 1) := by decide +kernel
theorem dX4_number_3 : decode cX4_number 3 = .ok (.invokevirtual 33, 3) := by decide +kernel
theorem dX4_number_6 : decode cX4_number 6 = .ok (.bipush 24, 2) := by decide +kernel
theorem dX4_number_8 : decode cX4_number 8 = .ok (.ishl, 1) := by decide +kernel
theorem dX4_number_9 : decode cX4_number 9 = .ok (.aload_n 0, 1) := by decide +kernel
theorem dX4_number_10 : decode cX4_number 10 = .ok (.iload_n 1, 1) := by decide +kernel
theorem dX4_number_11 : decode cX4_number 11 = .ok (.iload_n 2, 1) := by decide +kernel
theorem dX4_number_12 : decode cX4_number 12 = .ok (.iconst 1, 1) := by decide +kernel
theorem dX4_number_13 : decode cX4_number 13 = .ok (.iadd, 1) := by decide +kernel
theorem dX4_number_14 : decode cX4_number 14 = .ok (.invokevirtual 33, 3) := by decide +kernel
theorem dX4_number_17 : decode cX4_number 17 = .ok (.bipush 16, 2) := by decide +kernel
theorem dX4_number_19 : decode cX4_number 19 = .ok (.ishl, 1) := by decide +kernel
theorem dX4_number_20 : decode cX4_number 20 = .ok (.ior, 1) := by decide +kernel
theorem dX4_number_21 : decode cX4_number 21 = .ok (.aload_n 0, 1) := by decide +kernel
theorem dX4_number_22 : decode cX4_number 22 = .ok (.iload_n 1, 1) := by decide +kernel
theorem dX4_number_23 : decode cX4_number 23 = .ok (.iload_n 2, 1) := by decide +kernel
theorem dX4_number_24 : decode cX4_number 24 = .ok (.iconst 2, 1) := by decide +kernel
theorem dX4_number_25 : decode cX4_number 25 = .ok (.iadd, 1) := by decide +kernel
theorem dX4_number_26 : decode cX4_number 26 = .ok (.invokevirtual 33, 3) := by decide +kernel
theorem dX4_number_29 : decode cX4_number 29 = .ok (.bipush 8, 2) := by decide +kernel
theorem dX4_number_31 : decode cX4_number 31 = .ok (.ishl, 1) := by decide +kernel
theorem dX4_number_32 : decode cX4_number 32 = .ok (.ior, 1) := by decide +kernel
theorem dX4_number_33 : decode cX4_number 33 = .ok (.aload_n 0, 1) := by decide +kernel
theorem dX4_number_34 : decode cX4_number 34 = .ok (.iload_n 1, 1) := by decide +kernel
theorem dX4_number_35 : decode cX4_number 35 = .ok (.iload_n 2, 1) := by decide +kernel
theorem dX4_number_36 : decode cX4_number 36 = .ok (.iconst 3, 1) := by decide +kernel
theorem dX4_number_37 : decode cX4_number 37 = .ok (.iadd, 1) := by decide +kernel
theorem dX4_number_38 : decode cX4_number 38 = .ok (.invokevirtual 33, 3) := by decide +kernel
theorem dX4_number_41 : decode cX4_number 41 = .ok (.ior, 1) := by decide +kernel
theorem dX4_number_42 : decode cX4_number 42 = .ok (.ireturn, 1) := by decide +kernel
theorem dX4_lay_0 : decode cX4_lay 0 = .ok (.aload_n 0, 1) := by decide +kernel
theorem dX4_lay_1 : decode cX4_lay 1 = .ok (.getfield 7, 3) := by decide +kernel
theorem dX4_lay_4 : decode cX4_lay 4 = .ok (.bipush 48, 2) := by decide +kernel
theorem dX4_lay_6 : decode cX4_lay 6 = .ok (.iload_n 1, 1) := by decide +kernel
theorem dX4_lay_7 : decode cX4_lay 7 = .ok (.imul, 1) := by decide +kernel
theorem dX4_lay_8 : decode cX4_lay 8 = .ok (.iload_n 2, 1) := by decide +kernel
theorem dX4_lay_9 : decode cX4_lay 9 = .ok (.iadd, 1) := by decide +kernel
theorem dX4_lay_10 : decode cX4_lay 10 = .ok (.iload_n 3, 1) := by decide +kernel
theorem dX4_lay_11 : decode cX4_lay 11 = .ok (.sipush 255, 3) := by decide +kernel
theorem dX4_lay_14 : decode cX4_lay 14 = .ok (.iand, 1) := by decide +kernel
theorem dX4_lay_15 : decode cX4_lay 15 = .ok (.iastore, 1) := by decide +kernel
theorem dX4_lay_16 : decode cX4_lay 16 = .ok (.return_, 1) := by decide +kernel
set_option maxRecDepth 20000 in
theorem ggX4_putNumber_X4_lay : GoodIn wsX4_putNumber wsX4_lay := goodIn_r _ [5, 6, 7, 8, 9, 10, 11, 12, 13, 14, 15, 16, 17, 18] (by decide +kernel) (by decide +kernel)
set_option maxRecDepth 20000 in
theorem gX4_putNumber_X4_lay : GoodIn wsX4_putNumber (wsV RX4 37 RX4 yX4_lay wsX4_lay) := goodIn_app (goodIn_of _ (by decide +kernel)) ggX4_putNumber_X4_lay
theorem dX4_putNumber_0 : decode cX4_putNumber 0 = .ok (.iconst 0, 1) := by decide +kernel
theorem dX4_putNumber_1 : decode cX4_putNumber 1 = .ok (.istore 4, 2) := by decide +kernel
theorem dX4_putNumber_3 : decode cX4_putNumber 3 = .ok (.iload 4, 2) := by decide +kernel
theorem dX4_putNumber_5 : decode cX4_putNumber 5 = .ok (.iconst 4, 1) := by decide +kernel
theorem dX4_putNumber_6 : decode cX4_putNumber 6 = .ok (.if_icmp .ge 28, 3) := by decide +kernel
theorem dX4_putNumber_9 : decode cX4_putNumber 9 = .ok (.aload_n 0, 1) := by decide +kernel
theorem dX4_putNumber_10 : decode cX4_putNumber 10 = .ok (.iload_n 1, 1) := by decide +kernel
theorem dX4_putNumber_11 : decode cX4_putNumber 11 = .ok (.iload_n 2, 1) := by decide +kernel
theorem dX4_putNumber_12 : decode cX4_putNumber 12 = .ok (.iload 4, 2) := by decide +kernel
theorem dX4_putNumber_14 : decode cX4_putNumber 14 = .ok (.iadd, 1) := by decide +kernel
theorem dX4_putNumber_15 : decode cX4_putNumber 15 = .ok (.iload_n 3, 1) := by decide +kernel
theorem dX4_putNumber_16 : decode cX4_putNumber 16 = .ok (.bipush 24, 2) := by decide +kernel
theorem dX4_putNumber_18 : decode cX4_putNumber 18 = .ok (.bipush 8, 2) := by decide +kernel
theorem dX4_putNumber_20 : decode cX4_putNumber 20 = .ok (.iload 4, 2) := by decide +kernel
theorem dX4_putNumber_22 : decode cX4_putNumber 22 = .ok (.imul, 1) := by decide +kernel
theorem dX4_putNumber_23 : decode cX4_putNumber 23 = .ok (.isub, 1) := by decide +kernel
theorem dX4_putNumber_24 : decode cX4_putNumber 24 = .ok (.ishr, 1) := by decide +kernel
theorem dX4_putNumber_25 : decode cX4_putNumber 25 = .ok (.invokevirtual 37, 3) := by decide +kernel
theorem dX4_putNumber_28 : decode cX4_putNumber 28 = .ok (.iinc 4 1, 3) := by decide +kernel
theorem dX4_putNumber_31 : decode cX4_putNumber 31 = .ok (.goto (-28), 3) := by decide +kernel
theorem dX4_putNumber_34 : decode cX4_putNumber 34 = .ok (.return_, 1) := by decide +kernel
set_option maxRecDepth 20000 in
theorem ggX4_sum_X4_at : GoodIn wsX4_sum wsX4_at := goodIn_r _ [6, 7, 8, 9, 10, 11, 12, 13, 14, 15, 16, 17, 18, 19] (by decide +kernel) (by decide +kernel)
set_option maxRecDepth 20000 in
theorem gX4_sum_X4_at : GoodIn wsX4_sum (wsV RX4 33 RX4 yX4_at wsX4_at) := goodIn_app (goodIn_of _ (by decide +kernel)) ggX4_sum_X4_at
theorem dX4_sum_0 : decode cX4_sum 0 = .ok (.iconst 0, 1) := by decide +kernel
theorem dX4_sum_1 : decode cX4_sum 1 = .ok (.istore_n 2, 1) := by decide +kernel
theorem dX4_sum_2 : decode cX4_sum 2 = .ok (.iconst 0, 1) := by decide +kernel
theorem dX4_sum_3 : decode cX4_sum 3 = .ok (.istore_n 3, 1) := by decide +kernel
theorem dX4_sum_4 : decode cX4_sum 4 = .ok (.iload_n 3, 1) := by decide +kernel
theorem dX4_sum_5 : decode cX4_sum 5 = .ok (.bipush 44, 2) := by decide +kernel
theorem dX4_sum_7 : decode cX4_sum 7 = .ok (.if_icmp .ge 34, 3) := by decide +kernel
theorem dX4_sum_10 : decode cX4_sum 10 = .ok (.iload_n 2, 1) := by decide +kernel
theorem dX4_sum_11 : decode cX4_sum 11 = .ok (.aload_n 0, 1) := by decide +kernel
theorem dX4_sum_12 : decode cX4_sum 12 = .ok (.iload_n 1, 1) := by decide +kernel
theorem dX4_sum_13 : decode cX4_sum 13 = .ok (.iload_n 3, 1) := by decide +kernel
theorem dX4_sum_14 : decode cX4_sum 14 = .ok (.invokevirtual 33, 3) := by decide +kernel
theorem dX4_sum_17 : decode cX4_sum 17 = .ok (.ixor, 1) := by decide +kernel
theorem dX4_sum_18 : decode cX4_sum 18 = .ok (.istore 4, 2) := by decide +kernel
theorem dX4_sum_20 : decode cX4_sum 20 = .ok (.iload 4, 2) := by decide +kernel
theorem dX4_sum_22 : decode cX4_sum 22 = .ok (.bipush 9, 2) := by decide +kernel
theorem dX4_sum_24 : decode cX4_sum 24 = .ok (.ishl, 1) := by decide +kernel
theorem dX4_sum_25 : decode cX4_sum 25 = .ok (.iload 4, 2) := by decide +kernel
theorem dX4_sum_27 : decode cX4_sum 27 = .ok (.bipush 23, 2) := by decide +kernel
theorem dX4_sum_29 : decode cX4_sum 29 = .ok (.iushr, 1) := by decide +kernel
theorem dX4_sum_30 : decode cX4_sum 30 = .ok (.ior, 1) := by decide +kernel
theorem dX4_sum_31 : decode cX4_sum 31 = .ok (.ldc 41, 2) := by decide +kernel
theorem dX4_sum_33 : decode cX4_sum 33 = .ok (.imul, 1) := by decide +kernel
theorem dX4_sum_34 : decode cX4_sum 34 = .ok (.istore_n 2, 1) := by decide +kernel
theorem dX4_sum_35 : decode cX4_sum 35 = .ok (.iinc 3 1, 3) := by decide +kernel
theorem dX4_sum_38 : decode cX4_sum 38 = .ok (.goto (-34), 3) := by decide +kernel
theorem dX4_sum_41 : decode cX4_sum 41 = .ok (.iload_n 2, 1) := by decide +kernel
theorem dX4_sum_42 : decode cX4_sum 42 = .ok (.ireturn, 1) := by decide +kernel
set_option maxRecDepth 20000 in
theorem ggX4_isKind_X4_at : GoodIn wsX4_isKind wsX4_at := goodIn_r _ [5, 6, 16, 17, 18, 19, 20, 21, 22, 23, 24, 25, 26, 27] (by decide +kernel) (by decide +kernel)
set_option maxRecDepth 20000 in
theorem gX4_isKind_X4_at : GoodIn wsX4_isKind (wsV RX4 33 RX4 yX4_at wsX4_at) := goodIn_app (goodIn_of _ (by decide +kernel)) ggX4_isKind_X4_at
set_option maxRecDepth 20000 in
theorem ggX4_isKind_X4_number : GoodIn wsX4_isKind wsX4_number := goodIn_r _ [10, 1, 2, 3, 4, 5, 6, 16, 17, 18, 19, 20, 21, 22, 23, 24, 25, 26, 27] (by decide +kernel) (by decide +kernel)
set_option maxRecDepth 20000 in
theorem gX4_isKind_X4_number : GoodIn wsX4_isKind (wsV RX4 42 RX4 yX4_number wsX4_number) := goodIn_app (goodIn_of _ (by decide +kernel)) ggX4_isKind_X4_number
set_option maxRecDepth 20000 in
theorem ggX4_isKind_X4_sum : GoodIn wsX4_isKind wsX4_sum := goodIn_r _ [14, 15, 1, 2, 3, 4, 5, 6, 16, 17, 18, 19, 20, 21, 22, 23, 24, 25, 26, 27] (by decide +kernel) (by decide +kernel)
set_option maxRecDepth 20000 in
theorem gX4_isKind_X4_sum : GoodIn wsX4_isKind (wsV RX4 45 RX4 yX4_sum wsX4_sum) := goodIn_app (goodIn_of _ (by decide +kernel)) ggX4_isKind_X4_sum
theorem dX4_isKind_0 : decode cX4_isKind 0 = .ok (.aload_n 0, 1) := by decide +kernel
theorem dX4_isKind_1 : decode cX4_isKind 1 = .ok (.iload_n 1, 1) := by decide +kernel
theorem dX4_isKind_2 : decode cX4_isKind 2 = .ok (.iconst 0, 1) := by decide +kernel
theorem dX4_isKind_3 : decode cX4_isKind 3 = .ok (.invokevirtual 33, 3) := by decide +kernel
theorem dX4_isKind_6 : decode cX4_isKind 6 = .ok (.iload_n 2, 1) := by decide +kernel
theorem dX4_isKind_7 : decode cX4_isKind 7 = .ok (.if_icmp .ne 22, 3) := by decide +kernel
theorem dX4_isKind_10 : decode cX4_isKind 10 = .ok (.aload_n 0, 1) := by decide +kernel
theorem dX4_isKind_11 : decode cX4_isKind 11 = .ok (.iload_n 1, 1) := by decide +kernel
theorem dX4_isKind_12 : decode cX4_isKind 12 = .ok (.bipush 44, 2) := by decide +kernel
theorem dX4_isKind_14 : decode cX4_isKind 14 = .ok (.invokevirtual 42, 3) := by decide +kernel
theorem dX4_isKind_17 : decode cX4_isKind 17 = .ok (.aload_n 0, 1) := by decide +kernel
theorem dX4_isKind_18 : decode cX4_isKind 18 = .ok (.iload_n 1, 1) := by decide +kernel
theorem dX4_isKind_19 : decode cX4_isKind 19 = .ok (.invokevirtual 45, 3) := by decide +kernel
theorem dX4_isKind_22 : decode cX4_isKind 22 = .ok (.if_icmp .ne 7, 3) := by decide +kernel
theorem dX4_isKind_25 : decode cX4_isKind 25 = .ok (.iconst 1, 1) := by decide +kernel
theorem dX4_isKind_26 : decode cX4_isKind 26 = .ok (.goto 4, 3) := by decide +kernel
theorem dX4_isKind_29 : decode cX4_isKind 29 = .ok (.iconst 0, 1) := by decide +kernel
theorem dX4_isKind_30 : decode cX4_isKind 30 = .ok (.ireturn, 1) := by decide +kernel
set_option maxRecDepth 20000 in
theorem ggX4_tellsPages_X4_at : GoodIn wsX4_tellsPages wsX4_at := goodIn_r _ [6, 7, 8, 9, 10, 11, 12, 13, 14, 15, 16, 17, 18, 19] (by decide +kernel) (by decide +kernel)
set_option maxRecDepth 20000 in
theorem gX4_tellsPages_X4_at : GoodIn wsX4_tellsPages (wsV RX4 33 RX4 yX4_at wsX4_at) := goodIn_app (goodIn_of _ (by decide +kernel)) ggX4_tellsPages_X4_at
theorem dX4_tellsPages_0 : decode cX4_tellsPages 0 = .ok (.iconst 1, 1) := by decide +kernel
theorem dX4_tellsPages_1 : decode cX4_tellsPages 1 = .ok (.istore_n 3, 1) := by decide +kernel
theorem dX4_tellsPages_2 : decode cX4_tellsPages 2 = .ok (.iconst 0, 1) := by decide +kernel
theorem dX4_tellsPages_3 : decode cX4_tellsPages 3 = .ok (.istore 4, 2) := by decide +kernel
theorem dX4_tellsPages_5 : decode cX4_tellsPages 5 = .ok (.iload 4, 2) := by decide +kernel
theorem dX4_tellsPages_7 : decode cX4_tellsPages 7 = .ok (.bipush 32, 2) := by decide +kernel
theorem dX4_tellsPages_9 : decode cX4_tellsPages 9 = .ok (.if_icmp .ge 51, 3) := by decide +kernel
theorem dX4_tellsPages_12 : decode cX4_tellsPages 12 = .ok (.aload_n 0, 1) := by decide +kernel
theorem dX4_tellsPages_13 : decode cX4_tellsPages 13 = .ok (.iload_n 1, 1) := by decide +kernel
theorem dX4_tellsPages_14 : decode cX4_tellsPages 14 = .ok (.iload_n 2, 1) := by decide +kernel
theorem dX4_tellsPages_15 : decode cX4_tellsPages 15 = .ok (.iload 4, 2) := by decide +kernel
theorem dX4_tellsPages_17 : decode cX4_tellsPages 17 = .ok (.iadd, 1) := by decide +kernel
theorem dX4_tellsPages_18 : decode cX4_tellsPages 18 = .ok (.invokevirtual 33, 3) := by decide +kernel
theorem dX4_tellsPages_21 : decode cX4_tellsPages 21 = .ok (.istore 5, 2) := by decide +kernel
theorem dX4_tellsPages_23 : decode cX4_tellsPages 23 = .ok (.iload_n 3, 1) := by decide +kernel
theorem dX4_tellsPages_24 : decode cX4_tellsPages 24 = .ok (.ifCond .eq 28, 3) := by decide +kernel
theorem dX4_tellsPages_27 : decode cX4_tellsPages 27 = .ok (.iload 5, 2) := by decide +kernel
theorem dX4_tellsPages_29 : decode cX4_tellsPages 29 = .ok (.ifCond .eq 19, 3) := by decide +kernel
theorem dX4_tellsPages_32 : decode cX4_tellsPages 32 = .ok (.iload 5, 2) := by decide +kernel
theorem dX4_tellsPages_34 : decode cX4_tellsPages 34 = .ok (.bipush 8, 2) := by decide +kernel
theorem dX4_tellsPages_36 : decode cX4_tellsPages 36 = .ok (.if_icmp .lt 16, 3) := by decide +kernel
theorem dX4_tellsPages_39 : decode cX4_tellsPages 39 = .ok (.iload 5, 2) := by decide +kernel
theorem dX4_tellsPages_41 : decode cX4_tellsPages 41 = .ok (.aload_n 0, 1) := by decide +kernel
theorem dX4_tellsPages_42 : decode cX4_tellsPages 42 = .ok (.getfield 27, 3) := by decide +kernel
theorem dX4_tellsPages_45 : decode cX4_tellsPages 45 = .ok (.if_icmp .ge 7, 3) := by decide +kernel
theorem dX4_tellsPages_48 : decode cX4_tellsPages 48 = .ok (.iconst 1, 1) := by decide +kernel
theorem dX4_tellsPages_49 : decode cX4_tellsPages 49 = .ok (.goto 4, 3) := by decide +kernel
theorem dX4_tellsPages_52 : decode cX4_tellsPages 52 = .ok (.iconst 0, 1) := by decide +kernel
theorem dX4_tellsPages_53 : decode cX4_tellsPages 53 = .ok (.istore_n 3, 1) := by decide +kernel
theorem dX4_tellsPages_54 : decode cX4_tellsPages 54 = .ok (.iinc 4 1, 3) := by decide +kernel
theorem dX4_tellsPages_57 : decode cX4_tellsPages 57 = .ok (.goto (-52), 3) := by decide +kernel
theorem dX4_tellsPages_60 : decode cX4_tellsPages 60 = .ok (.iload_n 3, 1) := by decide +kernel
theorem dX4_tellsPages_61 : decode cX4_tellsPages 61 = .ok (.ireturn, 1) := by decide +kernel
set_option maxRecDepth 20000 in
theorem ggX4_isRight_X4_isKind : GoodIn wsX4_isRight wsX4_isKind := goodIn_r _ [6, 7, 8, 9, 5, 10, 11, 12, 13, 14, 15, 16, 17, 18, 19, 20, 26, 27, 28, 29, 30, 31, 32, 33, 34, 35, 36, 37] (by decide +kernel) (by decide +kernel)
set_option maxRecDepth 20000 in
theorem gX4_isRight_X4_isKind : GoodIn wsX4_isRight (wsV RX4 49 RX4 yX4_isKind wsX4_isKind) := goodIn_app (goodIn_of _ (by decide +kernel)) ggX4_isRight_X4_isKind
set_option maxRecDepth 20000 in
theorem ggX4_isRight_X4_at : GoodIn wsX4_isRight wsX4_at := goodIn_r _ [10, 11, 26, 27, 28, 29, 30, 31, 32, 33, 34, 35, 36, 37] (by decide +kernel) (by decide +kernel)
set_option maxRecDepth 20000 in
theorem gX4_isRight_X4_at : GoodIn wsX4_isRight (wsV RX4 33 RX4 yX4_at wsX4_at) := goodIn_app (goodIn_of _ (by decide +kernel)) ggX4_isRight_X4_at
set_option maxRecDepth 20000 in
theorem ggX4_isRight_X4_tellsPages : GoodIn wsX4_isRight wsX4_tellsPages := goodIn_r _ [24, 25, 7, 8, 9, 5, 10, 11, 26, 27, 28, 29, 30, 31, 32, 33, 34, 35, 36, 37] (by decide +kernel) (by decide +kernel)
set_option maxRecDepth 20000 in
theorem gX4_isRight_X4_tellsPages : GoodIn wsX4_isRight (wsV RX4 53 RX4 yX4_tellsPages wsX4_tellsPages) := goodIn_app (goodIn_of _ (by decide +kernel)) ggX4_isRight_X4_tellsPages
set_option maxRecDepth 20000 in
theorem ggX4_isRight_X4_number : GoodIn wsX4_isRight wsX4_number := goodIn_r _ [15, 7, 8, 9, 5, 10, 11, 26, 27, 28, 29, 30, 31, 32, 33, 34, 35, 36, 37] (by decide +kernel) (by decide +kernel)
set_option maxRecDepth 20000 in
theorem gX4_isRight_X4_number : GoodIn wsX4_isRight (wsV RX4 42 RX4 yX4_number wsX4_number) := goodIn_app (goodIn_of _ (by decide +kernel)) ggX4_isRight_X4_number
theorem dX4_isRight_0 : decode cX4_isRight 0 = .ok (.aload_n 0, 1) := by decide +kernel
theorem dX4_isRight_1 : decode cX4_isRight 1 = .ok (.iload_n 1, 1) := by decide +kernel
theorem dX4_isRight_2 : decode cX4_isRight 2 = .ok (.iload_n 2, 1) := by decide +kernel
theorem dX4_isRight_3 : decode cX4_isRight 3 = .ok (.invokevirtual 49, 3) := by decide +kernel
theorem dX4_isRight_6 : decode cX4_isRight 6 = .ok (.ifCond .ne 5, 3) := by decide +kernel
theorem dX4_isRight_9 : decode cX4_isRight 9 = .ok (.iconst 0, 1) := by decide +kernel
theorem dX4_isRight_10 : decode cX4_isRight 10 = .ok (.ireturn, 1) := by decide +kernel
theorem dX4_isRight_11 : decode cX4_isRight 11 = .ok (.iload_n 2, 1) := by decide +kernel
theorem dX4_isRight_12 : decode cX4_isRight 12 = .ok (.iconst 3, 1) := by decide +kernel
theorem dX4_isRight_13 : decode cX4_isRight 13 = .ok (.if_icmp .ne 20, 3) := by decide +kernel
theorem dX4_isRight_16 : decode cX4_isRight 16 = .ok (.aload_n 0, 1) := by decide +kernel
theorem dX4_isRight_17 : decode cX4_isRight 17 = .ok (.iload_n 1, 1) := by decide +kernel
theorem dX4_isRight_18 : decode cX4_isRight 18 = .ok (.iconst 3, 1) := by decide +kernel
theorem dX4_isRight_19 : decode cX4_isRight 19 = .ok (.invokevirtual 33, 3) := by decide +kernel
theorem dX4_isRight_22 : decode cX4_isRight 22 = .ok (.bipush 32, 2) := by decide +kernel
theorem dX4_isRight_24 : decode cX4_isRight 24 = .ok (.if_icmp .gt 7, 3) := by decide +kernel
theorem dX4_isRight_27 : decode cX4_isRight 27 = .ok (.iconst 1, 1) := by decide +kernel
theorem dX4_isRight_28 : decode cX4_isRight 28 = .ok (.goto 4, 3) := by decide +kernel
theorem dX4_isRight_31 : decode cX4_isRight 31 = .ok (.iconst 0, 1) := by decide +kernel
theorem dX4_isRight_32 : decode cX4_isRight 32 = .ok (.ireturn, 1) := by decide +kernel
theorem dX4_isRight_33 : decode cX4_isRight 33 = .ok (.iload_n 2, 1) := by decide +kernel
theorem dX4_isRight_34 : decode cX4_isRight 34 = .ok (.iconst 2, 1) := by decide +kernel
theorem dX4_isRight_35 : decode cX4_isRight 35 = .ok (.if_icmp .ne 10, 3) := by decide +kernel
theorem dX4_isRight_38 : decode cX4_isRight 38 = .ok (.aload_n 0, 1) := by decide +kernel
theorem dX4_isRight_39 : decode cX4_isRight 39 = .ok (.iload_n 1, 1) := by decide +kernel
theorem dX4_isRight_40 : decode cX4_isRight 40 = .ok (.iconst 2, 1) := by decide +kernel
theorem dX4_isRight_41 : decode cX4_isRight 41 = .ok (.invokevirtual 53, 3) := by decide +kernel
theorem dX4_isRight_44 : decode cX4_isRight 44 = .ok (.ireturn, 1) := by decide +kernel
theorem dX4_isRight_45 : decode cX4_isRight 45 = .ok (.aload_n 0, 1) := by decide +kernel
theorem dX4_isRight_46 : decode cX4_isRight 46 = .ok (.iload_n 1, 1) := by decide +kernel
theorem dX4_isRight_47 : decode cX4_isRight 47 = .ok (.iconst 1, 1) := by decide +kernel
theorem dX4_isRight_48 : decode cX4_isRight 48 = .ok (.invokevirtual 42, 3) := by decide +kernel
theorem dX4_isRight_51 : decode cX4_isRight 51 = .ok (.istore_n 3, 1) := by decide +kernel
theorem dX4_isRight_52 : decode cX4_isRight 52 = .ok (.aload_n 0, 1) := by decide +kernel
theorem dX4_isRight_53 : decode cX4_isRight 53 = .ok (.iload_n 1, 1) := by decide +kernel
theorem dX4_isRight_54 : decode cX4_isRight 54 = .ok (.iconst 5, 1) := by decide +kernel
theorem dX4_isRight_55 : decode cX4_isRight 55 = .ok (.invokevirtual 42, 3) := by decide +kernel
theorem dX4_isRight_58 : decode cX4_isRight 58 = .ok (.istore 4, 2) := by decide +kernel
theorem dX4_isRight_60 : decode cX4_isRight 60 = .ok (.iload_n 3, 1) := by decide +kernel
theorem dX4_isRight_61 : decode cX4_isRight 61 = .ok (.iconst 1, 1) := by decide +kernel
theorem dX4_isRight_62 : decode cX4_isRight 62 = .ok (.if_icmp .lt 52, 3) := by decide +kernel
theorem dX4_isRight_65 : decode cX4_isRight 65 = .ok (.iload_n 3, 1) := by decide +kernel
theorem dX4_isRight_66 : decode cX4_isRight 66 = .ok (.ldc 56, 2) := by decide +kernel
theorem dX4_isRight_68 : decode cX4_isRight 68 = .ok (.if_icmp .gt 46, 3) := by decide +kernel
theorem dX4_isRight_71 : decode cX4_isRight 71 = .ok (.iload_n 3, 1) := by decide +kernel
theorem dX4_isRight_72 : decode cX4_isRight 72 = .ok (.bipush 8, 2) := by decide +kernel
theorem dX4_isRight_74 : decode cX4_isRight 74 = .ok (.irem, 1) := by decide +kernel
theorem dX4_isRight_75 : decode cX4_isRight 75 = .ok (.iload_n 1, 1) := by decide +kernel
theorem dX4_isRight_76 : decode cX4_isRight 76 = .ok (.if_icmp .ne 38, 3) := by decide +kernel
theorem dX4_isRight_79 : decode cX4_isRight 79 = .ok (.iload 4, 2) := by decide +kernel
theorem dX4_isRight_81 : decode cX4_isRight 81 = .ok (.iload_n 3, 1) := by decide +kernel
theorem dX4_isRight_82 : decode cX4_isRight 82 = .ok (.if_icmp .gt 32, 3) := by decide +kernel
theorem dX4_isRight_85 : decode cX4_isRight 85 = .ok (.iload 4, 2) := by decide +kernel
theorem dX4_isRight_87 : decode cX4_isRight 87 = .ok (.iload_n 3, 1) := by decide +kernel
theorem dX4_isRight_88 : decode cX4_isRight 88 = .ok (.bipush 7, 2) := by decide +kernel
theorem dX4_isRight_90 : decode cX4_isRight 90 = .ok (.isub, 1) := by decide +kernel
theorem dX4_isRight_91 : decode cX4_isRight 91 = .ok (.if_icmp .lt 23, 3) := by decide +kernel
theorem dX4_isRight_94 : decode cX4_isRight 94 = .ok (.iload 4, 2) := by decide +kernel
theorem dX4_isRight_96 : decode cX4_isRight 96 = .ok (.iconst 1, 1) := by decide +kernel
theorem dX4_isRight_97 : decode cX4_isRight 97 = .ok (.if_icmp .lt 17, 3) := by decide +kernel
theorem dX4_isRight_100 : decode cX4_isRight 100 = .ok (.aload_n 0, 1) := by decide +kernel
theorem dX4_isRight_101 : decode cX4_isRight 101 = .ok (.iload_n 1, 1) := by decide +kernel
theorem dX4_isRight_102 : decode cX4_isRight 102 = .ok (.bipush 9, 2) := by decide +kernel
theorem dX4_isRight_104 : decode cX4_isRight 104 = .ok (.invokevirtual 53, 3) := by decide +kernel
theorem dX4_isRight_107 : decode cX4_isRight 107 = .ok (.ifCond .eq 7, 3) := by decide +kernel
theorem dX4_isRight_110 : decode cX4_isRight 110 = .ok (.iconst 1, 1) := by decide +kernel
theorem dX4_isRight_111 : decode cX4_isRight 111 = .ok (.goto 4, 3) := by decide +kernel
theorem dX4_isRight_114 : decode cX4_isRight 114 = .ok (.iconst 0, 1) := by decide +kernel
theorem dX4_isRight_115 : decode cX4_isRight 115 = .ok (.ireturn, 1) := by decide +kernel
set_option maxRecDepth 20000 in
theorem ggX4_reach_X4_isRight : GoodIn wsX4_reach wsX4_isRight := goodIn_r _ [7, 8, 9, 10, 11, 6, 12, 13, 14, 15, 16, 17, 18, 19, 20, 21, 22, 23, 24, 25, 26, 27, 28, 29, 30, 31, 32, 33, 34, 35, 36, 37, 38, 39, 40, 41, 42, 43] (by decide +kernel) (by decide +kernel)
set_option maxRecDepth 20000 in
theorem gX4_reach_X4_isRight : GoodIn wsX4_reach (wsV RX4 57 RX4 yX4_isRight wsX4_isRight) := goodIn_app (goodIn_of _ (by decide +kernel)) ggX4_reach_X4_isRight
theorem dX4_reach_0 : decode cX4_reach 0 = .ok (.aload_n 0, 1) := by decide +kernel
theorem dX4_reach_1 : decode cX4_reach 1 = .ok (.getfield 23, 3) := by decide +kernel
theorem dX4_reach_4 : decode cX4_reach 4 = .ok (.iload_n 1, 1) := by decide +kernel
theorem dX4_reach_5 : decode cX4_reach 5 = .ok (.iconst 1, 1) := by decide +kernel
theorem dX4_reach_6 : decode cX4_reach 6 = .ok (.bastore, 1) := by decide +kernel
theorem dX4_reach_7 : decode cX4_reach 7 = .ok (.aload_n 0, 1) := by decide +kernel
theorem dX4_reach_8 : decode cX4_reach 8 = .ok (.aload_n 0, 1) := by decide +kernel
theorem dX4_reach_9 : decode cX4_reach 9 = .ok (.iload_n 1, 1) := by decide +kernel
theorem dX4_reach_10 : decode cX4_reach 10 = .ok (.iload_n 2, 1) := by decide +kernel
theorem dX4_reach_11 : decode cX4_reach 11 = .ok (.invokevirtual 57, 3) := by decide +kernel
theorem dX4_reach_14 : decode cX4_reach 14 = .ok (.ifCond .ne 23, 3) := by decide +kernel
theorem dX4_reach_17 : decode cX4_reach 17 = .ok (.aload_n 0, 1) := by decide +kernel
theorem dX4_reach_18 : decode cX4_reach 18 = .ok (.getfield 60, 3) := by decide +kernel
theorem dX4_reach_21 : decode cX4_reach 21 = .ok (.iconst (-1), 1) := by decide +kernel
theorem dX4_reach_22 : decode cX4_reach 22 = .ok (.if_icmp .eq 11, 3) := by decide +kernel
theorem dX4_reach_25 : decode cX4_reach 25 = .ok (.iload_n 1, 1) := by decide +kernel
theorem dX4_reach_26 : decode cX4_reach 26 = .ok (.aload_n 0, 1) := by decide +kernel
theorem dX4_reach_27 : decode cX4_reach 27 = .ok (.getfield 60, 3) := by decide +kernel
theorem dX4_reach_30 : decode cX4_reach 30 = .ok (.if_icmp .ge 7, 3) := by decide +kernel
theorem dX4_reach_33 : decode cX4_reach 33 = .ok (.iload_n 1, 1) := by decide +kernel
theorem dX4_reach_34 : decode cX4_reach 34 = .ok (.goto 7, 3) := by decide +kernel
theorem dX4_reach_37 : decode cX4_reach 37 = .ok (.aload_n 0, 1) := by decide +kernel
theorem dX4_reach_38 : decode cX4_reach 38 = .ok (.getfield 60, 3) := by decide +kernel
theorem dX4_reach_41 : decode cX4_reach 41 = .ok (.putfield 60, 3) := by decide +kernel
theorem dX4_reach_44 : decode cX4_reach 44 = .ok (.return_, 1) := by decide +kernel
set_option maxRecDepth 20000 in
theorem ggX4_reachNode_X4_reach : GoodIn wsX4_reachNode wsX4_reach := goodIn_r _ [5, 6, 7, 8, 9, 10, 4, 11, 12, 13, 14, 15, 16, 17, 18, 19, 20, 21, 22, 23, 24, 25, 26, 27, 28, 29, 30, 31, 32, 33, 34, 35, 36, 37, 38, 39, 40, 41, 42, 43, 44, 45, 46, 47] (by decide +kernel) (by decide +kernel)
set_option maxRecDepth 20000 in
theorem gX4_reachNode_X4_reach : GoodIn wsX4_reachNode (wsV RX4 63 RX4 yX4_reach wsX4_reach) := goodIn_app (goodIn_of _ (by decide +kernel)) ggX4_reachNode_X4_reach
set_option maxRecDepth 20000 in
theorem ggX4_reachNode_X4_isRight : GoodIn wsX4_reachNode wsX4_isRight := goodIn_r _ [11, 12, 13, 14, 15, 4, 16, 17, 18, 19, 20, 21, 22, 23, 24, 25, 26, 27, 28, 29, 30, 31, 32, 33, 34, 35, 36, 37, 38, 39, 40, 41, 42, 43, 44, 45, 46, 47] (by decide +kernel) (by decide +kernel)
set_option maxRecDepth 20000 in
theorem gX4_reachNode_X4_isRight : GoodIn wsX4_reachNode (wsV RX4 57 RX4 yX4_isRight wsX4_isRight) := goodIn_app (goodIn_of _ (by decide +kernel)) ggX4_reachNode_X4_isRight
set_option maxRecDepth 20000 in
theorem ggX4_reachNode_X4_at : GoodIn wsX4_reachNode wsX4_at := goodIn_r _ [20, 21, 36, 37, 38, 39, 40, 41, 42, 43, 44, 45, 46, 47] (by decide +kernel) (by decide +kernel)
set_option maxRecDepth 20000 in
theorem gX4_reachNode_X4_at : GoodIn wsX4_reachNode (wsV RX4 33 RX4 yX4_at wsX4_at) := goodIn_app (goodIn_of _ (by decide +kernel)) ggX4_reachNode_X4_at
theorem dX4_reachNode_0 : decode cX4_reachNode 0 = .ok (.aload_n 0, 1) := by decide +kernel
theorem dX4_reachNode_1 : decode cX4_reachNode 1 = .ok (.iload_n 1, 1) := by decide +kernel
theorem dX4_reachNode_2 : decode cX4_reachNode 2 = .ok (.iconst 2, 1) := by decide +kernel
theorem dX4_reachNode_3 : decode cX4_reachNode 3 = .ok (.invokevirtual 63, 3) := by decide +kernel
theorem dX4_reachNode_6 : decode cX4_reachNode 6 = .ok (.iconst 0, 1) := by decide +kernel
theorem dX4_reachNode_7 : decode cX4_reachNode 7 = .ok (.istore_n 2, 1) := by decide +kernel
theorem dX4_reachNode_8 : decode cX4_reachNode 8 = .ok (.iload_n 2, 1) := by decide +kernel
theorem dX4_reachNode_9 : decode cX4_reachNode 9 = .ok (.bipush 32, 2) := by decide +kernel
theorem dX4_reachNode_11 : decode cX4_reachNode 11 = .ok (.if_icmp .ge 42, 3) := by decide +kernel
theorem dX4_reachNode_14 : decode cX4_reachNode 14 = .ok (.aload_n 0, 1) := by decide +kernel
theorem dX4_reachNode_15 : decode cX4_reachNode 15 = .ok (.iload_n 1, 1) := by decide +kernel
theorem dX4_reachNode_16 : decode cX4_reachNode 16 = .ok (.iconst 2, 1) := by decide +kernel
theorem dX4_reachNode_17 : decode cX4_reachNode 17 = .ok (.invokevirtual 57, 3) := by decide +kernel
theorem dX4_reachNode_20 : decode cX4_reachNode 20 = .ok (.ifCond .eq 33, 3) := by decide +kernel
theorem dX4_reachNode_23 : decode cX4_reachNode 23 = .ok (.aload_n 0, 1) := by decide +kernel
theorem dX4_reachNode_24 : decode cX4_reachNode 24 = .ok (.iload_n 1, 1) := by decide +kernel
theorem dX4_reachNode_25 : decode cX4_reachNode 25 = .ok (.iconst 2, 1) := by decide +kernel
theorem dX4_reachNode_26 : decode cX4_reachNode 26 = .ok (.iload_n 2, 1) := by decide +kernel
theorem dX4_reachNode_27 : decode cX4_reachNode 27 = .ok (.iadd, 1) := by decide +kernel
theorem dX4_reachNode_28 : decode cX4_reachNode 28 = .ok (.invokevirtual 33, 3) := by decide +kernel
theorem dX4_reachNode_31 : decode cX4_reachNode 31 = .ok (.ifCond .eq 16, 3) := by decide +kernel
theorem dX4_reachNode_34 : decode cX4_reachNode 34 = .ok (.aload_n 0, 1) := by decide +kernel
theorem dX4_reachNode_35 : decode cX4_reachNode 35 = .ok (.aload_n 0, 1) := by decide +kernel
theorem dX4_reachNode_36 : decode cX4_reachNode 36 = .ok (.iload_n 1, 1) := by decide +kernel
theorem dX4_reachNode_37 : decode cX4_reachNode 37 = .ok (.iconst 2, 1) := by decide +kernel
theorem dX4_reachNode_38 : decode cX4_reachNode 38 = .ok (.iload_n 2, 1) := by decide +kernel
theorem dX4_reachNode_39 : decode cX4_reachNode 39 = .ok (.iadd, 1) := by decide +kernel
theorem dX4_reachNode_40 : decode cX4_reachNode 40 = .ok (.invokevirtual 33, 3) := by decide +kernel
theorem dX4_reachNode_43 : decode cX4_reachNode 43 = .ok (.iconst 3, 1) := by decide +kernel
theorem dX4_reachNode_44 : decode cX4_reachNode 44 = .ok (.invokevirtual 63, 3) := by decide +kernel
theorem dX4_reachNode_47 : decode cX4_reachNode 47 = .ok (.iinc 2 1, 3) := by decide +kernel
theorem dX4_reachNode_50 : decode cX4_reachNode 50 = .ok (.goto (-42), 3) := by decide +kernel
theorem dX4_reachNode_53 : decode cX4_reachNode 53 = .ok (.return_, 1) := by decide +kernel
set_option maxRecDepth 20000 in
theorem ggX4_reachAll_X4_reach : GoodIn wsX4_reachAll wsX4_reach := goodIn_r _ [10, 3, 1, 11, 12, 13, 9, 14, 15, 16, 17, 18, 19, 20, 21, 22, 23, 24, 25, 26, 27, 28, 29, 30, 31, 32, 33, 34, 35, 36, 37, 2, 42, 43, 44, 45, 46, 47, 48, 49, 50, 51, 52, 53] (by decide +kernel) (by decide +kernel)
set_option maxRecDepth 20000 in
theorem gX4_reachAll_X4_reach : GoodIn wsX4_reachAll (wsV RX4 63 RX4 yX4_reach wsX4_reach) := goodIn_app (goodIn_of _ (by decide +kernel)) ggX4_reachAll_X4_reach
set_option maxRecDepth 20000 in
theorem ggX4_reachAll_X4_isRight : GoodIn wsX4_reachAll wsX4_isRight := goodIn_r _ [14, 15, 16, 17, 18, 9, 19, 20, 21, 22, 23, 24, 25, 26, 27, 28, 29, 30, 31, 32, 33, 34, 35, 36, 37, 2, 42, 43, 44, 45, 46, 47, 48, 49, 50, 51, 52, 53] (by decide +kernel) (by decide +kernel)
set_option maxRecDepth 20000 in
theorem gX4_reachAll_X4_isRight : GoodIn wsX4_reachAll (wsV RX4 57 RX4 yX4_isRight wsX4_isRight) := goodIn_app (goodIn_of _ (by decide +kernel)) ggX4_reachAll_X4_isRight
set_option maxRecDepth 20000 in
theorem ggX4_reachAll_X4_at : GoodIn wsX4_reachAll wsX4_at := goodIn_r _ [23, 24, 42, 43, 44, 45, 46, 47, 48, 49, 50, 51, 52, 53] (by decide +kernel) (by decide +kernel)
set_option maxRecDepth 20000 in
theorem gX4_reachAll_X4_at : GoodIn wsX4_reachAll (wsV RX4 33 RX4 yX4_at wsX4_at) := goodIn_app (goodIn_of _ (by decide +kernel)) ggX4_reachAll_X4_at
set_option maxRecDepth 20000 in
theorem ggX4_reachAll_X4_reachNode : GoodIn wsX4_reachAll wsX4_reachNode := goodIn_r _ [41, 6, 7, 8, 9, 10, 3, 1, 11, 12, 13, 14, 15, 16, 17, 18, 19, 20, 21, 22, 23, 24, 25, 26, 27, 28, 29, 30, 31, 32, 33, 34, 35, 36, 37, 2, 42, 43, 44, 45, 46, 47, 48, 49, 50, 51, 52, 53] (by decide +kernel) (by decide +kernel)
set_option maxRecDepth 20000 in
theorem gX4_reachAll_X4_reachNode : GoodIn wsX4_reachAll (wsV RX4 70 RX4 yX4_reachNode wsX4_reachNode) := goodIn_app (goodIn_of _ (by decide +kernel)) ggX4_reachAll_X4_reachNode
theorem dX4_reachAll_0 : decode cX4_reachAll 0 = .ok (.aload_n 0, 1) := by decide +kernel
theorem dX4_reachAll_1 : decode cX4_reachAll 1 = .ok (.iconst (-1), 1) := by decide +kernel
theorem dX4_reachAll_2 : decode cX4_reachAll 2 = .ok (.putfield 60, 3) := by decide +kernel
theorem dX4_reachAll_5 : decode cX4_reachAll 5 = .ok (.iconst 0, 1) := by decide +kernel
theorem dX4_reachAll_6 : decode cX4_reachAll 6 = .ok (.istore_n 1, 1) := by decide +kernel
theorem dX4_reachAll_7 : decode cX4_reachAll 7 = .ok (.iload_n 1, 1) := by decide +kernel
theorem dX4_reachAll_8 : decode cX4_reachAll 8 = .ok (.aload_n 0, 1) := by decide +kernel
theorem dX4_reachAll_9 : decode cX4_reachAll 9 = .ok (.getfield 27, 3) := by decide +kernel
theorem dX4_reachAll_12 : decode cX4_reachAll 12 = .ok (.if_icmp .ge 16, 3) := by decide +kernel
theorem dX4_reachAll_15 : decode cX4_reachAll 15 = .ok (.aload_n 0, 1) := by decide +kernel
theorem dX4_reachAll_16 : decode cX4_reachAll 16 = .ok (.getfield 23, 3) := by decide +kernel
theorem dX4_reachAll_19 : decode cX4_reachAll 19 = .ok (.iload_n 1, 1) := by decide +kernel
theorem dX4_reachAll_20 : decode cX4_reachAll 20 = .ok (.iconst 0, 1) := by decide +kernel
theorem dX4_reachAll_21 : decode cX4_reachAll 21 = .ok (.bastore, 1) := by decide +kernel
theorem dX4_reachAll_22 : decode cX4_reachAll 22 = .ok (.iinc 1 1, 3) := by decide +kernel
theorem dX4_reachAll_25 : decode cX4_reachAll 25 = .ok (.goto (-18), 3) := by decide +kernel
theorem dX4_reachAll_28 : decode cX4_reachAll 28 = .ok (.aload_n 0, 1) := by decide +kernel
theorem dX4_reachAll_29 : decode cX4_reachAll 29 = .ok (.getfield 13, 3) := by decide +kernel
theorem dX4_reachAll_32 : decode cX4_reachAll 32 = .ok (.istore_n 1, 1) := by decide +kernel
theorem dX4_reachAll_33 : decode cX4_reachAll 33 = .ok (.iload_n 1, 1) := by decide +kernel
theorem dX4_reachAll_34 : decode cX4_reachAll 34 = .ok (.aload_n 0, 1) := by decide +kernel
theorem dX4_reachAll_35 : decode cX4_reachAll 35 = .ok (.getfield 67, 3) := by decide +kernel
theorem dX4_reachAll_38 : decode cX4_reachAll 38 = .ok (.if_icmp .gt 68, 3) := by decide +kernel
theorem dX4_reachAll_41 : decode cX4_reachAll 41 = .ok (.iload_n 1, 1) := by decide +kernel
theorem dX4_reachAll_42 : decode cX4_reachAll 42 = .ok (.bipush 8, 2) := by decide +kernel
theorem dX4_reachAll_44 : decode cX4_reachAll 44 = .ok (.irem, 1) := by decide +kernel
theorem dX4_reachAll_45 : decode cX4_reachAll 45 = .ok (.istore_n 2, 1) := by decide +kernel
theorem dX4_reachAll_46 : decode cX4_reachAll 46 = .ok (.aload_n 0, 1) := by decide +kernel
theorem dX4_reachAll_47 : decode cX4_reachAll 47 = .ok (.iload_n 2, 1) := by decide +kernel
theorem dX4_reachAll_48 : decode cX4_reachAll 48 = .ok (.iconst 1, 1) := by decide +kernel
theorem dX4_reachAll_49 : decode cX4_reachAll 49 = .ok (.invokevirtual 63, 3) := by decide +kernel
theorem dX4_reachAll_52 : decode cX4_reachAll 52 = .ok (.iconst 0, 1) := by decide +kernel
theorem dX4_reachAll_53 : decode cX4_reachAll 53 = .ok (.istore_n 3, 1) := by decide +kernel
theorem dX4_reachAll_54 : decode cX4_reachAll 54 = .ok (.iload_n 3, 1) := by decide +kernel
theorem dX4_reachAll_55 : decode cX4_reachAll 55 = .ok (.bipush 32, 2) := by decide +kernel
theorem dX4_reachAll_57 : decode cX4_reachAll 57 = .ok (.if_icmp .ge 43, 3) := by decide +kernel
theorem dX4_reachAll_60 : decode cX4_reachAll 60 = .ok (.aload_n 0, 1) := by decide +kernel
theorem dX4_reachAll_61 : decode cX4_reachAll 61 = .ok (.iload_n 2, 1) := by decide +kernel
theorem dX4_reachAll_62 : decode cX4_reachAll 62 = .ok (.iconst 1, 1) := by decide +kernel
theorem dX4_reachAll_63 : decode cX4_reachAll 63 = .ok (.invokevirtual 57, 3) := by decide +kernel
theorem dX4_reachAll_66 : decode cX4_reachAll 66 = .ok (.ifCond .eq 34, 3) := by decide +kernel
theorem dX4_reachAll_69 : decode cX4_reachAll 69 = .ok (.aload_n 0, 1) := by decide +kernel
theorem dX4_reachAll_70 : decode cX4_reachAll 70 = .ok (.iload_n 2, 1) := by decide +kernel
theorem dX4_reachAll_71 : decode cX4_reachAll 71 = .ok (.bipush 9, 2) := by decide +kernel
theorem dX4_reachAll_73 : decode cX4_reachAll 73 = .ok (.iload_n 3, 1) := by decide +kernel
theorem dX4_reachAll_74 : decode cX4_reachAll 74 = .ok (.iadd, 1) := by decide +kernel
theorem dX4_reachAll_75 : decode cX4_reachAll 75 = .ok (.invokevirtual 33, 3) := by decide +kernel
theorem dX4_reachAll_78 : decode cX4_reachAll 78 = .ok (.ifCond .eq 16, 3) := by decide +kernel
theorem dX4_reachAll_81 : decode cX4_reachAll 81 = .ok (.aload_n 0, 1) := by decide +kernel
theorem dX4_reachAll_82 : decode cX4_reachAll 82 = .ok (.aload_n 0, 1) := by decide +kernel
theorem dX4_reachAll_83 : decode cX4_reachAll 83 = .ok (.iload_n 2, 1) := by decide +kernel
theorem dX4_reachAll_84 : decode cX4_reachAll 84 = .ok (.bipush 9, 2) := by decide +kernel
theorem dX4_reachAll_86 : decode cX4_reachAll 86 = .ok (.iload_n 3, 1) := by decide +kernel
theorem dX4_reachAll_87 : decode cX4_reachAll 87 = .ok (.iadd, 1) := by decide +kernel
theorem dX4_reachAll_88 : decode cX4_reachAll 88 = .ok (.invokevirtual 33, 3) := by decide +kernel
theorem dX4_reachAll_91 : decode cX4_reachAll 91 = .ok (.invokevirtual 70, 3) := by decide +kernel
theorem dX4_reachAll_94 : decode cX4_reachAll 94 = .ok (.iinc 3 1, 3) := by decide +kernel
theorem dX4_reachAll_97 : decode cX4_reachAll 97 = .ok (.goto (-43), 3) := by decide +kernel
theorem dX4_reachAll_100 : decode cX4_reachAll 100 = .ok (.iinc 1 1, 3) := by decide +kernel
theorem dX4_reachAll_103 : decode cX4_reachAll 103 = .ok (.goto (-70), 3) := by decide +kernel
theorem dX4_reachAll_106 : decode cX4_reachAll 106 = .ok (.return_, 1) := by decide +kernel
theorem dX4_free_0 : decode cX4_free 0 = .ok (.bipush 8, 2) := by decide +kernel
theorem dX4_free_2 : decode cX4_free 2 = .ok (.istore_n 2, 1) := by decide +kernel
theorem dX4_free_3 : decode cX4_free 3 = .ok (.iload_n 2, 1) := by decide +kernel
theorem dX4_free_4 : decode cX4_free 4 = .ok (.aload_n 0, 1) := by decide +kernel
theorem dX4_free_5 : decode cX4_free 5 = .ok (.getfield 27, 3) := by decide +kernel
theorem dX4_free_8 : decode cX4_free 8 = .ok (.if_icmp .ge 25, 3) := by decide +kernel
theorem dX4_free_11 : decode cX4_free 11 = .ok (.aload_n 0, 1) := by decide +kernel
theorem dX4_free_12 : decode cX4_free 12 = .ok (.getfield 23, 3) := by decide +kernel
theorem dX4_free_15 : decode cX4_free 15 = .ok (.iload_n 2, 1) := by decide +kernel
theorem dX4_free_16 : decode cX4_free 16 = .ok (.baload, 1) := by decide +kernel
theorem dX4_free_17 : decode cX4_free 17 = .ok (.ifCond .ne 10, 3) := by decide +kernel
theorem dX4_free_20 : decode cX4_free 20 = .ok (.iload_n 2, 1) := by decide +kernel
theorem dX4_free_21 : decode cX4_free 21 = .ok (.iload_n 1, 1) := by decide +kernel
theorem dX4_free_22 : decode cX4_free 22 = .ok (.if_icmp .le 5, 3) := by decide +kernel
theorem dX4_free_25 : decode cX4_free 25 = .ok (.iload_n 2, 1) := by decide +kernel
theorem dX4_free_26 : decode cX4_free 26 = .ok (.ireturn, 1) := by decide +kernel
theorem dX4_free_27 : decode cX4_free 27 = .ok (.iinc 2 1, 3) := by decide +kernel
theorem dX4_free_30 : decode cX4_free 30 = .ok (.goto (-27), 3) := by decide +kernel
theorem dX4_free_33 : decode cX4_free 33 = .ok (.iconst (-1), 1) := by decide +kernel
theorem dX4_free_34 : decode cX4_free 34 = .ok (.ireturn, 1) := by decide +kernel
set_option maxRecDepth 20000 in
theorem ggX4_empty_X4_lay : GoodIn wsX4_empty wsX4_lay := goodIn_r _ [5, 6, 7, 8, 9, 10, 11, 12, 13, 14, 15, 16, 17, 18] (by decide +kernel) (by decide +kernel)
set_option maxRecDepth 20000 in
theorem gX4_empty_X4_lay : GoodIn wsX4_empty (wsV RX4 37 RX4 yX4_lay wsX4_lay) := goodIn_app (goodIn_of _ (by decide +kernel)) ggX4_empty_X4_lay
theorem dX4_empty_0 : decode cX4_empty 0 = .ok (.iconst 0, 1) := by decide +kernel
theorem dX4_empty_1 : decode cX4_empty 1 = .ok (.istore_n 3, 1) := by decide +kernel
theorem dX4_empty_2 : decode cX4_empty 2 = .ok (.iload_n 3, 1) := by decide +kernel
theorem dX4_empty_3 : decode cX4_empty 3 = .ok (.bipush 48, 2) := by decide +kernel
theorem dX4_empty_5 : decode cX4_empty 5 = .ok (.if_icmp .ge 16, 3) := by decide +kernel
theorem dX4_empty_8 : decode cX4_empty 8 = .ok (.aload_n 0, 1) := by decide +kernel
theorem dX4_empty_9 : decode cX4_empty 9 = .ok (.iload_n 1, 1) := by decide +kernel
theorem dX4_empty_10 : decode cX4_empty 10 = .ok (.iload_n 3, 1) := by decide +kernel
theorem dX4_empty_11 : decode cX4_empty 11 = .ok (.iconst 0, 1) := by decide +kernel
theorem dX4_empty_12 : decode cX4_empty 12 = .ok (.invokevirtual 37, 3) := by decide +kernel
theorem dX4_empty_15 : decode cX4_empty 15 = .ok (.iinc 3 1, 3) := by decide +kernel
theorem dX4_empty_18 : decode cX4_empty 18 = .ok (.goto (-16), 3) := by decide +kernel
theorem dX4_empty_21 : decode cX4_empty 21 = .ok (.aload_n 0, 1) := by decide +kernel
theorem dX4_empty_22 : decode cX4_empty 22 = .ok (.iload_n 1, 1) := by decide +kernel
theorem dX4_empty_23 : decode cX4_empty 23 = .ok (.iconst 0, 1) := by decide +kernel
theorem dX4_empty_24 : decode cX4_empty 24 = .ok (.iload_n 2, 1) := by decide +kernel
theorem dX4_empty_25 : decode cX4_empty 25 = .ok (.invokevirtual 37, 3) := by decide +kernel
theorem dX4_empty_28 : decode cX4_empty 28 = .ok (.return_, 1) := by decide +kernel
set_option maxRecDepth 20000 in
theorem ggX4_copy_X4_at : GoodIn wsX4_copy wsX4_at := goodIn_r _ [5, 6, 11, 12, 13, 14, 15, 16, 17, 18, 19, 20, 21, 22] (by decide +kernel) (by decide +kernel)
set_option maxRecDepth 20000 in
theorem gX4_copy_X4_at : GoodIn wsX4_copy (wsV RX4 33 RX4 yX4_at wsX4_at) := goodIn_app (goodIn_of _ (by decide +kernel)) ggX4_copy_X4_at
set_option maxRecDepth 20000 in
theorem ggX4_copy_X4_lay : GoodIn wsX4_copy wsX4_lay := goodIn_r _ [10, 6, 11, 12, 13, 14, 15, 16, 17, 18, 19, 20, 21, 22] (by decide +kernel) (by decide +kernel)
set_option maxRecDepth 20000 in
theorem gX4_copy_X4_lay : GoodIn wsX4_copy (wsV RX4 37 RX4 yX4_lay wsX4_lay) := goodIn_app (goodIn_of _ (by decide +kernel)) ggX4_copy_X4_lay
theorem dX4_copy_0 : decode cX4_copy 0 = .ok (.iconst 0, 1) := by decide +kernel
theorem dX4_copy_1 : decode cX4_copy 1 = .ok (.istore_n 3, 1) := by decide +kernel
theorem dX4_copy_2 : decode cX4_copy 2 = .ok (.iload_n 3, 1) := by decide +kernel
theorem dX4_copy_3 : decode cX4_copy 3 = .ok (.bipush 48, 2) := by decide +kernel
theorem dX4_copy_5 : decode cX4_copy 5 = .ok (.if_icmp .ge 21, 3) := by decide +kernel
theorem dX4_copy_8 : decode cX4_copy 8 = .ok (.aload_n 0, 1) := by decide +kernel
theorem dX4_copy_9 : decode cX4_copy 9 = .ok (.iload_n 2, 1) := by decide +kernel
theorem dX4_copy_10 : decode cX4_copy 10 = .ok (.iload_n 3, 1) := by decide +kernel
theorem dX4_copy_11 : decode cX4_copy 11 = .ok (.aload_n 0, 1) := by decide +kernel
theorem dX4_copy_12 : decode cX4_copy 12 = .ok (.iload_n 1, 1) := by decide +kernel
theorem dX4_copy_13 : decode cX4_copy 13 = .ok (.iload_n 3, 1) := by decide +kernel
