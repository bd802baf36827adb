theorem dX3_byteAt_26 : decode cX3_byteAt 26 = .ok (.ireturn, 1) := by decide +kernel
set_option maxRecDepth 20000 in
theorem ggX3_badAt_X1_isOff : GoodIn wsX3_badAt wsX1_isOff := goodIn_r _ [10, 11, 78, 79, 80] (by decide +kernel) (by decide +kernel)
set_option maxRecDepth 20000 in
theorem gX3_badAt_X1_isOff : GoodIn wsX3_badAt (wsV RX3 58 RX1 yX1_isOff wsX1_isOff) := goodIn_app (goodIn_of _ (by decide +kernel)) ggX3_badAt_X1_isOff
set_option maxRecDepth 20000 in
theorem ggX3_badAt_X2_walk : GoodIn wsX3_badAt wsX2_walk := goodIn_r _ [16, 17, 18, 19, 20, 21, 22, 23, 24, 25, 26, 15, 27, 28, 29, 30, 31, 32, 33, 34, 35, 36, 37, 38, 39, 40, 41, 42, 43, 44, 45, 46, 47, 48, 49, 50, 51, 52, 53, 54, 55, 56, 57, 58, 59, 60, 61, 62, 63, 64, 65, 81, 82, 83] (by decide +kernel) (by decide +kernel)
set_option maxRecDepth 20000 in
theorem gX3_badAt_X2_walk : GoodIn wsX3_badAt (wsV RX3 129 RX2 yX2_walk wsX2_walk) := goodIn_app (goodIn_of _ (by decide +kernel)) ggX3_badAt_X2_walk
set_option maxRecDepth 20000 in
theorem ggX3_badAt_X2_leastBad : GoodIn wsX3_badAt wsX2_leastBad := goodIn_r _ [69, 17, 81] (by decide +kernel) (by decide +kernel)
set_option maxRecDepth 20000 in
theorem gX3_badAt_X2_leastBad : GoodIn wsX3_badAt (wsV RX3 133 RX2 yX2_leastBad wsX2_leastBad) := goodIn_app (goodIn_of _ (by decide +kernel)) ggX3_badAt_X2_leastBad
theorem dX3_badAt_0 : decode cX3_badAt 0 = .ok (.aload_n 0, 1) := by decide +kernel
theorem dX3_badAt_1 : decode cX3_badAt 1 = .ok (.getfield 37, 3) := by decide +kernel
theorem dX3_badAt_4 : decode cX3_badAt 4 = .ok (.invokevirtual 58, 3) := by decide +kernel
theorem dX3_badAt_7 : decode cX3_badAt 7 = .ok (.ifCond .eq 6, 3) := by decide +kernel
theorem dX3_badAt_10 : decode cX3_badAt 10 = .ok (.bipush (-5), 2) := by decide +kernel
theorem dX3_badAt_12 : decode cX3_badAt 12 = .ok (.ireturn, 1) := by decide +kernel
theorem dX3_badAt_13 : decode cX3_badAt 13 = .ok (.aload_n 0, 1) := by decide +kernel
theorem dX3_badAt_14 : decode cX3_badAt 14 = .ok (.getfield 30, 3) := by decide +kernel
theorem dX3_badAt_17 : decode cX3_badAt 17 = .ok (.aload_n 0, 1) := by decide +kernel
theorem dX3_badAt_18 : decode cX3_badAt 18 = .ok (.getfield 23, 3) := by decide +kernel
theorem dX3_badAt_21 : decode cX3_badAt 21 = .ok (.aload_n 0, 1) := by decide +kernel
theorem dX3_badAt_22 : decode cX3_badAt 22 = .ok (.getfield 55, 3) := by decide +kernel
theorem dX3_badAt_25 : decode cX3_badAt 25 = .ok (.aload_n 0, 1) := by decide +kernel
theorem dX3_badAt_26 : decode cX3_badAt 26 = .ok (.getfield 52, 3) := by decide +kernel
theorem dX3_badAt_29 : decode cX3_badAt 29 = .ok (.invokevirtual 129, 3) := by decide +kernel
theorem dX3_badAt_32 : decode cX3_badAt 32 = .ok (.aload_n 0, 1) := by decide +kernel
theorem dX3_badAt_33 : decode cX3_badAt 33 = .ok (.getfield 30, 3) := by decide +kernel
theorem dX3_badAt_36 : decode cX3_badAt 36 = .ok (.invokevirtual 133, 3) := by decide +kernel
theorem dX3_badAt_39 : decode cX3_badAt 39 = .ok (.ireturn, 1) := by decide +kernel
set_option maxRecDepth 20000 in
theorem ggX3_count_X1_isOff : GoodIn wsX3_count wsX1_isOff := goodIn_r _ [11, 12, 90, 91, 92] (by decide +kernel) (by decide +kernel)
set_option maxRecDepth 20000 in
theorem gX3_count_X1_isOff : GoodIn wsX3_count (wsV RX3 58 RX1 yX1_isOff wsX1_isOff) := goodIn_app (goodIn_of _ (by decide +kernel)) ggX3_count_X1_isOff
set_option maxRecDepth 20000 in
theorem ggX3_count_X2_walk : GoodIn wsX3_count wsX2_walk := goodIn_r _ [17, 18, 19, 20, 21, 22, 23, 24, 25, 26, 27, 16, 28, 29, 30, 31, 32, 33, 34, 35, 36, 37, 38, 39, 40, 41, 42, 43, 44, 45, 46, 47, 48, 49, 50, 51, 52, 53, 54, 55, 56, 57, 58, 59, 60, 61, 62, 63, 64, 65, 66, 93, 94, 95] (by decide +kernel) (by decide +kernel)
set_option maxRecDepth 20000 in
theorem gX3_count_X2_walk : GoodIn wsX3_count (wsV RX3 129 RX2 yX2_walk wsX2_walk) := goodIn_app (goodIn_of _ (by decide +kernel)) ggX3_count_X2_walk
set_option maxRecDepth 20000 in
theorem ggX3_count_X2_freePages : GoodIn wsX3_count wsX2_freePages := goodIn_r _ [70, 18, 93] (by decide +kernel) (by decide +kernel)
set_option maxRecDepth 20000 in
theorem gX3_count_X2_freePages : GoodIn wsX3_count (wsV RX3 137 RX2 yX2_freePages wsX2_freePages) := goodIn_app (goodIn_of _ (by decide +kernel)) ggX3_count_X2_freePages
set_option maxRecDepth 20000 in
theorem ggX3_count_X3_keysOfNewest : GoodIn wsX3_count wsX3_keysOfNewest := goodIn_r _ [74, 2, 5, 75, 23, 24, 25, 76, 34, 35, 36, 37, 38, 39, 40, 41, 42, 43, 44, 45, 46, 47, 48, 49, 50, 51, 52, 53, 54, 55, 56, 57, 58, 59, 60, 61, 77, 78, 79, 80, 81, 82, 83, 84, 85, 86, 87, 88, 89, 94, 95] (by decide +kernel) (by decide +kernel)
set_option maxRecDepth 20000 in
theorem gX3_count_X3_keysOfNewest : GoodIn wsX3_count (wsV RX3 140 RX3 yX3_keysOfNewest wsX3_keysOfNewest) := goodIn_app (goodIn_of _ (by decide +kernel)) ggX3_count_X3_keysOfNewest
theorem dX3_count_0 : decode cX3_count 0 = .ok (.aload_n 0, 1) := by decide +kernel
theorem dX3_count_1 : decode cX3_count 1 = .ok (.getfield 37, 3) := by decide +kernel
theorem dX3_count_4 : decode cX3_count 4 = .ok (.invokevirtual 58, 3) := by decide +kernel
theorem dX3_count_7 : decode cX3_count 7 = .ok (.ifCond .eq 6, 3) := by decide +kernel
theorem dX3_count_10 : decode cX3_count 10 = .ok (.bipush (-5), 2) := by decide +kernel
theorem dX3_count_12 : decode cX3_count 12 = .ok (.ireturn, 1) := by decide +kernel
theorem dX3_count_13 : decode cX3_count 13 = .ok (.iload_n 1, 1) := by decide +kernel
theorem dX3_count_14 : decode cX3_count 14 = .ok (.tableswitch 81 0 4 #[34, 39, 44, 71, 76], 34) := by decide +kernel
theorem dX3_count_48 : decode cX3_count 48 = .ok (.aload_n 0, 1) := by decide +kernel
theorem dX3_count_49 : decode cX3_count 49 = .ok (.getfield 52, 3) := by decide +kernel
theorem dX3_count_52 : decode cX3_count 52 = .ok (.ireturn, 1) := by decide +kernel
theorem dX3_count_53 : decode cX3_count 53 = .ok (.aload_n 0, 1) := by decide +kernel
theorem dX3_count_54 : decode cX3_count 54 = .ok (.getfield 55, 3) := by decide +kernel
theorem dX3_count_57 : decode cX3_count 57 = .ok (.ireturn, 1) := by decide +kernel
theorem dX3_count_58 : decode cX3_count 58 = .ok (.aload_n 0, 1) := by decide +kernel
theorem dX3_count_59 : decode cX3_count 59 = .ok (.getfield 30, 3) := by decide +kernel
theorem dX3_count_62 : decode cX3_count 62 = .ok (.aload_n 0, 1) := by decide +kernel
theorem dX3_count_63 : decode cX3_count 63 = .ok (.getfield 23, 3) := by decide +kernel
theorem dX3_count_66 : decode cX3_count 66 = .ok (.aload_n 0, 1) := by decide +kernel
theorem dX3_count_67 : decode cX3_count 67 = .ok (.getfield 55, 3) := by decide +kernel
theorem dX3_count_70 : decode cX3_count 70 = .ok (.aload_n 0, 1) := by decide +kernel
theorem dX3_count_71 : decode cX3_count 71 = .ok (.getfield 52, 3) := by decide +kernel
theorem dX3_count_74 : decode cX3_count 74 = .ok (.invokevirtual 129, 3) := by decide +kernel
theorem dX3_count_77 : decode cX3_count 77 = .ok (.aload_n 0, 1) := by decide +kernel
theorem dX3_count_78 : decode cX3_count 78 = .ok (.getfield 30, 3) := by decide +kernel
theorem dX3_count_81 : decode cX3_count 81 = .ok (.invokevirtual 137, 3) := by decide +kernel
theorem dX3_count_84 : decode cX3_count 84 = .ok (.ireturn, 1) := by decide +kernel
theorem dX3_count_85 : decode cX3_count 85 = .ok (.aload_n 0, 1) := by decide +kernel
theorem dX3_count_86 : decode cX3_count 86 = .ok (.invokevirtual 140, 3) := by decide +kernel
theorem dX3_count_89 : decode cX3_count 89 = .ok (.ireturn, 1) := by decide +kernel
theorem dX3_count_90 : decode cX3_count 90 = .ok (.aload_n 0, 1) := by decide +kernel
theorem dX3_count_91 : decode cX3_count 91 = .ok (.getfield 48, 3) := by decide +kernel
theorem dX3_count_94 : decode cX3_count 94 = .ok (.ireturn, 1) := by decide +kernel
theorem dX3_count_95 : decode cX3_count 95 = .ok (.bipush (-2), 2) := by decide +kernel
theorem dX3_count_97 : decode cX3_count 97 = .ok (.ireturn, 1) := by decide +kernel
set_option maxRecDepth 20000 in
theorem ggX3_written_X1_pagesWritten : GoodIn wsX3_written wsX1_pagesWritten := goodIn_r _ [6, 7, 16, 17, 18] (by decide +kernel) (by decide +kernel)
set_option maxRecDepth 20000 in
theorem gX3_written_X1_pagesWritten : GoodIn wsX3_written (wsV RX3 143 RX1 yX1_pagesWritten wsX1_pagesWritten) := goodIn_app (goodIn_of _ (by decide +kernel)) ggX3_written_X1_pagesWritten
theorem dX3_written_0 : decode cX3_written 0 = .ok (.aload_n 0, 1) := by decide +kernel
theorem dX3_written_1 : decode cX3_written 1 = .ok (.getfield 37, 3) := by decide +kernel
theorem dX3_written_4 : decode cX3_written 4 = .ok (.invokevirtual 143, 3) := by decide +kernel
theorem dX3_written_7 : decode cX3_written 7 = .ok (.ireturn, 1) := by decide +kernel
set_option maxRecDepth 20000 in
theorem ggX3_isDown_X1_isOff : GoodIn wsX3_isDown wsX1_isOff := goodIn_r _ [6, 7, 16, 17, 18] (by decide +kernel) (by decide +kernel)
set_option maxRecDepth 20000 in
theorem gX3_isDown_X1_isOff : GoodIn wsX3_isDown (wsV RX3 58 RX1 yX1_isOff wsX1_isOff) := goodIn_app (goodIn_of _ (by decide +kernel)) ggX3_isDown_X1_isOff
theorem dX3_isDown_0 : decode cX3_isDown 0 = .ok (.aload_n 0, 1) := by decide +kernel
theorem dX3_isDown_1 : decode cX3_isDown 1 = .ok (.getfield 37, 3) := by decide +kernel
theorem dX3_isDown_4 : decode cX3_isDown 4 = .ok (.invokevirtual 58, 3) := by decide +kernel
theorem dX3_isDown_7 : decode cX3_isDown 7 = .ok (.ireturn, 1) := by decide +kernel
theorem dX3_isKey_0 : decode cX3_isKey 0 = .ok (.iload_n 0, 1) := by decide +kernel
theorem dX3_isKey_1 : decode cX3_isKey 1 = .ok (.ifCond .lt 14, 3) := by decide +kernel
theorem dX3_isKey_4 : decode cX3_isKey 4 = .ok (.iload_n 0, 1) := by decide +kernel
theorem dX3_isKey_5 : decode cX3_isKey 5 = .ok (.sipush 1024, 3) := by decide +kernel
theorem dX3_isKey_8 : decode cX3_isKey 8 = .ok (.if_icmp .ge 7, 3) := by decide +kernel
theorem dX3_isKey_11 : decode cX3_isKey 11 = .ok (.iconst 1, 1) := by decide +kernel
theorem dX3_isKey_12 : decode cX3_isKey 12 = .ok (.goto 4, 3) := by decide +kernel
theorem dX3_isKey_15 : decode cX3_isKey 15 = .ok (.iconst 0, 1) := by decide +kernel
theorem dX3_isKey_16 : decode cX3_isKey 16 = .ok (.ireturn, 1) := by decide +kernel
theorem dX3_pageOfRoot_0 : decode cX3_pageOfRoot 0 = .ok (.iload_n 0, 1) := by decide +kernel
theorem dX3_pageOfRoot_1 : decode cX3_pageOfRoot 1 = .ok (.bipush 8, 2) := by decide +kernel
theorem dX3_pageOfRoot_3 : decode cX3_pageOfRoot 3 = .ok (.irem, 1) := by decide +kernel
theorem dX3_pageOfRoot_4 : decode cX3_pageOfRoot 4 = .ok (.ireturn, 1) := by decide +kernel
theorem dX3_isKept_0 : decode cX3_isKept 0 = .ok (.iload_n 1, 1) := by decide +kernel
theorem dX3_isKept_1 : decode cX3_isKept 1 = .ok (.aload_n 0, 1) := by decide +kernel
theorem dX3_isKept_2 : decode cX3_isKept 2 = .ok (.getfield 55, 3) := by decide +kernel
theorem dX3_isKept_5 : decode cX3_isKept 5 = .ok (.if_icmp .lt 15, 3) := by decide +kernel
theorem dX3_isKept_8 : decode cX3_isKept 8 = .ok (.iload_n 1, 1) := by decide +kernel
theorem dX3_isKept_9 : decode cX3_isKept 9 = .ok (.aload_n 0, 1) := by decide +kernel
theorem dX3_isKept_10 : decode cX3_isKept 10 = .ok (.getfield 52, 3) := by decide +kernel
theorem dX3_isKept_13 : decode cX3_isKept 13 = .ok (.if_icmp .gt 7, 3) := by decide +kernel
theorem dX3_isKept_16 : decode cX3_isKept 16 = .ok (.iconst 1, 1) := by decide +kernel
theorem dX3_isKept_17 : decode cX3_isKept 17 = .ok (.goto 4, 3) := by decide +kernel
theorem dX3_isKept_20 : decode cX3_isKept 20 = .ok (.iconst 0, 1) := by decide +kernel
theorem dX3_isKept_21 : decode cX3_isKept 21 = .ok (.ireturn, 1) := by decide +kernel
set_option maxRecDepth 20000 in
theorem ggX3_refusalOfWriting_X1_isOff : GoodIn wsX3_refusalOfWriting wsX1_isOff := goodIn_r _ [10, 11, 78, 79, 80] (by decide +kernel) (by decide +kernel)
set_option maxRecDepth 20000 in
theorem gX3_refusalOfWriting_X1_isOff : GoodIn wsX3_refusalOfWriting (wsV RX3 58 RX1 yX1_isOff wsX1_isOff) := goodIn_app (goodIn_of _ (by decide +kernel)) ggX3_refusalOfWriting_X1_isOff
set_option maxRecDepth 20000 in
theorem ggX3_refusalOfWriting_X2_walk : GoodIn wsX3_refusalOfWriting wsX2_walk := goodIn_r _ [16, 17, 18, 19, 20, 21, 22, 23, 24, 25, 26, 15, 27, 28, 29, 30, 31, 32, 33, 34, 35, 36, 37, 38, 39, 40, 41, 42, 43, 44, 45, 46, 47, 48, 49, 50, 51, 52, 53, 54, 55, 56, 57, 58, 59, 60, 61, 62, 63, 64, 65, 81, 82, 83] (by decide +kernel) (by decide +kernel)
set_option maxRecDepth 20000 in
theorem gX3_refusalOfWriting_X2_walk : GoodIn wsX3_refusalOfWriting (wsV RX3 129 RX2 yX2_walk wsX2_walk) := goodIn_app (goodIn_of _ (by decide +kernel)) ggX3_refusalOfWriting_X2_walk
set_option maxRecDepth 20000 in
theorem ggX3_refusalOfWriting_X2_leastBad : GoodIn wsX3_refusalOfWriting wsX2_leastBad := goodIn_r _ [69, 17, 81] (by decide +kernel) (by decide +kernel)
set_option maxRecDepth 20000 in
theorem gX3_refusalOfWriting_X2_leastBad : GoodIn wsX3_refusalOfWriting (wsV RX3 133 RX2 yX2_leastBad wsX2_leastBad) := goodIn_app (goodIn_of _ (by decide +kernel)) ggX3_refusalOfWriting_X2_leastBad
theorem dX3_refusalOfWriting_0 : decode cX3_refusalOfWriting 0 = .ok (.aload_n 0, 1) := by decide +kernel
theorem dX3_refusalOfWriting_1 : decode cX3_refusalOfWriting 1 = .ok (.getfield 37, 3) := by decide +kernel
theorem dX3_refusalOfWriting_4 : decode cX3_refusalOfWriting 4 = .ok (.invokevirtual 58, 3) := by decide +kernel
theorem dX3_refusalOfWriting_7 : decode cX3_refusalOfWriting 7 = .ok (.ifCond .eq 6, 3) := by decide +kernel
theorem dX3_refusalOfWriting_10 : decode cX3_refusalOfWriting 10 = .ok (.bipush (-5), 2) := by decide +kernel
theorem dX3_refusalOfWriting_12 : decode cX3_refusalOfWriting 12 = .ok (.ireturn, 1) := by decide +kernel
theorem dX3_refusalOfWriting_13 : decode cX3_refusalOfWriting 13 = .ok (.iload_n 1, 1) := by decide +kernel
theorem dX3_refusalOfWriting_14 : decode cX3_refusalOfWriting 14 = .ok (.ifCond .ne 6, 3) := by decide +kernel
theorem dX3_refusalOfWriting_17 : decode cX3_refusalOfWriting 17 = .ok (.bipush (-2), 2) := by decide +kernel
theorem dX3_refusalOfWriting_19 : decode cX3_refusalOfWriting 19 = .ok (.ireturn, 1) := by decide +kernel
theorem dX3_refusalOfWriting_20 : decode cX3_refusalOfWriting 20 = .ok (.aload_n 0, 1) := by decide +kernel
theorem dX3_refusalOfWriting_21 : decode cX3_refusalOfWriting 21 = .ok (.getfield 30, 3) := by decide +kernel
theorem dX3_refusalOfWriting_24 : decode cX3_refusalOfWriting 24 = .ok (.aload_n 0, 1) := by decide +kernel
theorem dX3_refusalOfWriting_25 : decode cX3_refusalOfWriting 25 = .ok (.getfield 23, 3) := by decide +kernel
theorem dX3_refusalOfWriting_28 : decode cX3_refusalOfWriting 28 = .ok (.aload_n 0, 1) := by decide +kernel
theorem dX3_refusalOfWriting_29 : decode cX3_refusalOfWriting 29 = .ok (.getfield 55, 3) := by decide +kernel
theorem dX3_refusalOfWriting_32 : decode cX3_refusalOfWriting 32 = .ok (.aload_n 0, 1) := by decide +kernel
theorem dX3_refusalOfWriting_33 : decode cX3_refusalOfWriting 33 = .ok (.getfield 52, 3) := by decide +kernel
theorem dX3_refusalOfWriting_36 : decode cX3_refusalOfWriting 36 = .ok (.invokevirtual 129, 3) := by decide +kernel
theorem dX3_refusalOfWriting_39 : decode cX3_refusalOfWriting 39 = .ok (.aload_n 0, 1) := by decide +kernel
theorem dX3_refusalOfWriting_40 : decode cX3_refusalOfWriting 40 = .ok (.getfield 30, 3) := by decide +kernel
theorem dX3_refusalOfWriting_43 : decode cX3_refusalOfWriting 43 = .ok (.invokevirtual 133, 3) := by decide +kernel
theorem dX3_refusalOfWriting_46 : decode cX3_refusalOfWriting 46 = .ok (.iconst (-1), 1) := by decide +kernel
theorem dX3_refusalOfWriting_47 : decode cX3_refusalOfWriting 47 = .ok (.if_icmp .ne 7, 3) := by decide +kernel
theorem dX3_refusalOfWriting_50 : decode cX3_refusalOfWriting 50 = .ok (.iconst 0, 1) := by decide +kernel
theorem dX3_refusalOfWriting_51 : decode cX3_refusalOfWriting 51 = .ok (.goto 5, 3) := by decide +kernel
theorem dX3_refusalOfWriting_54 : decode cX3_refusalOfWriting 54 = .ok (.bipush (-4), 2) := by decide +kernel
theorem dX3_refusalOfWriting_56 : decode cX3_refusalOfWriting 56 = .ok (.ireturn, 1) := by decide +kernel
set_option maxRecDepth 20000 in
theorem ggX3_refusalOfReading_X1_isOff : GoodIn wsX3_refusalOfReading wsX1_isOff := goodIn_r _ [6, 7, 26, 27, 28] (by decide +kernel) (by decide +kernel)
set_option maxRecDepth 20000 in
theorem gX3_refusalOfReading_X1_isOff : GoodIn wsX3_refusalOfReading (wsV RX3 58 RX1 yX1_isOff wsX1_isOff) := goodIn_app (goodIn_of _ (by decide +kernel)) ggX3_refusalOfReading_X1_isOff
set_option maxRecDepth 20000 in
theorem ggX3_refusalOfReading_X3_isKept : GoodIn wsX3_refusalOfReading wsX3_isKept := goodIn_r _ [12, 13, 14, 18, 19, 20, 21, 22, 23, 24, 25] (by decide +kernel) (by decide +kernel)
set_option maxRecDepth 20000 in
theorem gX3_refusalOfReading_X3_isKept : GoodIn wsX3_refusalOfReading (wsV RX3 86 RX3 yX3_isKept wsX3_isKept) := goodIn_app (goodIn_of _ (by decide +kernel)) ggX3_refusalOfReading_X3_isKept
set_option maxRecDepth 20000 in
theorem ggX3_refusalOfReading_X3_isKey : GoodIn wsX3_refusalOfReading wsX3_isKey := goodIn_r _ [17] (by decide +kernel) (by decide +kernel)
set_option maxRecDepth 20000 in
theorem gX3_refusalOfReading_X3_isKey : GoodIn wsX3_refusalOfReading (va_wsS RX3 62 yX3_isKey wsX3_isKey) := goodIn_app (goodIn_of _ (by decide +kernel)) ggX3_refusalOfReading_X3_isKey
theorem dX3_refusalOfReading_0 : decode cX3_refusalOfReading 0 = .ok (.aload_n 0, 1) := by decide +kernel
theorem dX3_refusalOfReading_1 : decode cX3_refusalOfReading 1 = .ok (.getfield 37, 3) := by decide +kernel
theorem dX3_refusalOfReading_4 : decode cX3_refusalOfReading 4 = .ok (.invokevirtual 58, 3) := by decide +kernel
theorem dX3_refusalOfReading_7 : decode cX3_refusalOfReading 7 = .ok (.ifCond .eq 6, 3) := by decide +kernel
theorem dX3_refusalOfReading_10 : decode cX3_refusalOfReading 10 = .ok (.bipush (-5), 2) := by decide +kernel
theorem dX3_refusalOfReading_12 : decode cX3_refusalOfReading 12 = .ok (.ireturn, 1) := by decide +kernel
theorem dX3_refusalOfReading_13 : decode cX3_refusalOfReading 13 = .ok (.aload_n 0, 1) := by decide +kernel
theorem dX3_refusalOfReading_14 : decode cX3_refusalOfReading 14 = .ok (.iload_n 1, 1) := by decide +kernel
theorem dX3_refusalOfReading_15 : decode cX3_refusalOfReading 15 = .ok (.invokevirtual 86, 3) := by decide +kernel
theorem dX3_refusalOfReading_18 : decode cX3_refusalOfReading 18 = .ok (.ifCond .eq 14, 3) := by decide +kernel
theorem dX3_refusalOfReading_21 : decode cX3_refusalOfReading 21 = .ok (.iload_n 2, 1) := by decide +kernel
theorem dX3_refusalOfReading_22 : decode cX3_refusalOfReading 22 = .ok (.invokestatic 62, 3) := by decide +kernel
theorem dX3_refusalOfReading_25 : decode cX3_refusalOfReading 25 = .ok (.ifCond .eq 7, 3) := by decide +kernel
theorem dX3_refusalOfReading_28 : decode cX3_refusalOfReading 28 = .ok (.iconst 0, 1) := by decide +kernel
theorem dX3_refusalOfReading_29 : decode cX3_refusalOfReading 29 = .ok (.goto 5, 3) := by decide +kernel
theorem dX3_refusalOfReading_32 : decode cX3_refusalOfReading 32 = .ok (.bipush (-2), 2) := by decide +kernel
theorem dX3_refusalOfReading_34 : decode cX3_refusalOfReading 34 = .ok (.ireturn, 1) := by decide +kernel
set_option maxRecDepth 20000 in
theorem ggX3_lookUp_X3_refusalOfReading : GoodIn wsX3_lookUp wsX3_refusalOfReading := goodIn_r _ [5, 6, 7, 8, 9, 10, 11, 12, 13, 14, 15, 4, 16, 17, 18, 19, 20, 21, 60, 61, 62, 63, 64, 65, 66, 67, 68, 69, 70] (by decide +kernel) (by decide +kernel)
set_option maxRecDepth 20000 in
theorem gX3_lookUp_X3_refusalOfReading : GoodIn wsX3_lookUp (wsV RX3 101 RX3 yX3_refusalOfReading wsX3_refusalOfReading) := goodIn_app (goodIn_of _ (by decide +kernel)) ggX3_lookUp_X3_refusalOfReading
set_option maxRecDepth 20000 in
theorem ggX3_lookUp_X3_pageOfThing : GoodIn wsX3_lookUp wsX3_pageOfThing := goodIn_r _ [25, 26, 27, 28, 4, 29, 30, 31, 32, 33, 34, 35, 36, 37, 38, 39, 40, 41, 42, 43, 44, 45, 46, 47, 48, 49, 50, 51, 52, 53, 54, 55, 56, 57, 58, 59, 60, 61, 62, 63, 64, 65, 66, 67, 71, 72] (by decide +kernel) (by decide +kernel)
set_option maxRecDepth 20000 in
theorem gX3_lookUp_X3_pageOfThing : GoodIn wsX3_lookUp (wsV RX3 83 RX3 yX3_pageOfThing wsX3_pageOfThing) := goodIn_app (goodIn_of _ (by decide +kernel)) ggX3_lookUp_X3_pageOfThing
theorem dX3_lookUp_0 : decode cX3_lookUp 0 = .ok (.aload_n 0, 1) := by decide +kernel
theorem dX3_lookUp_1 : decode cX3_lookUp 1 = .ok (.iload_n 1, 1) := by decide +kernel
theorem dX3_lookUp_2 : decode cX3_lookUp 2 = .ok (.iload_n 2, 1) := by decide +kernel
theorem dX3_lookUp_3 : decode cX3_lookUp 3 = .ok (.invokevirtual 101, 3) := by decide +kernel
theorem dX3_lookUp_6 : decode cX3_lookUp 6 = .ok (.istore_n 3, 1) := by decide +kernel
theorem dX3_lookUp_7 : decode cX3_lookUp 7 = .ok (.iload_n 3, 1) := by decide +kernel
theorem dX3_lookUp_8 : decode cX3_lookUp 8 = .ok (.ifCond .eq 7, 3) := by decide +kernel
theorem dX3_lookUp_11 : decode cX3_lookUp 11 = .ok (.iload_n 3, 1) := by decide +kernel
theorem dX3_lookUp_12 : decode cX3_lookUp 12 = .ok (.goto 9, 3) := by decide +kernel
theorem dX3_lookUp_15 : decode cX3_lookUp 15 = .ok (.aload_n 0, 1) := by decide +kernel
theorem dX3_lookUp_16 : decode cX3_lookUp 16 = .ok (.iload_n 1, 1) := by decide +kernel
theorem dX3_lookUp_17 : decode cX3_lookUp 17 = .ok (.iload_n 2, 1) := by decide +kernel
theorem dX3_lookUp_18 : decode cX3_lookUp 18 = .ok (.invokevirtual 83, 3) := by decide +kernel
theorem dX3_lookUp_21 : decode cX3_lookUp 21 = .ok (.ireturn, 1) := by decide +kernel
set_option maxRecDepth 20000 in
theorem ggX3_pageOfThing_X3_pageOfRoot : GoodIn wsX3_pageOfThing wsX3_pageOfRoot := goodIn_r _ [5] (by decide +kernel) (by decide +kernel)
set_option maxRecDepth 20000 in
theorem gX3_pageOfThing_X3_pageOfRoot : GoodIn wsX3_pageOfThing (va_wsS RX3 104 yX3_pageOfRoot wsX3_pageOfRoot) := goodIn_app (goodIn_of _ (by decide +kernel)) ggX3_pageOfThing_X3_pageOfRoot
set_option maxRecDepth 20000 in
theorem ggX3_pageOfThing_X0_isRight : GoodIn wsX3_pageOfThing wsX0_isRight := goodIn_r _ [10, 11, 12, 13, 9, 14, 15, 16, 17, 18, 19, 20, 21, 22, 23, 24, 25, 26, 27, 28, 29, 3, 4, 5, 30, 31, 32, 33, 34, 44, 45] (by decide +kernel) (by decide +kernel)
set_option maxRecDepth 20000 in
theorem gX3_pageOfThing_X0_isRight : GoodIn wsX3_pageOfThing (wsV RX3 107 RX0 yX0_isRight wsX0_isRight) := goodIn_app (goodIn_of _ (by decide +kernel)) ggX3_pageOfThing_X0_isRight
set_option maxRecDepth 20000 in
theorem ggX3_pageOfThing_X0_at : GoodIn wsX3_pageOfThing wsX0_at := goodIn_r _ [14, 15, 44, 45] (by decide +kernel) (by decide +kernel)
set_option maxRecDepth 20000 in
theorem gX3_pageOfThing_X0_at : GoodIn wsX3_pageOfThing (wsV RX3 98 RX0 yX0_at wsX0_at) := goodIn_app (goodIn_of _ (by decide +kernel)) ggX3_pageOfThing_X0_at
theorem dX3_pageOfThing_0 : decode cX3_pageOfThing 0 = .ok (.iload_n 1, 1) := by decide +kernel
theorem dX3_pageOfThing_1 : decode cX3_pageOfThing 1 = .ok (.invokestatic 104, 3) := by decide +kernel
theorem dX3_pageOfThing_4 : decode cX3_pageOfThing 4 = .ok (.istore_n 3, 1) := by decide +kernel
theorem dX3_pageOfThing_5 : decode cX3_pageOfThing 5 = .ok (.aload_n 0, 1) := by decide +kernel
theorem dX3_pageOfThing_6 : decode cX3_pageOfThing 6 = .ok (.getfield 23, 3) := by decide +kernel
theorem dX3_pageOfThing_9 : decode cX3_pageOfThing 9 = .ok (.iload_n 3, 1) := by decide +kernel
theorem dX3_pageOfThing_10 : decode cX3_pageOfThing 10 = .ok (.iconst 1, 1) := by decide +kernel
theorem dX3_pageOfThing_11 : decode cX3_pageOfThing 11 = .ok (.invokevirtual 107, 3) := by decide +kernel
theorem dX3_pageOfThing_14 : decode cX3_pageOfThing 14 = .ok (.ifCond .ne 6, 3) := by decide +kernel
theorem dX3_pageOfThing_17 : decode cX3_pageOfThing 17 = .ok (.bipush (-4), 2) := by decide +kernel
theorem dX3_pageOfThing_19 : decode cX3_pageOfThing 19 = .ok (.ireturn, 1) := by decide +kernel
theorem dX3_pageOfThing_20 : decode cX3_pageOfThing 20 = .ok (.aload_n 0, 1) := by decide +kernel
theorem dX3_pageOfThing_21 : decode cX3_pageOfThing 21 = .ok (.getfield 23, 3) := by decide +kernel
theorem dX3_pageOfThing_24 : decode cX3_pageOfThing 24 = .ok (.iload_n 3, 1) := by decide +kernel
theorem dX3_pageOfThing_25 : decode cX3_pageOfThing 25 = .ok (.bipush 9, 2) := by decide +kernel
theorem dX3_pageOfThing_27 : decode cX3_pageOfThing 27 = .ok (.iload_n 2, 1) := by decide +kernel
theorem dX3_pageOfThing_28 : decode cX3_pageOfThing 28 = .ok (.bipush 32, 2) := by decide +kernel
theorem dX3_pageOfThing_30 : decode cX3_pageOfThing 30 = .ok (.idiv, 1) := by decide +kernel
theorem dX3_pageOfThing_31 : decode cX3_pageOfThing 31 = .ok (.iadd, 1) := by decide +kernel
theorem dX3_pageOfThing_32 : decode cX3_pageOfThing 32 = .ok (.invokevirtual 98, 3) := by decide +kernel
theorem dX3_pageOfThing_35 : decode cX3_pageOfThing 35 = .ok (.istore 4, 2) := by decide +kernel
theorem dX3_pageOfThing_37 : decode cX3_pageOfThing 37 = .ok (.iload 4, 2) := by decide +kernel
theorem dX3_pageOfThing_39 : decode cX3_pageOfThing 39 = .ok (.ifCond .ne 5, 3) := by decide +kernel
theorem dX3_pageOfThing_42 : decode cX3_pageOfThing 42 = .ok (.iconst (-1), 1) := by decide +kernel
theorem dX3_pageOfThing_43 : decode cX3_pageOfThing 43 = .ok (.ireturn, 1) := by decide +kernel
theorem dX3_pageOfThing_44 : decode cX3_pageOfThing 44 = .ok (.aload_n 0, 1) := by decide +kernel
theorem dX3_pageOfThing_45 : decode cX3_pageOfThing 45 = .ok (.getfield 23, 3) := by decide +kernel
theorem dX3_pageOfThing_48 : decode cX3_pageOfThing 48 = .ok (.iload 4, 2) := by decide +kernel
theorem dX3_pageOfThing_50 : decode cX3_pageOfThing 50 = .ok (.iconst 2, 1) := by decide +kernel
theorem dX3_pageOfThing_51 : decode cX3_pageOfThing 51 = .ok (.invokevirtual 107, 3) := by decide +kernel
theorem dX3_pageOfThing_54 : decode cX3_pageOfThing 54 = .ok (.ifCond .ne 6, 3) := by decide +kernel
theorem dX3_pageOfThing_57 : decode cX3_pageOfThing 57 = .ok (.bipush (-4), 2) := by decide +kernel
theorem dX3_pageOfThing_59 : decode cX3_pageOfThing 59 = .ok (.ireturn, 1) := by decide +kernel
theorem dX3_pageOfThing_60 : decode cX3_pageOfThing 60 = .ok (.aload_n 0, 1) := by decide +kernel
theorem dX3_pageOfThing_61 : decode cX3_pageOfThing 61 = .ok (.getfield 23, 3) := by decide +kernel
theorem dX3_pageOfThing_64 : decode cX3_pageOfThing 64 = .ok (.iload 4, 2) := by decide +kernel
theorem dX3_pageOfThing_66 : decode cX3_pageOfThing 66 = .ok (.iconst 2, 1) := by decide +kernel
theorem dX3_pageOfThing_67 : decode cX3_pageOfThing 67 = .ok (.iload_n 2, 1) := by decide +kernel
theorem dX3_pageOfThing_68 : decode cX3_pageOfThing 68 = .ok (.bipush 32, 2) := by decide +kernel
theorem dX3_pageOfThing_70 : decode cX3_pageOfThing 70 = .ok (.irem, 1) := by decide +kernel
theorem dX3_pageOfThing_71 : decode cX3_pageOfThing 71 = .ok (.iadd, 1) := by decide +kernel
theorem dX3_pageOfThing_72 : decode cX3_pageOfThing 72 = .ok (.invokevirtual 98, 3) := by decide +kernel
theorem dX3_pageOfThing_75 : decode cX3_pageOfThing 75 = .ok (.istore 5, 2) := by decide +kernel
theorem dX3_pageOfThing_77 : decode cX3_pageOfThing 77 = .ok (.iload 5, 2) := by decide +kernel
theorem dX3_pageOfThing_79 : decode cX3_pageOfThing 79 = .ok (.ifCond .ne 5, 3) := by decide +kernel
theorem dX3_pageOfThing_82 : decode cX3_pageOfThing 82 = .ok (.iconst (-1), 1) := by decide +kernel
theorem dX3_pageOfThing_83 : decode cX3_pageOfThing 83 = .ok (.ireturn, 1) := by decide +kernel
theorem dX3_pageOfThing_84 : decode cX3_pageOfThing 84 = .ok (.aload_n 0, 1) := by decide +kernel
theorem dX3_pageOfThing_85 : decode cX3_pageOfThing 85 = .ok (.getfield 23, 3) := by decide +kernel
theorem dX3_pageOfThing_88 : decode cX3_pageOfThing 88 = .ok (.iload 5, 2) := by decide +kernel
theorem dX3_pageOfThing_90 : decode cX3_pageOfThing 90 = .ok (.iconst 3, 1) := by decide +kernel
theorem dX3_pageOfThing_91 : decode cX3_pageOfThing 91 = .ok (.invokevirtual 107, 3) := by decide +kernel
theorem dX3_pageOfThing_94 : decode cX3_pageOfThing 94 = .ok (.ifCond .eq 8, 3) := by decide +kernel
theorem dX3_pageOfThing_97 : decode cX3_pageOfThing 97 = .ok (.iload 5, 2) := by decide +kernel
theorem dX3_pageOfThing_99 : decode cX3_pageOfThing 99 = .ok (.goto 5, 3) := by decide +kernel
theorem dX3_pageOfThing_102 : decode cX3_pageOfThing 102 = .ok (.bipush (-4), 2) := by decide +kernel
theorem dX3_pageOfThing_104 : decode cX3_pageOfThing 104 = .ok (.ireturn, 1) := by decide +kernel
set_option maxRecDepth 20000 in
theorem ggX3_nextThing_X0_isRight : GoodIn wsX3_nextThing wsX0_isRight := goodIn_r _ [6, 7, 8, 9, 5, 10, 11, 12, 13, 14, 15, 16, 17, 18, 19, 20, 21, 22, 23, 24, 25, 26, 27, 28, 29, 30, 31, 32, 33, 43, 44] (by decide +kernel) (by decide +kernel)
set_option maxRecDepth 20000 in
theorem gX3_nextThing_X0_isRight : GoodIn wsX3_nextThing (wsV RX3 107 RX0 yX0_isRight wsX0_isRight) := goodIn_app (goodIn_of _ (by decide +kernel)) ggX3_nextThing_X0_isRight
set_option maxRecDepth 20000 in
theorem ggX3_nextThing_X0_at : GoodIn wsX3_nextThing wsX0_at := goodIn_r _ [10, 11, 43, 44] (by decide +kernel) (by decide +kernel)
set_option maxRecDepth 20000 in
theorem gX3_nextThing_X0_at : GoodIn wsX3_nextThing (wsV RX3 98 RX0 yX0_at wsX0_at) := goodIn_app (goodIn_of _ (by decide +kernel)) ggX3_nextThing_X0_at
theorem dX3_nextThing_0 : decode cX3_nextThing 0 = .ok (.iload_n 1, 1) := by decide +kernel
theorem dX3_nextThing_1 : decode cX3_nextThing 1 = .ok (.ifCond .ne 5, 3) := by decide +kernel
theorem dX3_nextThing_4 : decode cX3_nextThing 4 = .ok (.iconst (-1), 1) := by decide +kernel
theorem dX3_nextThing_5 : decode cX3_nextThing 5 = .ok (.ireturn, 1) := by decide +kernel
theorem dX3_nextThing_6 : decode cX3_nextThing 6 = .ok (.aload_n 0, 1) := by decide +kernel
theorem dX3_nextThing_7 : decode cX3_nextThing 7 = .ok (.getfield 23, 3) := by decide +kernel
theorem dX3_nextThing_10 : decode cX3_nextThing 10 = .ok (.iload_n 1, 1) := by decide +kernel
theorem dX3_nextThing_11 : decode cX3_nextThing 11 = .ok (.iconst 2, 1) := by decide +kernel
theorem dX3_nextThing_12 : decode cX3_nextThing 12 = .ok (.invokevirtual 107, 3) := by decide +kernel
theorem dX3_nextThing_15 : decode cX3_nextThing 15 = .ok (.ifCond .ne 6, 3) := by decide +kernel
theorem dX3_nextThing_18 : decode cX3_nextThing 18 = .ok (.bipush (-4), 2) := by decide +kernel
theorem dX3_nextThing_20 : decode cX3_nextThing 20 = .ok (.ireturn, 1) := by decide +kernel
theorem dX3_nextThing_21 : decode cX3_nextThing 21 = .ok (.iload_n 2, 1) := by decide +kernel
theorem dX3_nextThing_22 : decode cX3_nextThing 22 = .ok (.istore_n 3, 1) := by decide +kernel
theorem dX3_nextThing_23 : decode cX3_nextThing 23 = .ok (.iload_n 3, 1) := by decide +kernel
theorem dX3_nextThing_24 : decode cX3_nextThing 24 = .ok (.bipush 32, 2) := by decide +kernel
theorem dX3_nextThing_26 : decode cX3_nextThing 26 = .ok (.if_icmp .ge 25, 3) := by decide +kernel
theorem dX3_nextThing_29 : decode cX3_nextThing 29 = .ok (.aload_n 0, 1) := by decide +kernel
theorem dX3_nextThing_30 : decode cX3_nextThing 30 = .ok (.getfield 23, 3) := by decide +kernel
theorem dX3_nextThing_33 : decode cX3_nextThing 33 = .ok (.iload_n 1, 1) := by decide +kernel
theorem dX3_nextThing_34 : decode cX3_nextThing 34 = .ok (.iconst 2, 1) := by decide +kernel
theorem dX3_nextThing_35 : decode cX3_nextThing 35 = .ok (.iload_n 3, 1) := by decide +kernel
theorem dX3_nextThing_36 : decode cX3_nextThing 36 = .ok (.iadd, 1) := by decide +kernel
theorem dX3_nextThing_37 : decode cX3_nextThing 37 = .ok (.invokevirtual 98, 3) := by decide +kernel
theorem dX3_nextThing_40 : decode cX3_nextThing 40 = .ok (.ifCond .eq 5, 3) := by decide +kernel
theorem dX3_nextThing_43 : decode cX3_nextThing 43 = .ok (.iload_n 3, 1) := by decide +kernel
theorem dX3_nextThing_44 : decode cX3_nextThing 44 = .ok (.ireturn, 1) := by decide +kernel
theorem dX3_nextThing_45 : decode cX3_nextThing 45 = .ok (.iinc 3 1, 3) := by decide +kernel
theorem dX3_nextThing_48 : decode cX3_nextThing 48 = .ok (.goto (-25), 3) := by decide +kernel
theorem dX3_nextThing_51 : decode cX3_nextThing 51 = .ok (.iconst (-1), 1) := by decide +kernel
theorem dX3_nextThing_52 : decode cX3_nextThing 52 = .ok (.ireturn, 1) := by decide +kernel
set_option maxRecDepth 20000 in
theorem ggX3_keysOfNewest_X3_pageOfRoot : GoodIn wsX3_keysOfNewest wsX3_pageOfRoot := goodIn_r _ [6] (by decide +kernel) (by decide +kernel)
set_option maxRecDepth 20000 in
theorem gX3_keysOfNewest_X3_pageOfRoot : GoodIn wsX3_keysOfNewest (va_wsS RX3 104 yX3_pageOfRoot wsX3_pageOfRoot) := goodIn_app (goodIn_of _ (by decide +kernel)) ggX3_keysOfNewest_X3_pageOfRoot
set_option maxRecDepth 20000 in
theorem ggX3_keysOfNewest_X0_isRight : GoodIn wsX3_keysOfNewest wsX0_isRight := goodIn_r _ [11, 12, 13, 14, 10, 15, 16, 17, 18, 19, 20, 21, 22, 23, 24, 25, 26, 27, 28, 29, 30, 4, 5, 6, 31, 32, 33, 34, 35, 49, 50] (by decide +kernel) (by decide +kernel)
set_option maxRecDepth 20000 in
theorem gX3_keysOfNewest_X0_isRight : GoodIn wsX3_keysOfNewest (wsV RX3 107 RX0 yX0_isRight wsX0_isRight) := goodIn_app (goodIn_of _ (by decide +kernel)) ggX3_keysOfNewest_X0_isRight
set_option maxRecDepth 20000 in
theorem ggX3_keysOfNewest_X0_at : GoodIn wsX3_keysOfNewest wsX0_at := goodIn_r _ [15, 16, 49, 50] (by decide +kernel) (by decide +kernel)
set_option maxRecDepth 20000 in
theorem gX3_keysOfNewest_X0_at : GoodIn wsX3_keysOfNewest (wsV RX3 98 RX0 yX0_at wsX0_at) := goodIn_app (goodIn_of _ (by decide +kernel)) ggX3_keysOfNewest_X0_at
set_option maxRecDepth 20000 in
theorem ggX3_keysOfNewest_X0_pagesTold : GoodIn wsX3_keysOfNewest wsX0_pagesTold := goodIn_r _ [40, 12, 13, 14, 10, 15, 16, 49, 50] (by decide +kernel) (by decide +kernel)
set_option maxRecDepth 20000 in
theorem gX3_keysOfNewest_X0_pagesTold : GoodIn wsX3_keysOfNewest (wsV RX3 146 RX0 yX0_pagesTold wsX0_pagesTold) := goodIn_app (goodIn_of _ (by decide +kernel)) ggX3_keysOfNewest_X0_pagesTold
theorem dX3_keysOfNewest_0 : decode cX3_keysOfNewest 0 = .ok (.aload_n 0, 1) := by decide +kernel
theorem dX3_keysOfNewest_1 : decode cX3_keysOfNewest 1 = .ok (.getfield 52, 3) := by decide +kernel
theorem dX3_keysOfNewest_4 : decode cX3_keysOfNewest 4 = .ok (.invokestatic 104, 3) := by decide +kernel
theorem dX3_keysOfNewest_7 : decode cX3_keysOfNewest 7 = .ok (.istore_n 1, 1) := by decide +kernel
theorem dX3_keysOfNewest_8 : decode cX3_keysOfNewest 8 = .ok (.aload_n 0, 1) := by decide +kernel
theorem dX3_keysOfNewest_9 : decode cX3_keysOfNewest 9 = .ok (.getfield 52, 3) := by decide +kernel
theorem dX3_keysOfNewest_12 : decode cX3_keysOfNewest 12 = .ok (.ifCond .eq 15, 3) := by decide +kernel
theorem dX3_keysOfNewest_15 : decode cX3_keysOfNewest 15 = .ok (.aload_n 0, 1) := by decide +kernel
theorem dX3_keysOfNewest_16 : decode cX3_keysOfNewest 16 = .ok (.getfield 23, 3) := by decide +kernel
theorem dX3_keysOfNewest_19 : decode cX3_keysOfNewest 19 = .ok (.iload_n 1, 1) := by decide +kernel
theorem dX3_keysOfNewest_20 : decode cX3_keysOfNewest 20 = .ok (.iconst 1, 1) := by decide +kernel
theorem dX3_keysOfNewest_21 : decode cX3_keysOfNewest 21 = .ok (.invokevirtual 107, 3) := by decide +kernel
theorem dX3_keysOfNewest_24 : decode cX3_keysOfNewest 24 = .ok (.ifCond .ne 5, 3) := by decide +kernel
theorem dX3_keysOfNewest_27 : decode cX3_keysOfNewest 27 = .ok (.iconst 0, 1) := by decide +kernel
theorem dX3_keysOfNewest_28 : decode cX3_keysOfNewest 28 = .ok (.ireturn, 1) := by decide +kernel
theorem dX3_keysOfNewest_29 : decode cX3_keysOfNewest 29 = .ok (.iconst 0, 1) := by decide +kernel
theorem dX3_keysOfNewest_30 : decode cX3_keysOfNewest 30 = .ok (.istore_n 2, 1) := by decide +kernel
theorem dX3_keysOfNewest_31 : decode cX3_keysOfNewest 31 = .ok (.iconst 0, 1) := by decide +kernel
theorem dX3_keysOfNewest_32 : decode cX3_keysOfNewest 32 = .ok (.istore_n 3, 1) := by decide +kernel
theorem dX3_keysOfNewest_33 : decode cX3_keysOfNewest 33 = .ok (.iload_n 3, 1) := by decide +kernel
theorem dX3_keysOfNewest_34 : decode cX3_keysOfNewest 34 = .ok (.bipush 32, 2) := by decide +kernel
theorem dX3_keysOfNewest_36 : decode cX3_keysOfNewest 36 = .ok (.if_icmp .ge 56, 3) := by decide +kernel
theorem dX3_keysOfNewest_39 : decode cX3_keysOfNewest 39 = .ok (.aload_n 0, 1) := by decide +kernel
theorem dX3_keysOfNewest_40 : decode cX3_keysOfNewest 40 = .ok (.getfield 23, 3) := by decide +kernel
theorem dX3_keysOfNewest_43 : decode cX3_keysOfNewest 43 = .ok (.iload_n 1, 1) := by decide +kernel
theorem dX3_keysOfNewest_44 : decode cX3_keysOfNewest 44 = .ok (.bipush 9, 2) := by decide +kernel
theorem dX3_keysOfNewest_46 : decode cX3_keysOfNewest 46 = .ok (.iload_n 3, 1) := by decide +kernel
theorem dX3_keysOfNewest_47 : decode cX3_keysOfNewest 47 = .ok (.iadd, 1) := by decide +kernel
theorem dX3_keysOfNewest_48 : decode cX3_keysOfNewest 48 = .ok (.invokevirtual 98, 3) := by decide +kernel
theorem dX3_keysOfNewest_51 : decode cX3_keysOfNewest 51 = .ok (.istore 4, 2) := by decide +kernel
theorem dX3_keysOfNewest_53 : decode cX3_keysOfNewest 53 = .ok (.iload 4, 2) := by decide +kernel
theorem dX3_keysOfNewest_55 : decode cX3_keysOfNewest 55 = .ok (.ifCond .eq 31, 3) := by decide +kernel
theorem dX3_keysOfNewest_58 : decode cX3_keysOfNewest 58 = .ok (.aload_n 0, 1) := by decide +kernel
theorem dX3_keysOfNewest_59 : decode cX3_keysOfNewest 59 = .ok (.getfield 23, 3) := by decide +kernel
theorem dX3_keysOfNewest_62 : decode cX3_keysOfNewest 62 = .ok (.iload 4, 2) := by decide +kernel
theorem dX3_keysOfNewest_64 : decode cX3_keysOfNewest 64 = .ok (.iconst 2, 1) := by decide +kernel
theorem dX3_keysOfNewest_65 : decode cX3_keysOfNewest 65 = .ok (.invokevirtual 107, 3) := by decide +kernel
theorem dX3_keysOfNewest_68 : decode cX3_keysOfNewest 68 = .ok (.ifCond .eq 18, 3) := by decide +kernel
theorem dX3_keysOfNewest_71 : decode cX3_keysOfNewest 71 = .ok (.iload_n 2, 1) := by decide +kernel
theorem dX3_keysOfNewest_72 : decode cX3_keysOfNewest 72 = .ok (.aload_n 0, 1) := by decide +kernel
theorem dX3_keysOfNewest_73 : decode cX3_keysOfNewest 73 = .ok (.getfield 23, 3) := by decide +kernel
theorem dX3_keysOfNewest_76 : decode cX3_keysOfNewest 76 = .ok (.iload 4, 2) := by decide +kernel
theorem dX3_keysOfNewest_78 : decode cX3_keysOfNewest 78 = .ok (.iconst 2, 1) := by decide +kernel
theorem dX3_keysOfNewest_79 : decode cX3_keysOfNewest 79 = .ok (.bipush 32, 2) := by decide +kernel
theorem dX3_keysOfNewest_81 : decode cX3_keysOfNewest 81 = .ok (.invokevirtual 146, 3) := by decide +kernel
theorem dX3_keysOfNewest_84 : decode cX3_keysOfNewest 84 = .ok (.iadd, 1) := by decide +kernel
theorem dX3_keysOfNewest_85 : decode cX3_keysOfNewest 85 = .ok (.istore_n 2, 1) := by decide +kernel
theorem dX3_keysOfNewest_86 : decode cX3_keysOfNewest 86 = .ok (.iinc 3 1, 3) := by decide +kernel
theorem dX3_keysOfNewest_89 : decode cX3_keysOfNewest 89 = .ok (.goto (-56), 3) := by decide +kernel
theorem dX3_keysOfNewest_92 : decode cX3_keysOfNewest 92 = .ok (.iload_n 2, 1) := by decide +kernel
theorem dX3_keysOfNewest_93 : decode cX3_keysOfNewest 93 = .ok (.ireturn, 1) := by decide +kernel
set_option maxRecDepth 20000 in
theorem ggX3_writeThing_X0_begin : GoodIn wsX3_writeThing wsX0_begin := goodIn_r _ [8, 9, 10, 11, 12, 13, 14, 15, 16, 17, 18, 19, 7, 20, 65, 66] (by decide +kernel) (by decide +kernel)
set_option maxRecDepth 20000 in
theorem gX3_writeThing_X0_begin : GoodIn wsX3_writeThing (wsV RX3 149 RX0 yX0_begin wsX0_begin) := goodIn_app (goodIn_of _ (by decide +kernel)) ggX3_writeThing_X0_begin
set_option maxRecDepth 20000 in
theorem ggX3_writeThing_X0_set : GoodIn wsX3_writeThing wsX0_set := goodIn_r _ [20, 9, 65, 66] (by decide +kernel) (by decide +kernel)
set_option maxRecDepth 20000 in
theorem gX3_writeThing_X0_set : GoodIn wsX3_writeThing (wsV RX3 125 RX0 yX0_set wsX0_set) := goodIn_app (goodIn_of _ (by decide +kernel)) ggX3_writeThing_X0_set
set_option maxRecDepth 20000 in
theorem ggX3_writeThing_X3_finishPage : GoodIn wsX3_writeThing wsX3_finishPage := goodIn_r _ [26, 1, 27, 28, 29, 30, 7, 31, 32, 33, 34, 35, 36, 37, 38, 39, 40, 9, 41, 42, 43, 44, 45, 46, 47, 48, 49, 50, 51, 52, 53, 54, 55, 56, 57, 58, 59, 60, 61, 62, 63, 64, 65, 66, 67, 68, 69] (by decide +kernel) (by decide +kernel)
set_option maxRecDepth 20000 in
theorem gX3_writeThing_X3_finishPage : GoodIn wsX3_writeThing (wsV RX3 153 RX3 yX3_finishPage wsX3_finishPage) := goodIn_app (goodIn_of _ (by decide +kernel)) ggX3_writeThing_X3_finishPage
theorem dX3_writeThing_0 : decode cX3_writeThing 0 = .ok (.aload_n 0, 1) := by decide +kernel
theorem dX3_writeThing_1 : decode cX3_writeThing 1 = .ok (.getfield 23, 3) := by decide +kernel
theorem dX3_writeThing_4 : decode cX3_writeThing 4 = .ok (.iload_n 1, 1) := by decide +kernel
theorem dX3_writeThing_5 : decode cX3_writeThing 5 = .ok (.iconst 3, 1) := by decide +kernel
theorem dX3_writeThing_6 : decode cX3_writeThing 6 = .ok (.invokevirtual 149, 3) := by decide +kernel
theorem dX3_writeThing_9 : decode cX3_writeThing 9 = .ok (.aload_n 0, 1) := by decide +kernel
theorem dX3_writeThing_10 : decode cX3_writeThing 10 = .ok (.getfield 23, 3) := by decide +kernel
theorem dX3_writeThing_13 : decode cX3_writeThing 13 = .ok (.iload_n 1, 1) := by decide +kernel
theorem dX3_writeThing_14 : decode cX3_writeThing 14 = .ok (.iconst 1, 1) := by decide +kernel
theorem dX3_writeThing_15 : decode cX3_writeThing 15 = .ok (.iload_n 2, 1) := by decide +kernel
theorem dX3_writeThing_16 : decode cX3_writeThing 16 = .ok (.sipush 256, 3) := by decide +kernel
theorem dX3_writeThing_19 : decode cX3_writeThing 19 = .ok (.idiv, 1) := by decide +kernel
theorem dX3_writeThing_20 : decode cX3_writeThing 20 = .ok (.invokevirtual 125, 3) := by decide +kernel
theorem dX3_writeThing_23 : decode cX3_writeThing 23 = .ok (.aload_n 0, 1) := by decide +kernel
theorem dX3_writeThing_24 : decode cX3_writeThing 24 = .ok (.getfield 23, 3) := by decide +kernel
theorem dX3_writeThing_27 : decode cX3_writeThing 27 = .ok (.iload_n 1, 1) := by decide +kernel
theorem dX3_writeThing_28 : decode cX3_writeThing 28 = .ok (.iconst 2, 1) := by decide +kernel
theorem dX3_writeThing_29 : decode cX3_writeThing 29 = .ok (.iload_n 2, 1) := by decide +kernel
theorem dX3_writeThing_30 : decode cX3_writeThing 30 = .ok (.sipush 256, 3) := by decide +kernel
theorem dX3_writeThing_33 : decode cX3_writeThing 33 = .ok (.irem, 1) := by decide +kernel
theorem dX3_writeThing_34 : decode cX3_writeThing 34 = .ok (.invokevirtual 125, 3) := by decide +kernel
theorem dX3_writeThing_37 : decode cX3_writeThing 37 = .ok (.aload_n 0, 1) := by decide +kernel
theorem dX3_writeThing_38 : decode cX3_writeThing 38 = .ok (.getfield 23, 3) := by decide +kernel
theorem dX3_writeThing_41 : decode cX3_writeThing 41 = .ok (.iload_n 1, 1) := by decide +kernel
theorem dX3_writeThing_42 : decode cX3_writeThing 42 = .ok (.iconst 3, 1) := by decide +kernel
theorem dX3_writeThing_43 : decode cX3_writeThing 43 = .ok (.aload_n 0, 1) := by decide +kernel
theorem dX3_writeThing_44 : decode cX3_writeThing 44 = .ok (.getfield 48, 3) := by decide +kernel
theorem dX3_writeThing_47 : decode cX3_writeThing 47 = .ok (.invokevirtual 125, 3) := by decide +kernel
theorem dX3_writeThing_50 : decode cX3_writeThing 50 = .ok (.iconst 0, 1) := by decide +kernel
theorem dX3_writeThing_51 : decode cX3_writeThing 51 = .ok (.istore_n 3, 1) := by decide +kernel
theorem dX3_writeThing_52 : decode cX3_writeThing 52 = .ok (.iload_n 3, 1) := by decide +kernel
theorem dX3_writeThing_53 : decode cX3_writeThing 53 = .ok (.aload_n 0, 1) := by decide +kernel
theorem dX3_writeThing_54 : decode cX3_writeThing 54 = .ok (.getfield 48, 3) := by decide +kernel
theorem dX3_writeThing_57 : decode cX3_writeThing 57 = .ok (.if_icmp .ge 26, 3) := by decide +kernel
theorem dX3_writeThing_60 : decode cX3_writeThing 60 = .ok (.aload_n 0, 1) := by decide +kernel
theorem dX3_writeThing_61 : decode cX3_writeThing 61 = .ok (.getfield 23, 3) := by decide +kernel
theorem dX3_writeThing_64 : decode cX3_writeThing 64 = .ok (.iload_n 1, 1) := by decide +kernel
theorem dX3_writeThing_65 : decode cX3_writeThing 65 = .ok (.iconst 4, 1) := by decide +kernel
theorem dX3_writeThing_66 : decode cX3_writeThing 66 = .ok (.iload_n 3, 1) := by decide +kernel
theorem dX3_writeThing_67 : decode cX3_writeThing 67 = .ok (.iadd, 1) := by decide +kernel
theorem dX3_writeThing_68 : decode cX3_writeThing 68 = .ok (.aload_n 0, 1) := by decide +kernel
theorem dX3_writeThing_69 : decode cX3_writeThing 69 = .ok (.getfield 41, 3) := by decide +kernel
theorem dX3_writeThing_72 : decode cX3_writeThing 72 = .ok (.iload_n 3, 1) := by decide +kernel
theorem dX3_writeThing_73 : decode cX3_writeThing 73 = .ok (.iaload, 1) := by decide +kernel
theorem dX3_writeThing_74 : decode cX3_writeThing 74 = .ok (.invokevirtual 125, 3) := by decide +kernel
theorem dX3_writeThing_77 : decode cX3_writeThing 77 = .ok (.iinc 3 1, 3) := by decide +kernel
theorem dX3_writeThing_80 : decode cX3_writeThing 80 = .ok (.goto (-28), 3) := by decide +kernel
theorem dX3_writeThing_83 : decode cX3_writeThing 83 = .ok (.aload_n 0, 1) := by decide +kernel
theorem dX3_writeThing_84 : decode cX3_writeThing 84 = .ok (.iconst 0, 1) := by decide +kernel
theorem dX3_writeThing_85 : decode cX3_writeThing 85 = .ok (.putfield 48, 3) := by decide +kernel
theorem dX3_writeThing_88 : decode cX3_writeThing 88 = .ok (.aload_n 0, 1) := by decide +kernel
theorem dX3_writeThing_89 : decode cX3_writeThing 89 = .ok (.iload_n 1, 1) := by decide +kernel
theorem dX3_writeThing_90 : decode cX3_writeThing 90 = .ok (.invokevirtual 153, 3) := by decide +kernel
theorem dX3_writeThing_93 : decode cX3_writeThing 93 = .ok (.ireturn, 1) := by decide +kernel
set_option maxRecDepth 20000 in
theorem ggX3_writeVersion_X3_writeNode : GoodIn wsX3_writeVersion wsX3_writeNode := goodIn_r _ [12, 7, 13, 14, 15, 16, 11, 17, 1, 18, 19, 20, 21, 22, 23, 24, 25, 26, 27, 28, 29, 30, 31, 32, 33, 34, 35, 36, 37, 38, 39, 40, 41, 42, 43, 44, 45, 46, 47, 48, 49, 50, 51, 52, 53, 54, 55, 56, 57, 58, 59, 60, 61, 62, 63, 64, 65, 66, 67, 68, 69, 70, 71, 72, 73, 74, 75, 76, 77, 78, 79, 80, 81, 82, 83, 84, 85, 86, 87, 88, 89, 90, 91, 92, 102, 103, 104, 105, 106, 107, 108, 109, 110, 111, 112, 113, 114] (by decide +kernel) (by decide +kernel)
set_option maxRecDepth 20000 in
theorem gX3_writeVersion_X3_writeNode : GoodIn wsX3_writeVersion (wsV RX3 156 RX3 yX3_writeNode wsX3_writeNode) := goodIn_app (goodIn_of _ (by decide +kernel)) ggX3_writeVersion_X3_writeNode
set_option maxRecDepth 20000 in
theorem ggX3_writeVersion_X3_takePlacesOfNewestRoot : GoodIn wsX3_writeVersion wsX3_takePlacesOfNewestRoot := goodIn_r _ [96, 1, 7, 13, 31, 32, 33, 34, 18, 19, 11, 20, 35, 36, 37, 24, 38, 26, 39, 40, 41, 42, 102, 103, 104, 105, 106, 107, 108, 109, 110, 111] (by decide +kernel) (by decide +kernel)
set_option maxRecDepth 20000 in
theorem gX3_writeVersion_X3_takePlacesOfNewestRoot : GoodIn wsX3_writeVersion (wsV RX3 89 RX3 yX3_takePlacesOfNewestRoot wsX3_takePlacesOfNewestRoot) := goodIn_app (goodIn_of _ (by decide +kernel)) ggX3_writeVersion_X3_takePlacesOfNewestRoot
set_option maxRecDepth 20000 in
theorem ggX3_writeVersion_X3_writeRoot : GoodIn wsX3_writeVersion wsX3_writeRoot := goodIn_r _ [100, 13, 7, 18, 19, 11, 20, 43, 44, 45, 24, 46, 26, 47, 48, 33, 49, 50, 51, 52, 53, 54, 55, 56, 101, 78, 79, 80, 58, 59, 60, 61, 39, 40, 41, 42, 62, 63, 64, 65, 66, 67, 68, 69, 70, 71, 72, 73, 74, 75, 76, 22, 23, 25, 77, 81, 82, 83, 84, 85, 86, 87, 88, 89, 90, 91, 92, 102, 103, 104, 105, 106, 107, 108, 109, 110, 111, 112, 113, 114] (by decide +kernel) (by decide +kernel)
set_option maxRecDepth 20000 in
theorem gX3_writeVersion_X3_writeRoot : GoodIn wsX3_writeVersion (wsV RX3 92 RX3 yX3_writeRoot wsX3_writeRoot) := goodIn_app (goodIn_of _ (by decide +kernel)) ggX3_writeVersion_X3_writeRoot
theorem dX3_writeVersion_0 : decode cX3_writeVersion 0 = .ok (.aload_n 0, 1) := by decide +kernel
theorem dX3_writeVersion_1 : decode cX3_writeVersion 1 = .ok (.iload_n 1, 1) := by decide +kernel
theorem dX3_writeVersion_2 : decode cX3_writeVersion 2 = .ok (.iload_n 2, 1) := by decide +kernel
theorem dX3_writeVersion_3 : decode cX3_writeVersion 3 = .ok (.iload_n 3, 1) := by decide +kernel
theorem dX3_writeVersion_4 : decode cX3_writeVersion 4 = .ok (.invokevirtual 156, 3) := by decide +kernel
theorem dX3_writeVersion_7 : decode cX3_writeVersion 7 = .ok (.ifCond .ne 6, 3) := by decide +kernel
theorem dX3_writeVersion_10 : decode cX3_writeVersion 10 = .ok (.bipush (-3), 2) := by decide +kernel
theorem dX3_writeVersion_12 : decode cX3_writeVersion 12 = .ok (.ireturn, 1) := by decide +kernel
theorem dX3_writeVersion_13 : decode cX3_writeVersion 13 = .ok (.aload_n 0, 1) := by decide +kernel
theorem dX3_writeVersion_14 : decode cX3_writeVersion 14 = .ok (.getfield 52, 3) := by decide +kernel
theorem dX3_writeVersion_17 : decode cX3_writeVersion 17 = .ok (.iconst 1, 1) := by decide +kernel
theorem dX3_writeVersion_18 : decode cX3_writeVersion 18 = .ok (.iadd, 1) := by decide +kernel
theorem dX3_writeVersion_19 : decode cX3_writeVersion 19 = .ok (.istore 4, 2) := by decide +kernel
theorem dX3_writeVersion_21 : decode cX3_writeVersion 21 = .ok (.aload_n 0, 1) := by decide +kernel
theorem dX3_writeVersion_22 : decode cX3_writeVersion 22 = .ok (.getfield 55, 3) := by decide +kernel
theorem dX3_writeVersion_25 : decode cX3_writeVersion 25 = .ok (.iload 4, 2) := by decide +kernel
theorem dX3_writeVersion_27 : decode cX3_writeVersion 27 = .ok (.bipush 7, 2) := by decide +kernel
theorem dX3_writeVersion_29 : decode cX3_writeVersion 29 = .ok (.isub, 1) := by decide +kernel
theorem dX3_writeVersion_30 : decode cX3_writeVersion 30 = .ok (.invokestatic 15, 3) := by decide +kernel
theorem dX3_writeVersion_33 : decode cX3_writeVersion 33 = .ok (.istore 5, 2) := by decide +kernel
theorem dX3_writeVersion_35 : decode cX3_writeVersion 35 = .ok (.aload_n 0, 1) := by decide +kernel
theorem dX3_writeVersion_36 : decode cX3_writeVersion 36 = .ok (.invokevirtual 89, 3) := by decide +kernel
theorem dX3_writeVersion_39 : decode cX3_writeVersion 39 = .ok (.aload_n 0, 1) := by decide +kernel
theorem dX3_writeVersion_40 : decode cX3_writeVersion 40 = .ok (.getfield 45, 3) := by decide +kernel
theorem dX3_writeVersion_43 : decode cX3_writeVersion 43 = .ok (.iload_n 2, 1) := by decide +kernel
theorem dX3_writeVersion_44 : decode cX3_writeVersion 44 = .ok (.bipush 32, 2) := by decide +kernel
theorem dX3_writeVersion_46 : decode cX3_writeVersion 46 = .ok (.idiv, 1) := by decide +kernel
theorem dX3_writeVersion_47 : decode cX3_writeVersion 47 = .ok (.iload_n 1, 1) := by decide +kernel
theorem dX3_writeVersion_48 : decode cX3_writeVersion 48 = .ok (.iastore, 1) := by decide +kernel
theorem dX3_writeVersion_49 : decode cX3_writeVersion 49 = .ok (.aload_n 0, 1) := by decide +kernel
theorem dX3_writeVersion_50 : decode cX3_writeVersion 50 = .ok (.iload 4, 2) := by decide +kernel
theorem dX3_writeVersion_52 : decode cX3_writeVersion 52 = .ok (.iload 5, 2) := by decide +kernel
theorem dX3_writeVersion_54 : decode cX3_writeVersion 54 = .ok (.invokevirtual 92, 3) := by decide +kernel
theorem dX3_writeVersion_57 : decode cX3_writeVersion 57 = .ok (.ifCond .ne 6, 3) := by decide +kernel
theorem dX3_writeVersion_60 : decode cX3_writeVersion 60 = .ok (.bipush (-3), 2) := by decide +kernel
theorem dX3_writeVersion_62 : decode cX3_writeVersion 62 = .ok (.ireturn, 1) := by decide +kernel
theorem dX3_writeVersion_63 : decode cX3_writeVersion 63 = .ok (.aload_n 0, 1) := by decide +kernel
theorem dX3_writeVersion_64 : decode cX3_writeVersion 64 = .ok (.iload 4, 2) := by decide +kernel
theorem dX3_writeVersion_66 : decode cX3_writeVersion 66 = .ok (.putfield 52, 3) := by decide +kernel
theorem dX3_writeVersion_69 : decode cX3_writeVersion 69 = .ok (.aload_n 0, 1) := by decide +kernel
theorem dX3_writeVersion_70 : decode cX3_writeVersion 70 = .ok (.iload 5, 2) := by decide +kernel
theorem dX3_writeVersion_72 : decode cX3_writeVersion 72 = .ok (.putfield 55, 3) := by decide +kernel
theorem dX3_writeVersion_75 : decode cX3_writeVersion 75 = .ok (.iload 4, 2) := by decide +kernel
theorem dX3_writeVersion_77 : decode cX3_writeVersion 77 = .ok (.ireturn, 1) := by decide +kernel
set_option maxRecDepth 20000 in
theorem ggX3_writeNode_X3_pageOfNewestNode : GoodIn wsX3_writeNode wsX3_pageOfNewestNode := goodIn_r _ [7, 8, 2, 9, 10, 6, 11, 12, 13, 14, 15, 16, 17, 84, 85, 86, 87, 88, 89, 90, 91, 92, 93] (by decide +kernel) (by decide +kernel)
set_option maxRecDepth 20000 in
theorem gX3_writeNode_X3_pageOfNewestNode : GoodIn wsX3_writeNode (wsV RX3 160 RX3 yX3_pageOfNewestNode wsX3_pageOfNewestNode) := goodIn_app (goodIn_of _ (by decide +kernel)) ggX3_writeNode_X3_pageOfNewestNode
set_option maxRecDepth 20000 in
theorem ggX3_writeNode_X3_takePlacesOfNode : GoodIn wsX3_writeNode wsX3_takePlacesOfNode := goodIn_r _ [21, 1, 2, 22, 23, 24, 25, 26, 27, 28, 15, 29, 17, 30, 31, 32, 33, 84, 85, 86, 87, 88, 89, 90, 91, 92, 93] (by decide +kernel) (by decide +kernel)
set_option maxRecDepth 20000 in
theorem gX3_writeNode_X3_takePlacesOfNode : GoodIn wsX3_writeNode (wsV RX3 163 RX3 yX3_takePlacesOfNode wsX3_takePlacesOfNode) := goodIn_app (goodIn_of _ (by decide +kernel)) ggX3_writeNode_X3_takePlacesOfNode
set_option maxRecDepth 20000 in
theorem ggX3_writeNode_X0_begin : GoodIn wsX3_writeNode wsX0_begin := goodIn_r _ [37, 17, 38, 39, 24, 40, 41, 42, 43, 44, 45, 46, 15, 47, 92, 93] (by decide +kernel) (by decide +kernel)
set_option maxRecDepth 20000 in
theorem gX3_writeNode_X0_begin : GoodIn wsX3_writeNode (wsV RX3 149 RX0 yX0_begin wsX0_begin) := goodIn_app (goodIn_of _ (by decide +kernel)) ggX3_writeNode_X0_begin
set_option maxRecDepth 20000 in
theorem ggX3_writeNode_X0_set : GoodIn wsX3_writeNode wsX0_set := goodIn_r _ [47, 17, 92, 93] (by decide +kernel) (by decide +kernel)
set_option maxRecDepth 20000 in
theorem gX3_writeNode_X0_set : GoodIn wsX3_writeNode (wsV RX3 125 RX0 yX0_set wsX0_set) := goodIn_app (goodIn_of _ (by decide +kernel)) ggX3_writeNode_X0_set
set_option maxRecDepth 20000 in
theorem ggX3_writeNode_X0_setPlaces : GoodIn wsX3_writeNode wsX0_setPlaces := goodIn_r _ [52, 17, 30, 31, 32, 33, 92, 93] (by decide +kernel) (by decide +kernel)
set_option maxRecDepth 20000 in
theorem gX3_writeNode_X0_setPlaces : GoodIn wsX3_writeNode (wsV RX3 166 RX0 yX0_setPlaces wsX0_setPlaces) := goodIn_app (goodIn_of _ (by decide +kernel)) ggX3_writeNode_X0_setPlaces
set_option maxRecDepth 20000 in
theorem ggX3_writeNode_X3_finishPage : GoodIn wsX3_writeNode wsX3_finishPage := goodIn_r _ [56, 2, 57, 58, 59, 60, 15, 61, 62, 63, 64, 65, 66, 67, 13, 14, 16, 17, 68, 69, 70, 71, 72, 73, 74, 75, 76, 77, 78, 79, 80, 81, 82, 83, 84, 85, 86, 87, 88, 89, 90, 91, 92, 93, 94, 95, 96] (by decide +kernel) (by decide +kernel)
set_option maxRecDepth 20000 in
theorem gX3_writeNode_X3_finishPage : GoodIn wsX3_writeNode (wsV RX3 153 RX3 yX3_finishPage wsX3_finishPage) := goodIn_app (goodIn_of _ (by decide +kernel)) ggX3_writeNode_X3_finishPage
theorem dX3_writeNode_0 : decode cX3_writeNode 0 = .ok (.iload_n 2, 1) := by decide +kernel
theorem dX3_writeNode_1 : decode cX3_writeNode 1 = .ok (.bipush 32, 2) := by decide +kernel
theorem dX3_writeNode_3 : decode cX3_writeNode 3 = .ok (.idiv, 1) := by decide +kernel
theorem dX3_writeNode_4 : decode cX3_writeNode 4 = .ok (.istore 4, 2) := by decide +kernel
theorem dX3_writeNode_6 : decode cX3_writeNode 6 = .ok (.aload_n 0, 1) := by decide +kernel
theorem dX3_writeNode_7 : decode cX3_writeNode 7 = .ok (.aload_n 0, 1) := by decide +kernel
theorem dX3_writeNode_8 : decode cX3_writeNode 8 = .ok (.iload 4, 2) := by decide +kernel
theorem dX3_writeNode_10 : decode cX3_writeNode 10 = .ok (.invokevirtual 160, 3) := by decide +kernel
theorem dX3_writeNode_13 : decode cX3_writeNode 13 = .ok (.invokevirtual 163, 3) := by decide +kernel
theorem dX3_writeNode_16 : decode cX3_writeNode 16 = .ok (.aload_n 0, 1) := by decide +kernel
theorem dX3_writeNode_17 : decode cX3_writeNode 17 = .ok (.getfield 45, 3) := by decide +kernel
theorem dX3_writeNode_20 : decode cX3_writeNode 20 = .ok (.iload_n 2, 1) := by decide +kernel
theorem dX3_writeNode_21 : decode cX3_writeNode 21 = .ok (.bipush 32, 2) := by decide +kernel
theorem dX3_writeNode_23 : decode cX3_writeNode 23 = .ok (.irem, 1) := by decide +kernel
theorem dX3_writeNode_24 : decode cX3_writeNode 24 = .ok (.iload_n 3, 1) := by decide +kernel
theorem dX3_writeNode_25 : decode cX3_writeNode 25 = .ok (.iastore, 1) := by decide +kernel
theorem dX3_writeNode_26 : decode cX3_writeNode 26 = .ok (.aload_n 0, 1) := by decide +kernel
theorem dX3_writeNode_27 : decode cX3_writeNode 27 = .ok (.getfield 23, 3) := by decide +kernel
theorem dX3_writeNode_30 : decode cX3_writeNode 30 = .ok (.iload_n 1, 1) := by decide +kernel
theorem dX3_writeNode_31 : decode cX3_writeNode 31 = .ok (.iconst 2, 1) := by decide +kernel
theorem dX3_writeNode_32 : decode cX3_writeNode 32 = .ok (.invokevirtual 149, 3) := by decide +kernel
theorem dX3_writeNode_35 : decode cX3_writeNode 35 = .ok (.aload_n 0, 1) := by decide +kernel
theorem dX3_writeNode_36 : decode cX3_writeNode 36 = .ok (.getfield 23, 3) := by decide +kernel
theorem dX3_writeNode_39 : decode cX3_writeNode 39 = .ok (.iload_n 1, 1) := by decide +kernel
theorem dX3_writeNode_40 : decode cX3_writeNode 40 = .ok (.iconst 1, 1) := by decide +kernel
theorem dX3_writeNode_41 : decode cX3_writeNode 41 = .ok (.iload 4, 2) := by decide +kernel
theorem dX3_writeNode_43 : decode cX3_writeNode 43 = .ok (.invokevirtual 125, 3) := by decide +kernel
theorem dX3_writeNode_46 : decode cX3_writeNode 46 = .ok (.aload_n 0, 1) := by decide +kernel
theorem dX3_writeNode_47 : decode cX3_writeNode 47 = .ok (.getfield 23, 3) := by decide +kernel
theorem dX3_writeNode_50 : decode cX3_writeNode 50 = .ok (.iload_n 1, 1) := by decide +kernel
theorem dX3_writeNode_51 : decode cX3_writeNode 51 = .ok (.iconst 2, 1) := by decide +kernel
theorem dX3_writeNode_52 : decode cX3_writeNode 52 = .ok (.aload_n 0, 1) := by decide +kernel
theorem dX3_writeNode_53 : decode cX3_writeNode 53 = .ok (.getfield 45, 3) := by decide +kernel
theorem dX3_writeNode_56 : decode cX3_writeNode 56 = .ok (.invokevirtual 166, 3) := by decide +kernel
theorem dX3_writeNode_59 : decode cX3_writeNode 59 = .ok (.aload_n 0, 1) := by decide +kernel
theorem dX3_writeNode_60 : decode cX3_writeNode 60 = .ok (.iload_n 1, 1) := by decide +kernel
theorem dX3_writeNode_61 : decode cX3_writeNode 61 = .ok (.invokevirtual 153, 3) := by decide +kernel
theorem dX3_writeNode_64 : decode cX3_writeNode 64 = .ok (.ireturn, 1) := by decide +kernel
set_option maxRecDepth 20000 in
theorem ggX3_writeRoot_X3_pageOfRoot : GoodIn wsX3_writeRoot wsX3_pageOfRoot := goodIn_r _ [6] (by decide +kernel) (by decide +kernel)
set_option maxRecDepth 20000 in
theorem gX3_writeRoot_X3_pageOfRoot : GoodIn wsX3_writeRoot (va_wsS RX3 104 yX3_pageOfRoot wsX3_pageOfRoot) := goodIn_app (goodIn_of _ (by decide +kernel)) ggX3_writeRoot_X3_pageOfRoot
set_option maxRecDepth 20000 in
theorem ggX3_writeRoot_X0_begin : GoodIn wsX3_writeRoot wsX0_begin := goodIn_r _ [11, 12, 13, 14, 15, 16, 17, 18, 19, 20, 21, 22, 10, 23, 75, 76] (by decide +kernel) (by decide +kernel)
set_option maxRecDepth 20000 in
theorem gX3_writeRoot_X0_begin : GoodIn wsX3_writeRoot (wsV RX3 149 RX0 yX0_begin wsX0_begin) := goodIn_app (goodIn_of _ (by decide +kernel)) ggX3_writeRoot_X0_begin
set_option maxRecDepth 20000 in
theorem ggX3_writeRoot_X0_setNumber : GoodIn wsX3_writeRoot wsX0_setNumber := goodIn_r _ [27, 12, 75, 76] (by decide +kernel) (by decide +kernel)
set_option maxRecDepth 20000 in
theorem gX3_writeRoot_X0_setNumber : GoodIn wsX3_writeRoot (wsV RX3 170 RX0 yX0_setNumber wsX0_setNumber) := goodIn_app (goodIn_of _ (by decide +kernel)) ggX3_writeRoot_X0_setNumber
set_option maxRecDepth 20000 in
theorem ggX3_writeRoot_X0_setPlaces : GoodIn wsX3_writeRoot wsX0_setPlaces := goodIn_r _ [31, 12, 32, 33, 34, 35, 75, 76] (by decide +kernel) (by decide +kernel)
set_option maxRecDepth 20000 in
theorem gX3_writeRoot_X0_setPlaces : GoodIn wsX3_writeRoot (wsV RX3 166 RX0 yX0_setPlaces wsX0_setPlaces) := goodIn_app (goodIn_of _ (by decide +kernel)) ggX3_writeRoot_X0_setPlaces
set_option maxRecDepth 20000 in
theorem ggX3_writeRoot_X3_finishPage : GoodIn wsX3_writeRoot wsX3_finishPage := goodIn_r _ [39, 1, 40, 41, 42, 43, 10, 44, 45, 46, 47, 48, 49, 50, 51, 52, 53, 12, 54, 25, 26, 27, 55, 56, 57, 58, 59, 60, 61, 62, 63, 64, 65, 66, 67, 68, 69, 70, 71, 72, 73, 74, 75, 76, 77, 78, 79] (by decide +kernel) (by decide +kernel)
set_option maxRecDepth 20000 in
theorem gX3_writeRoot_X3_finishPage : GoodIn wsX3_writeRoot (wsV RX3 153 RX3 yX3_finishPage wsX3_finishPage) := goodIn_app (goodIn_of _ (by decide +kernel)) ggX3_writeRoot_X3_finishPage
theorem dX3_writeRoot_0 : decode cX3_writeRoot 0 = .ok (.iload_n 1, 1) := by decide +kernel
theorem dX3_writeRoot_1 : decode cX3_writeRoot 1 = .ok (.invokestatic 104, 3) := by decide +kernel
theorem dX3_writeRoot_4 : decode cX3_writeRoot 4 = .ok (.istore_n 3, 1) := by decide +kernel
theorem dX3_writeRoot_5 : decode cX3_writeRoot 5 = .ok (.aload_n 0, 1) := by decide +kernel
theorem dX3_writeRoot_6 : decode cX3_writeRoot 6 = .ok (.getfield 23, 3) := by decide +kernel
theorem dX3_writeRoot_9 : decode cX3_writeRoot 9 = .ok (.iload_n 3, 1) := by decide +kernel
theorem dX3_writeRoot_10 : decode cX3_writeRoot 10 = .ok (.iconst 1, 1) := by decide +kernel
theorem dX3_writeRoot_11 : decode cX3_writeRoot 11 = .ok (.invokevirtual 149, 3) := by decide +kernel
theorem dX3_writeRoot_14 : decode cX3_writeRoot 14 = .ok (.aload_n 0, 1) := by decide +kernel
theorem dX3_writeRoot_15 : decode cX3_writeRoot 15 = .ok (.getfield 23, 3) := by decide +kernel
theorem dX3_writeRoot_18 : decode cX3_writeRoot 18 = .ok (.iload_n 3, 1) := by decide +kernel
theorem dX3_writeRoot_19 : decode cX3_writeRoot 19 = .ok (.iconst 1, 1) := by decide +kernel
theorem dX3_writeRoot_20 : decode cX3_writeRoot 20 = .ok (.iload_n 1, 1) := by decide +kernel
theorem dX3_writeRoot_21 : decode cX3_writeRoot 21 = .ok (.invokevirtual 170, 3) := by decide +kernel
theorem dX3_writeRoot_24 : decode cX3_writeRoot 24 = .ok (.aload_n 0, 1) := by decide +kernel
theorem dX3_writeRoot_25 : decode cX3_writeRoot 25 = .ok (.getfield 23, 3) := by decide +kernel
theorem dX3_writeRoot_28 : decode cX3_writeRoot 28 = .ok (.iload_n 3, 1) := by decide +kernel
theorem dX3_writeRoot_29 : decode cX3_writeRoot 29 = .ok (.iconst 5, 1) := by decide +kernel
theorem dX3_writeRoot_30 : decode cX3_writeRoot 30 = .ok (.iload_n 2, 1) := by decide +kernel
theorem dX3_writeRoot_31 : decode cX3_writeRoot 31 = .ok (.invokevirtual 170, 3) := by decide +kernel
theorem dX3_writeRoot_34 : decode cX3_writeRoot 34 = .ok (.aload_n 0, 1) := by decide +kernel
theorem dX3_writeRoot_35 : decode cX3_writeRoot 35 = .ok (.getfield 23, 3) := by decide +kernel
theorem dX3_writeRoot_38 : decode cX3_writeRoot 38 = .ok (.iload_n 3, 1) := by decide +kernel
theorem dX3_writeRoot_39 : decode cX3_writeRoot 39 = .ok (.bipush 9, 2) := by decide +kernel
theorem dX3_writeRoot_41 : decode cX3_writeRoot 41 = .ok (.aload_n 0, 1) := by decide +kernel
theorem dX3_writeRoot_42 : decode cX3_writeRoot 42 = .ok (.getfield 45, 3) := by decide +kernel
