theorem dX4_copy_14 : decode cX4_copy 14 = .ok (.invokevirtual 33, 3) := by decide +kernel
theorem dX4_copy_17 : decode cX4_copy 17 = .ok (.invokevirtual 37, 3) := by decide +kernel
theorem dX4_copy_20 : decode cX4_copy 20 = .ok (.iinc 3 1, 3) := by decide +kernel
theorem dX4_copy_23 : decode cX4_copy 23 = .ok (.goto (-21), 3) := by decide +kernel
theorem dX4_copy_26 : decode cX4_copy 26 = .ok (.return_, 1) := by decide +kernel
set_option maxRecDepth 20000 in
theorem ggX4_done_X4_sum : GoodIn wsX4_done wsX4_sum := goodIn_r _ [8, 9, 10, 11, 12, 7, 13, 14, 28, 29, 30, 31, 32, 33, 34, 35, 36, 37, 38, 39] (by decide +kernel) (by decide +kernel)
set_option maxRecDepth 20000 in
theorem gX4_done_X4_sum : GoodIn wsX4_done (wsV RX4 45 RX4 yX4_sum wsX4_sum) := goodIn_app (goodIn_of _ (by decide +kernel)) ggX4_done_X4_sum
set_option maxRecDepth 20000 in
theorem ggX4_done_X4_putNumber : GoodIn wsX4_done wsX4_putNumber := goodIn_r _ [18, 19, 20, 21, 7, 22, 14, 28, 29, 30, 31, 32, 33, 34, 35, 36, 37, 38, 39] (by decide +kernel) (by decide +kernel)
set_option maxRecDepth 20000 in
theorem gX4_done_X4_putNumber : GoodIn wsX4_done (wsV RX4 74 RX4 yX4_putNumber wsX4_putNumber) := goodIn_app (goodIn_of _ (by decide +kernel)) ggX4_done_X4_putNumber
set_option maxRecDepth 20000 in
theorem ggX4_done_X4_fail : GoodIn wsX4_done wsX4_fail := goodIn_r _ [26, 3, 2, 27, 28, 29, 30, 31, 32, 33, 34, 35, 36, 37, 38, 39] (by decide +kernel) (by decide +kernel)
set_option maxRecDepth 20000 in
theorem gX4_done_X4_fail : GoodIn wsX4_done (wsV RX4 80 RX4 yX4_fail wsX4_fail) := goodIn_app (goodIn_of _ (by decide +kernel)) ggX4_done_X4_fail
theorem dX4_done_0 : decode cX4_done 0 = .ok (.aload_n 0, 1) := by decide +kernel
theorem dX4_done_1 : decode cX4_done 1 = .ok (.iload_n 1, 1) := by decide +kernel
theorem dX4_done_2 : decode cX4_done 2 = .ok (.bipush 44, 2) := by decide +kernel
theorem dX4_done_4 : decode cX4_done 4 = .ok (.aload_n 0, 1) := by decide +kernel
theorem dX4_done_5 : decode cX4_done 5 = .ok (.iload_n 1, 1) := by decide +kernel
theorem dX4_done_6 : decode cX4_done 6 = .ok (.invokevirtual 45, 3) := by decide +kernel
theorem dX4_done_9 : decode cX4_done 9 = .ok (.invokevirtual 74, 3) := by decide +kernel
theorem dX4_done_12 : decode cX4_done 12 = .ok (.aload_n 0, 1) := by decide +kernel
theorem dX4_done_13 : decode cX4_done 13 = .ok (.dup, 1) := by decide +kernel
theorem dX4_done_14 : decode cX4_done 14 = .ok (.getfield 77, 3) := by decide +kernel
theorem dX4_done_17 : decode cX4_done 17 = .ok (.iconst 1, 1) := by decide +kernel
theorem dX4_done_18 : decode cX4_done 18 = .ok (.iadd, 1) := by decide +kernel
theorem dX4_done_19 : decode cX4_done 19 = .ok (.putfield 77, 3) := by decide +kernel
theorem dX4_done_22 : decode cX4_done 22 = .ok (.aload_n 0, 1) := by decide +kernel
theorem dX4_done_23 : decode cX4_done 23 = .ok (.aload_n 0, 1) := by decide +kernel
theorem dX4_done_24 : decode cX4_done 24 = .ok (.getfield 17, 3) := by decide +kernel
theorem dX4_done_27 : decode cX4_done 27 = .ok (.ifCond .le 12, 3) := by decide +kernel
theorem dX4_done_30 : decode cX4_done 30 = .ok (.aload_n 0, 1) := by decide +kernel
theorem dX4_done_31 : decode cX4_done 31 = .ok (.getfield 17, 3) := by decide +kernel
theorem dX4_done_34 : decode cX4_done 34 = .ok (.iconst 1, 1) := by decide +kernel
theorem dX4_done_35 : decode cX4_done 35 = .ok (.isub, 1) := by decide +kernel
theorem dX4_done_36 : decode cX4_done 36 = .ok (.goto 7, 3) := by decide +kernel
theorem dX4_done_39 : decode cX4_done 39 = .ok (.aload_n 0, 1) := by decide +kernel
theorem dX4_done_40 : decode cX4_done 40 = .ok (.getfield 17, 3) := by decide +kernel
theorem dX4_done_43 : decode cX4_done 43 = .ok (.putfield 17, 3) := by decide +kernel
theorem dX4_done_46 : decode cX4_done 46 = .ok (.aload_n 0, 1) := by decide +kernel
theorem dX4_done_47 : decode cX4_done 47 = .ok (.getfield 17, 3) := by decide +kernel
theorem dX4_done_50 : decode cX4_done 50 = .ok (.ifCond .ne 7, 3) := by decide +kernel
theorem dX4_done_53 : decode cX4_done 53 = .ok (.aload_n 0, 1) := by decide +kernel
theorem dX4_done_54 : decode cX4_done 54 = .ok (.invokevirtual 80, 3) := by decide +kernel
theorem dX4_done_57 : decode cX4_done 57 = .ok (.aload_n 0, 1) := by decide +kernel
theorem dX4_done_58 : decode cX4_done 58 = .ok (.getfield 83, 3) := by decide +kernel
theorem dX4_done_61 : decode cX4_done 61 = .ok (.ifCond .ne 7, 3) := by decide +kernel
theorem dX4_done_64 : decode cX4_done 64 = .ok (.iconst 1, 1) := by decide +kernel
theorem dX4_done_65 : decode cX4_done 65 = .ok (.goto 4, 3) := by decide +kernel
theorem dX4_done_68 : decode cX4_done 68 = .ok (.iconst 0, 1) := by decide +kernel
theorem dX4_done_69 : decode cX4_done 69 = .ok (.ireturn, 1) := by decide +kernel
theorem dX4_fail_0 : decode cX4_fail 0 = .ok (.aload_n 0, 1) := by decide +kernel
theorem dX4_fail_1 : decode cX4_fail 1 = .ok (.iconst 1, 1) := by decide +kernel
theorem dX4_fail_2 : decode cX4_fail 2 = .ok (.putfield 83, 3) := by decide +kernel
theorem dX4_fail_5 : decode cX4_fail 5 = .ok (.aload_n 0, 1) := by decide +kernel
theorem dX4_fail_6 : decode cX4_fail 6 = .ok (.iconst (-1), 1) := by decide +kernel
theorem dX4_fail_7 : decode cX4_fail 7 = .ok (.putfield 17, 3) := by decide +kernel
theorem dX4_fail_10 : decode cX4_fail 10 = .ok (.aload_n 0, 1) := by decide +kernel
theorem dX4_fail_11 : decode cX4_fail 11 = .ok (.iconst 0, 1) := by decide +kernel
theorem dX4_fail_12 : decode cX4_fail 12 = .ok (.putfield 87, 3) := by decide +kernel
theorem dX4_fail_15 : decode cX4_fail 15 = .ok (.return_, 1) := by decide +kernel
theorem dX4_hasVersion_0 : decode cX4_hasVersion 0 = .ok (.aload_n 0, 1) := by decide +kernel
theorem dX4_hasVersion_1 : decode cX4_hasVersion 1 = .ok (.getfield 67, 3) := by decide +kernel
theorem dX4_hasVersion_4 : decode cX4_hasVersion 4 = .ok (.aload_n 0, 1) := by decide +kernel
theorem dX4_hasVersion_5 : decode cX4_hasVersion 5 = .ok (.getfield 13, 3) := by decide +kernel
theorem dX4_hasVersion_8 : decode cX4_hasVersion 8 = .ok (.if_icmp .lt 7, 3) := by decide +kernel
theorem dX4_hasVersion_11 : decode cX4_hasVersion 11 = .ok (.iconst 1, 1) := by decide +kernel
theorem dX4_hasVersion_12 : decode cX4_hasVersion 12 = .ok (.goto 4, 3) := by decide +kernel
theorem dX4_hasVersion_15 : decode cX4_hasVersion 15 = .ok (.iconst 0, 1) := by decide +kernel
theorem dX4_hasVersion_16 : decode cX4_hasVersion 16 = .ok (.ireturn, 1) := by decide +kernel
set_option maxRecDepth 20000 in
theorem ggX4_nodeOf_X4_at : GoodIn wsX4_nodeOf wsX4_at := goodIn_r _ [5, 6, 7, 8, 9, 10, 11, 12, 13, 14, 15, 16, 17, 18] (by decide +kernel) (by decide +kernel)
set_option maxRecDepth 20000 in
theorem gX4_nodeOf_X4_at : GoodIn wsX4_nodeOf (wsV RX4 33 RX4 yX4_at wsX4_at) := goodIn_app (goodIn_of _ (by decide +kernel)) ggX4_nodeOf_X4_at
theorem dX4_nodeOf_0 : decode cX4_nodeOf 0 = .ok (.aload_n 0, 1) := by decide +kernel
theorem dX4_nodeOf_1 : decode cX4_nodeOf 1 = .ok (.iload_n 1, 1) := by decide +kernel
theorem dX4_nodeOf_2 : decode cX4_nodeOf 2 = .ok (.bipush 8, 2) := by decide +kernel
theorem dX4_nodeOf_4 : decode cX4_nodeOf 4 = .ok (.irem, 1) := by decide +kernel
theorem dX4_nodeOf_5 : decode cX4_nodeOf 5 = .ok (.bipush 9, 2) := by decide +kernel
theorem dX4_nodeOf_7 : decode cX4_nodeOf 7 = .ok (.iload_n 2, 1) := by decide +kernel
theorem dX4_nodeOf_8 : decode cX4_nodeOf 8 = .ok (.iadd, 1) := by decide +kernel
theorem dX4_nodeOf_9 : decode cX4_nodeOf 9 = .ok (.invokevirtual 33, 3) := by decide +kernel
theorem dX4_nodeOf_12 : decode cX4_nodeOf 12 = .ok (.ireturn, 1) := by decide +kernel
set_option maxRecDepth 20000 in
theorem ggX4_change_X4_hasVersion : GoodIn wsX4_change wsX4_hasVersion := goodIn_r _ [7, 1, 2, 50, 51, 52, 53, 54, 55, 56, 57, 58, 59, 60, 61] (by decide +kernel) (by decide +kernel)
set_option maxRecDepth 20000 in
theorem gX4_change_X4_hasVersion : GoodIn wsX4_change (wsV RX4 90 RX4 yX4_hasVersion wsX4_hasVersion) := goodIn_app (goodIn_of _ (by decide +kernel)) ggX4_change_X4_hasVersion
set_option maxRecDepth 20000 in
theorem ggX4_change_X4_nodeOf : GoodIn wsX4_change wsX4_nodeOf := goodIn_r _ [11, 12, 13, 14, 6, 15, 16, 50, 51, 52, 53, 54, 55, 56, 57, 58, 59, 60, 61] (by decide +kernel) (by decide +kernel)
set_option maxRecDepth 20000 in
theorem gX4_change_X4_nodeOf : GoodIn wsX4_change (wsV RX4 94 RX4 yX4_nodeOf wsX4_nodeOf) := goodIn_app (goodIn_of _ (by decide +kernel)) ggX4_change_X4_nodeOf
set_option maxRecDepth 20000 in
theorem ggX4_change_X4_empty : GoodIn wsX4_change wsX4_empty := goodIn_r _ [20, 21, 22, 23, 6, 24, 16, 50, 51, 52, 53, 54, 55, 56, 57, 58, 59, 60, 61] (by decide +kernel) (by decide +kernel)
set_option maxRecDepth 20000 in
theorem gX4_change_X4_empty : GoodIn wsX4_change (wsV RX4 97 RX4 yX4_empty wsX4_empty) := goodIn_app (goodIn_of _ (by decide +kernel)) ggX4_change_X4_empty
set_option maxRecDepth 20000 in
theorem ggX4_change_X4_copy : GoodIn wsX4_change wsX4_copy := goodIn_r _ [28, 12, 13, 14, 6, 15, 16, 21, 22, 23, 24, 50, 51, 52, 53, 54, 55, 56, 57, 58, 59, 60, 61] (by decide +kernel) (by decide +kernel)
set_option maxRecDepth 20000 in
theorem gX4_change_X4_copy : GoodIn wsX4_change (wsV RX4 100 RX4 yX4_copy wsX4_copy) := goodIn_app (goodIn_of _ (by decide +kernel)) ggX4_change_X4_copy
set_option maxRecDepth 20000 in
theorem ggX4_change_X4_lay : GoodIn wsX4_change wsX4_lay := goodIn_r _ [24, 16, 50, 51, 52, 53, 54, 55, 56, 57, 58, 59, 60, 61] (by decide +kernel) (by decide +kernel)
set_option maxRecDepth 20000 in
theorem gX4_change_X4_lay : GoodIn wsX4_change (wsV RX4 37 RX4 yX4_lay wsX4_lay) := goodIn_app (goodIn_of _ (by decide +kernel)) ggX4_change_X4_lay
set_option maxRecDepth 20000 in
theorem ggX4_change_X4_done : GoodIn wsX4_change wsX4_done := goodIn_r _ [32, 33, 34, 35, 36, 37, 38, 6, 39, 40, 12, 13, 14, 15, 16, 41, 42, 43, 44, 21, 22, 23, 24, 45, 46, 47, 48, 49, 50, 51, 52, 53, 54, 55, 56, 57, 58, 59, 60, 61] (by decide +kernel) (by decide +kernel)
set_option maxRecDepth 20000 in
theorem gX4_change_X4_done : GoodIn wsX4_change (wsV RX4 103 RX4 yX4_done wsX4_done) := goodIn_app (goodIn_of _ (by decide +kernel)) ggX4_change_X4_done
set_option maxRecDepth 20000 in
theorem ggX4_change_X4_putNumber : GoodIn wsX4_change wsX4_putNumber := goodIn_r _ [44, 21, 22, 23, 6, 24, 16, 50, 51, 52, 53, 54, 55, 56, 57, 58, 59, 60, 61] (by decide +kernel) (by decide +kernel)
set_option maxRecDepth 20000 in
theorem gX4_change_X4_putNumber : GoodIn wsX4_change (wsV RX4 74 RX4 yX4_putNumber wsX4_putNumber) := goodIn_app (goodIn_of _ (by decide +kernel)) ggX4_change_X4_putNumber
theorem dX4_change_0 : decode cX4_change 0 = .ok (.aload_n 0, 1) := by decide +kernel
theorem dX4_change_1 : decode cX4_change 1 = .ok (.invokevirtual 90, 3) := by decide +kernel
theorem dX4_change_4 : decode cX4_change 4 = .ok (.ifCond .eq 18, 3) := by decide +kernel
theorem dX4_change_7 : decode cX4_change 7 = .ok (.aload_n 0, 1) := by decide +kernel
theorem dX4_change_8 : decode cX4_change 8 = .ok (.aload_n 0, 1) := by decide +kernel
theorem dX4_change_9 : decode cX4_change 9 = .ok (.getfield 67, 3) := by decide +kernel
theorem dX4_change_12 : decode cX4_change 12 = .ok (.iload_n 1, 1) := by decide +kernel
theorem dX4_change_13 : decode cX4_change 13 = .ok (.bipush 32, 2) := by decide +kernel
theorem dX4_change_15 : decode cX4_change 15 = .ok (.idiv, 1) := by decide +kernel
theorem dX4_change_16 : decode cX4_change 16 = .ok (.invokevirtual 94, 3) := by decide +kernel
theorem dX4_change_19 : decode cX4_change 19 = .ok (.goto 4, 3) := by decide +kernel
theorem dX4_change_22 : decode cX4_change 22 = .ok (.iconst 0, 1) := by decide +kernel
theorem dX4_change_23 : decode cX4_change 23 = .ok (.istore 4, 2) := by decide +kernel
theorem dX4_change_25 : decode cX4_change 25 = .ok (.iload 4, 2) := by decide +kernel
theorem dX4_change_27 : decode cX4_change 27 = .ok (.ifCond .ne 12, 3) := by decide +kernel
theorem dX4_change_30 : decode cX4_change 30 = .ok (.aload_n 0, 1) := by decide +kernel
theorem dX4_change_31 : decode cX4_change 31 = .ok (.iload_n 2, 1) := by decide +kernel
theorem dX4_change_32 : decode cX4_change 32 = .ok (.iconst 2, 1) := by decide +kernel
theorem dX4_change_33 : decode cX4_change 33 = .ok (.invokevirtual 97, 3) := by decide +kernel
theorem dX4_change_36 : decode cX4_change 36 = .ok (.goto 10, 3) := by decide +kernel
theorem dX4_change_39 : decode cX4_change 39 = .ok (.aload_n 0, 1) := by decide +kernel
theorem dX4_change_40 : decode cX4_change 40 = .ok (.iload 4, 2) := by decide +kernel
theorem dX4_change_42 : decode cX4_change 42 = .ok (.iload_n 2, 1) := by decide +kernel
theorem dX4_change_43 : decode cX4_change 43 = .ok (.invokevirtual 100, 3) := by decide +kernel
theorem dX4_change_46 : decode cX4_change 46 = .ok (.aload_n 0, 1) := by decide +kernel
theorem dX4_change_47 : decode cX4_change 47 = .ok (.iload_n 2, 1) := by decide +kernel
theorem dX4_change_48 : decode cX4_change 48 = .ok (.iconst 1, 1) := by decide +kernel
theorem dX4_change_49 : decode cX4_change 49 = .ok (.iload_n 1, 1) := by decide +kernel
theorem dX4_change_50 : decode cX4_change 50 = .ok (.bipush 32, 2) := by decide +kernel
theorem dX4_change_52 : decode cX4_change 52 = .ok (.idiv, 1) := by decide +kernel
theorem dX4_change_53 : decode cX4_change 53 = .ok (.invokevirtual 37, 3) := by decide +kernel
theorem dX4_change_56 : decode cX4_change 56 = .ok (.aload_n 0, 1) := by decide +kernel
theorem dX4_change_57 : decode cX4_change 57 = .ok (.iload_n 2, 1) := by decide +kernel
theorem dX4_change_58 : decode cX4_change 58 = .ok (.iconst 2, 1) := by decide +kernel
theorem dX4_change_59 : decode cX4_change 59 = .ok (.iload_n 1, 1) := by decide +kernel
theorem dX4_change_60 : decode cX4_change 60 = .ok (.bipush 32, 2) := by decide +kernel
theorem dX4_change_62 : decode cX4_change 62 = .ok (.irem, 1) := by decide +kernel
theorem dX4_change_63 : decode cX4_change 63 = .ok (.iadd, 1) := by decide +kernel
theorem dX4_change_64 : decode cX4_change 64 = .ok (.iload_n 3, 1) := by decide +kernel
theorem dX4_change_65 : decode cX4_change 65 = .ok (.invokevirtual 37, 3) := by decide +kernel
theorem dX4_change_68 : decode cX4_change 68 = .ok (.aload_n 0, 1) := by decide +kernel
theorem dX4_change_69 : decode cX4_change 69 = .ok (.iload_n 2, 1) := by decide +kernel
theorem dX4_change_70 : decode cX4_change 70 = .ok (.invokevirtual 103, 3) := by decide +kernel
theorem dX4_change_73 : decode cX4_change 73 = .ok (.ifCond .ne 6, 3) := by decide +kernel
theorem dX4_change_76 : decode cX4_change 76 = .ok (.bipush (-3), 2) := by decide +kernel
theorem dX4_change_78 : decode cX4_change 78 = .ok (.ireturn, 1) := by decide +kernel
theorem dX4_change_79 : decode cX4_change 79 = .ok (.aload_n 0, 1) := by decide +kernel
theorem dX4_change_80 : decode cX4_change 80 = .ok (.getfield 67, 3) := by decide +kernel
theorem dX4_change_83 : decode cX4_change 83 = .ok (.iconst 1, 1) := by decide +kernel
theorem dX4_change_84 : decode cX4_change 84 = .ok (.iadd, 1) := by decide +kernel
theorem dX4_change_85 : decode cX4_change 85 = .ok (.istore 5, 2) := by decide +kernel
theorem dX4_change_87 : decode cX4_change 87 = .ok (.iload 5, 2) := by decide +kernel
theorem dX4_change_89 : decode cX4_change 89 = .ok (.bipush 8, 2) := by decide +kernel
theorem dX4_change_91 : decode cX4_change 91 = .ok (.irem, 1) := by decide +kernel
theorem dX4_change_92 : decode cX4_change 92 = .ok (.istore 6, 2) := by decide +kernel
theorem dX4_change_94 : decode cX4_change 94 = .ok (.aload_n 0, 1) := by decide +kernel
theorem dX4_change_95 : decode cX4_change 95 = .ok (.invokevirtual 90, 3) := by decide +kernel
theorem dX4_change_98 : decode cX4_change 98 = .ok (.ifCond .eq 19, 3) := by decide +kernel
theorem dX4_change_101 : decode cX4_change 101 = .ok (.aload_n 0, 1) := by decide +kernel
theorem dX4_change_102 : decode cX4_change 102 = .ok (.aload_n 0, 1) := by decide +kernel
theorem dX4_change_103 : decode cX4_change 103 = .ok (.getfield 67, 3) := by decide +kernel
theorem dX4_change_106 : decode cX4_change 106 = .ok (.bipush 8, 2) := by decide +kernel
theorem dX4_change_108 : decode cX4_change 108 = .ok (.irem, 1) := by decide +kernel
theorem dX4_change_109 : decode cX4_change 109 = .ok (.iload 6, 2) := by decide +kernel
theorem dX4_change_111 : decode cX4_change 111 = .ok (.invokevirtual 100, 3) := by decide +kernel
theorem dX4_change_114 : decode cX4_change 114 = .ok (.goto 10, 3) := by decide +kernel
theorem dX4_change_117 : decode cX4_change 117 = .ok (.aload_n 0, 1) := by decide +kernel
theorem dX4_change_118 : decode cX4_change 118 = .ok (.iload 6, 2) := by decide +kernel
theorem dX4_change_120 : decode cX4_change 120 = .ok (.iconst 1, 1) := by decide +kernel
theorem dX4_change_121 : decode cX4_change 121 = .ok (.invokevirtual 97, 3) := by decide +kernel
theorem dX4_change_124 : decode cX4_change 124 = .ok (.aload_n 0, 1) := by decide +kernel
theorem dX4_change_125 : decode cX4_change 125 = .ok (.getfield 13, 3) := by decide +kernel
theorem dX4_change_128 : decode cX4_change 128 = .ok (.iload 5, 2) := by decide +kernel
theorem dX4_change_130 : decode cX4_change 130 = .ok (.bipush 7, 2) := by decide +kernel
theorem dX4_change_132 : decode cX4_change 132 = .ok (.isub, 1) := by decide +kernel
theorem dX4_change_133 : decode cX4_change 133 = .ok (.if_icmp .le 10, 3) := by decide +kernel
theorem dX4_change_136 : decode cX4_change 136 = .ok (.aload_n 0, 1) := by decide +kernel
theorem dX4_change_137 : decode cX4_change 137 = .ok (.getfield 13, 3) := by decide +kernel
theorem dX4_change_140 : decode cX4_change 140 = .ok (.goto 8, 3) := by decide +kernel
theorem dX4_change_143 : decode cX4_change 143 = .ok (.iload 5, 2) := by decide +kernel
theorem dX4_change_145 : decode cX4_change 145 = .ok (.bipush 7, 2) := by decide +kernel
theorem dX4_change_147 : decode cX4_change 147 = .ok (.isub, 1) := by decide +kernel
theorem dX4_change_148 : decode cX4_change 148 = .ok (.istore 7, 2) := by decide +kernel
theorem dX4_change_150 : decode cX4_change 150 = .ok (.aload_n 0, 1) := by decide +kernel
theorem dX4_change_151 : decode cX4_change 151 = .ok (.iload 6, 2) := by decide +kernel
theorem dX4_change_153 : decode cX4_change 153 = .ok (.iconst 1, 1) := by decide +kernel
theorem dX4_change_154 : decode cX4_change 154 = .ok (.iload 5, 2) := by decide +kernel
theorem dX4_change_156 : decode cX4_change 156 = .ok (.invokevirtual 74, 3) := by decide +kernel
theorem dX4_change_159 : decode cX4_change 159 = .ok (.aload_n 0, 1) := by decide +kernel
theorem dX4_change_160 : decode cX4_change 160 = .ok (.iload 6, 2) := by decide +kernel
theorem dX4_change_162 : decode cX4_change 162 = .ok (.iconst 5, 1) := by decide +kernel
theorem dX4_change_163 : decode cX4_change 163 = .ok (.iload 7, 2) := by decide +kernel
theorem dX4_change_165 : decode cX4_change 165 = .ok (.invokevirtual 74, 3) := by decide +kernel
theorem dX4_change_168 : decode cX4_change 168 = .ok (.aload_n 0, 1) := by decide +kernel
theorem dX4_change_169 : decode cX4_change 169 = .ok (.iload 6, 2) := by decide +kernel
theorem dX4_change_171 : decode cX4_change 171 = .ok (.bipush 9, 2) := by decide +kernel
theorem dX4_change_173 : decode cX4_change 173 = .ok (.iload_n 1, 1) := by decide +kernel
theorem dX4_change_174 : decode cX4_change 174 = .ok (.bipush 32, 2) := by decide +kernel
theorem dX4_change_176 : decode cX4_change 176 = .ok (.idiv, 1) := by decide +kernel
theorem dX4_change_177 : decode cX4_change 177 = .ok (.iadd, 1) := by decide +kernel
theorem dX4_change_178 : decode cX4_change 178 = .ok (.iload_n 2, 1) := by decide +kernel
theorem dX4_change_179 : decode cX4_change 179 = .ok (.invokevirtual 37, 3) := by decide +kernel
theorem dX4_change_182 : decode cX4_change 182 = .ok (.aload_n 0, 1) := by decide +kernel
theorem dX4_change_183 : decode cX4_change 183 = .ok (.iload 6, 2) := by decide +kernel
theorem dX4_change_185 : decode cX4_change 185 = .ok (.invokevirtual 103, 3) := by decide +kernel
theorem dX4_change_188 : decode cX4_change 188 = .ok (.ifCond .ne 6, 3) := by decide +kernel
theorem dX4_change_191 : decode cX4_change 191 = .ok (.bipush (-3), 2) := by decide +kernel
theorem dX4_change_193 : decode cX4_change 193 = .ok (.ireturn, 1) := by decide +kernel
theorem dX4_change_194 : decode cX4_change 194 = .ok (.aload_n 0, 1) := by decide +kernel
theorem dX4_change_195 : decode cX4_change 195 = .ok (.iload 5, 2) := by decide +kernel
theorem dX4_change_197 : decode cX4_change 197 = .ok (.putfield 67, 3) := by decide +kernel
theorem dX4_change_200 : decode cX4_change 200 = .ok (.aload_n 0, 1) := by decide +kernel
theorem dX4_change_201 : decode cX4_change 201 = .ok (.iload 7, 2) := by decide +kernel
theorem dX4_change_203 : decode cX4_change 203 = .ok (.putfield 13, 3) := by decide +kernel
theorem dX4_change_206 : decode cX4_change 206 = .ok (.iload 5, 2) := by decide +kernel
theorem dX4_change_208 : decode cX4_change 208 = .ok (.ireturn, 1) := by decide +kernel
theorem dX4_isKey_0 : decode cX4_isKey 0 = .ok (.iload_n 0, 1) := by decide +kernel
theorem dX4_isKey_1 : decode cX4_isKey 1 = .ok (.ifCond .lt 14, 3) := by decide +kernel
theorem dX4_isKey_4 : decode cX4_isKey 4 = .ok (.iload_n 0, 1) := by decide +kernel
theorem dX4_isKey_5 : decode cX4_isKey 5 = .ok (.sipush 1024, 3) := by decide +kernel
theorem dX4_isKey_8 : decode cX4_isKey 8 = .ok (.if_icmp .ge 7, 3) := by decide +kernel
theorem dX4_isKey_11 : decode cX4_isKey 11 = .ok (.iconst 1, 1) := by decide +kernel
theorem dX4_isKey_12 : decode cX4_isKey 12 = .ok (.goto 4, 3) := by decide +kernel
theorem dX4_isKey_15 : decode cX4_isKey 15 = .ok (.iconst 0, 1) := by decide +kernel
theorem dX4_isKey_16 : decode cX4_isKey 16 = .ok (.ireturn, 1) := by decide +kernel
theorem dX4_type_0 : decode cX4_type 0 = .ok (.aload_n 0, 1) := by decide +kernel
theorem dX4_type_1 : decode cX4_type 1 = .ok (.iconst 0, 1) := by decide +kernel
theorem dX4_type_2 : decode cX4_type 2 = .ok (.putfield 30, 3) := by decide +kernel
theorem dX4_type_5 : decode cX4_type 5 = .ok (.aload_n 0, 1) := by decide +kernel
theorem dX4_type_6 : decode cX4_type 6 = .ok (.getfield 83, 3) := by decide +kernel
theorem dX4_type_9 : decode cX4_type 9 = .ok (.ifCond .eq 6, 3) := by decide +kernel
theorem dX4_type_12 : decode cX4_type 12 = .ok (.bipush (-5), 2) := by decide +kernel
theorem dX4_type_14 : decode cX4_type 14 = .ok (.ireturn, 1) := by decide +kernel
theorem dX4_type_15 : decode cX4_type 15 = .ok (.iload_n 1, 1) := by decide +kernel
theorem dX4_type_16 : decode cX4_type 16 = .ok (.ifCond .lt 10, 3) := by decide +kernel
theorem dX4_type_19 : decode cX4_type 19 = .ok (.iload_n 1, 1) := by decide +kernel
theorem dX4_type_20 : decode cX4_type 20 = .ok (.sipush 255, 3) := by decide +kernel
theorem dX4_type_23 : decode cX4_type 23 = .ok (.if_icmp .le 6, 3) := by decide +kernel
theorem dX4_type_26 : decode cX4_type 26 = .ok (.bipush (-2), 2) := by decide +kernel
theorem dX4_type_28 : decode cX4_type 28 = .ok (.ireturn, 1) := by decide +kernel
theorem dX4_type_29 : decode cX4_type 29 = .ok (.aload_n 0, 1) := by decide +kernel
theorem dX4_type_30 : decode cX4_type 30 = .ok (.getfield 87, 3) := by decide +kernel
theorem dX4_type_33 : decode cX4_type 33 = .ok (.bipush 32, 2) := by decide +kernel
theorem dX4_type_35 : decode cX4_type 35 = .ok (.if_icmp .ne 6, 3) := by decide +kernel
theorem dX4_type_38 : decode cX4_type 38 = .ok (.bipush (-6), 2) := by decide +kernel
theorem dX4_type_40 : decode cX4_type 40 = .ok (.ireturn, 1) := by decide +kernel
theorem dX4_type_41 : decode cX4_type 41 = .ok (.aload_n 0, 1) := by decide +kernel
theorem dX4_type_42 : decode cX4_type 42 = .ok (.getfield 20, 3) := by decide +kernel
theorem dX4_type_45 : decode cX4_type 45 = .ok (.aload_n 0, 1) := by decide +kernel
theorem dX4_type_46 : decode cX4_type 46 = .ok (.getfield 87, 3) := by decide +kernel
theorem dX4_type_49 : decode cX4_type 49 = .ok (.iload_n 1, 1) := by decide +kernel
theorem dX4_type_50 : decode cX4_type 50 = .ok (.iastore, 1) := by decide +kernel
theorem dX4_type_51 : decode cX4_type 51 = .ok (.aload_n 0, 1) := by decide +kernel
theorem dX4_type_52 : decode cX4_type 52 = .ok (.dup, 1) := by decide +kernel
theorem dX4_type_53 : decode cX4_type 53 = .ok (.getfield 87, 3) := by decide +kernel
theorem dX4_type_56 : decode cX4_type 56 = .ok (.iconst 1, 1) := by decide +kernel
theorem dX4_type_57 : decode cX4_type 57 = .ok (.iadd, 1) := by decide +kernel
theorem dX4_type_58 : decode cX4_type 58 = .ok (.putfield 87, 3) := by decide +kernel
theorem dX4_type_61 : decode cX4_type 61 = .ok (.aload_n 0, 1) := by decide +kernel
theorem dX4_type_62 : decode cX4_type 62 = .ok (.getfield 87, 3) := by decide +kernel
theorem dX4_type_65 : decode cX4_type 65 = .ok (.ireturn, 1) := by decide +kernel
set_option maxRecDepth 20000 in
theorem ggX4_put_X4_isKey : GoodIn wsX4_put wsX4_isKey := goodIn_r _ [11] (by decide +kernel) (by decide +kernel)
set_option maxRecDepth 20000 in
theorem gX4_put_X4_isKey : GoodIn wsX4_put (va_wsS RX4 107 yX4_isKey wsX4_isKey) := goodIn_app (goodIn_of _ (by decide +kernel)) ggX4_put_X4_isKey
set_option maxRecDepth 20000 in
theorem ggX4_put_X4_reachAll : GoodIn wsX4_put wsX4_reachAll := goodIn_r _ [15, 3, 16, 17, 18, 4, 19, 20, 21, 10, 22, 23, 24, 25, 26, 5, 27, 28, 29, 30, 31, 32, 33, 34, 35, 36, 37, 38, 39, 40, 41, 42, 43, 44, 45, 46, 47, 48, 49, 50, 51, 52, 95, 96, 97, 98, 99, 100, 101, 102, 103, 104, 105, 106] (by decide +kernel) (by decide +kernel)
set_option maxRecDepth 20000 in
theorem gX4_put_X4_reachAll : GoodIn wsX4_put (wsV RX4 110 RX4 yX4_reachAll wsX4_reachAll) := goodIn_app (goodIn_of _ (by decide +kernel)) ggX4_put_X4_reachAll
set_option maxRecDepth 20000 in
theorem ggX4_put_X4_free : GoodIn wsX4_put wsX4_free := goodIn_r _ [56, 16, 17, 95, 96, 97, 98, 99, 100, 101, 102, 103, 104, 105, 106] (by decide +kernel) (by decide +kernel)
set_option maxRecDepth 20000 in
theorem gX4_put_X4_free : GoodIn wsX4_put (wsV RX4 113 RX4 yX4_free wsX4_free) := goodIn_app (goodIn_of _ (by decide +kernel)) ggX4_put_X4_free
set_option maxRecDepth 20000 in
theorem ggX4_put_X4_empty : GoodIn wsX4_put wsX4_empty := goodIn_r _ [60, 61, 62, 63, 10, 64, 35, 95, 96, 97, 98, 99, 100, 101, 102, 103, 104, 105, 106] (by decide +kernel) (by decide +kernel)
set_option maxRecDepth 20000 in
theorem gX4_put_X4_empty : GoodIn wsX4_put (wsV RX4 97 RX4 yX4_empty wsX4_empty) := goodIn_app (goodIn_of _ (by decide +kernel)) ggX4_put_X4_empty
set_option maxRecDepth 20000 in
theorem ggX4_put_X4_lay : GoodIn wsX4_put wsX4_lay := goodIn_r _ [64, 35, 95, 96, 97, 98, 99, 100, 101, 102, 103, 104, 105, 106] (by decide +kernel) (by decide +kernel)
set_option maxRecDepth 20000 in
theorem gX4_put_X4_lay : GoodIn wsX4_put (wsV RX4 37 RX4 yX4_lay wsX4_lay) := goodIn_app (goodIn_of _ (by decide +kernel)) ggX4_put_X4_lay
set_option maxRecDepth 20000 in
theorem ggX4_put_X4_done : GoodIn wsX4_put wsX4_done := goodIn_r _ [68, 69, 70, 2, 40, 41, 42, 10, 43, 44, 31, 32, 33, 34, 35, 71, 72, 73, 74, 61, 62, 63, 64, 75, 76, 77, 78, 6, 95, 96, 97, 98, 99, 100, 101, 102, 103, 104, 105, 106] (by decide +kernel) (by decide +kernel)
set_option maxRecDepth 20000 in
theorem gX4_put_X4_done : GoodIn wsX4_put (wsV RX4 103 RX4 yX4_done wsX4_done) := goodIn_app (goodIn_of _ (by decide +kernel)) ggX4_put_X4_done
set_option maxRecDepth 20000 in
theorem ggX4_put_X4_change : GoodIn wsX4_put wsX4_change := goodIn_r _ [82, 4, 18, 83, 84, 85, 10, 86, 87, 88, 89, 90, 31, 32, 33, 34, 35, 57, 58, 59, 60, 61, 62, 63, 64, 91, 92, 93, 94, 65, 66, 67, 68, 69, 70, 2, 40, 41, 42, 43, 44, 71, 72, 73, 74, 75, 76, 77, 78, 6, 95, 96, 97, 98, 99, 100, 101, 102, 103, 104, 105, 106] (by decide +kernel) (by decide +kernel)
set_option maxRecDepth 20000 in
theorem gX4_put_X4_change : GoodIn wsX4_put (wsV RX4 116 RX4 yX4_change wsX4_change) := goodIn_app (goodIn_of _ (by decide +kernel)) ggX4_put_X4_change
theorem dX4_put_0 : decode cX4_put 0 = .ok (.aload_n 0, 1) := by decide +kernel
theorem dX4_put_1 : decode cX4_put 1 = .ok (.iconst 0, 1) := by decide +kernel
theorem dX4_put_2 : decode cX4_put 2 = .ok (.putfield 30, 3) := by decide +kernel
theorem dX4_put_5 : decode cX4_put 5 = .ok (.aload_n 0, 1) := by decide +kernel
theorem dX4_put_6 : decode cX4_put 6 = .ok (.getfield 83, 3) := by decide +kernel
theorem dX4_put_9 : decode cX4_put 9 = .ok (.ifCond .eq 6, 3) := by decide +kernel
theorem dX4_put_12 : decode cX4_put 12 = .ok (.bipush (-5), 2) := by decide +kernel
theorem dX4_put_14 : decode cX4_put 14 = .ok (.ireturn, 1) := by decide +kernel
theorem dX4_put_15 : decode cX4_put 15 = .ok (.iload_n 1, 1) := by decide +kernel
theorem dX4_put_16 : decode cX4_put 16 = .ok (.invokestatic 107, 3) := by decide +kernel
theorem dX4_put_19 : decode cX4_put 19 = .ok (.ifCond .ne 6, 3) := by decide +kernel
theorem dX4_put_22 : decode cX4_put 22 = .ok (.bipush (-2), 2) := by decide +kernel
theorem dX4_put_24 : decode cX4_put 24 = .ok (.ireturn, 1) := by decide +kernel
theorem dX4_put_25 : decode cX4_put 25 = .ok (.aload_n 0, 1) := by decide +kernel
theorem dX4_put_26 : decode cX4_put 26 = .ok (.invokevirtual 110, 3) := by decide +kernel
theorem dX4_put_29 : decode cX4_put 29 = .ok (.aload_n 0, 1) := by decide +kernel
theorem dX4_put_30 : decode cX4_put 30 = .ok (.getfield 60, 3) := by decide +kernel
theorem dX4_put_33 : decode cX4_put 33 = .ok (.iconst (-1), 1) := by decide +kernel
theorem dX4_put_34 : decode cX4_put 34 = .ok (.if_icmp .eq 6, 3) := by decide +kernel
theorem dX4_put_37 : decode cX4_put 37 = .ok (.bipush (-4), 2) := by decide +kernel
theorem dX4_put_39 : decode cX4_put 39 = .ok (.ireturn, 1) := by decide +kernel
theorem dX4_put_40 : decode cX4_put 40 = .ok (.aload_n 0, 1) := by decide +kernel
theorem dX4_put_41 : decode cX4_put 41 = .ok (.iconst 0, 1) := by decide +kernel
theorem dX4_put_42 : decode cX4_put 42 = .ok (.invokevirtual 113, 3) := by decide +kernel
theorem dX4_put_45 : decode cX4_put 45 = .ok (.istore_n 2, 1) := by decide +kernel
theorem dX4_put_46 : decode cX4_put 46 = .ok (.iload_n 2, 1) := by decide +kernel
theorem dX4_put_47 : decode cX4_put 47 = .ok (.iconst (-1), 1) := by decide +kernel
theorem dX4_put_48 : decode cX4_put 48 = .ok (.if_icmp .ne 7, 3) := by decide +kernel
theorem dX4_put_51 : decode cX4_put 51 = .ok (.iconst (-1), 1) := by decide +kernel
theorem dX4_put_52 : decode cX4_put 52 = .ok (.goto 8, 3) := by decide +kernel
theorem dX4_put_55 : decode cX4_put 55 = .ok (.aload_n 0, 1) := by decide +kernel
theorem dX4_put_56 : decode cX4_put 56 = .ok (.iload_n 2, 1) := by decide +kernel
theorem dX4_put_57 : decode cX4_put 57 = .ok (.invokevirtual 113, 3) := by decide +kernel
theorem dX4_put_60 : decode cX4_put 60 = .ok (.istore_n 3, 1) := by decide +kernel
theorem dX4_put_61 : decode cX4_put 61 = .ok (.iload_n 3, 1) := by decide +kernel
theorem dX4_put_62 : decode cX4_put 62 = .ok (.iconst (-1), 1) := by decide +kernel
theorem dX4_put_63 : decode cX4_put 63 = .ok (.if_icmp .eq 12, 3) := by decide +kernel
theorem dX4_put_66 : decode cX4_put 66 = .ok (.aload_n 0, 1) := by decide +kernel
theorem dX4_put_67 : decode cX4_put 67 = .ok (.getfield 67, 3) := by decide +kernel
theorem dX4_put_70 : decode cX4_put 70 = .ok (.ldc 56, 2) := by decide +kernel
theorem dX4_put_72 : decode cX4_put 72 = .ok (.if_icmp .ne 6, 3) := by decide +kernel
theorem dX4_put_75 : decode cX4_put 75 = .ok (.bipush (-6), 2) := by decide +kernel
theorem dX4_put_77 : decode cX4_put 77 = .ok (.ireturn, 1) := by decide +kernel
theorem dX4_put_78 : decode cX4_put 78 = .ok (.aload_n 0, 1) := by decide +kernel
theorem dX4_put_79 : decode cX4_put 79 = .ok (.iload_n 2, 1) := by decide +kernel
theorem dX4_put_80 : decode cX4_put 80 = .ok (.iconst 3, 1) := by decide +kernel
theorem dX4_put_81 : decode cX4_put 81 = .ok (.invokevirtual 97, 3) := by decide +kernel
theorem dX4_put_84 : decode cX4_put 84 = .ok (.aload_n 0, 1) := by decide +kernel
theorem dX4_put_85 : decode cX4_put 85 = .ok (.iload_n 2, 1) := by decide +kernel
theorem dX4_put_86 : decode cX4_put 86 = .ok (.iconst 1, 1) := by decide +kernel
theorem dX4_put_87 : decode cX4_put 87 = .ok (.iload_n 1, 1) := by decide +kernel
theorem dX4_put_88 : decode cX4_put 88 = .ok (.bipush 8, 2) := by decide +kernel
theorem dX4_put_90 : decode cX4_put 90 = .ok (.ishr, 1) := by decide +kernel
theorem dX4_put_91 : decode cX4_put 91 = .ok (.invokevirtual 37, 3) := by decide +kernel
theorem dX4_put_94 : decode cX4_put 94 = .ok (.aload_n 0, 1) := by decide +kernel
theorem dX4_put_95 : decode cX4_put 95 = .ok (.iload_n 2, 1) := by decide +kernel
theorem dX4_put_96 : decode cX4_put 96 = .ok (.iconst 2, 1) := by decide +kernel
theorem dX4_put_97 : decode cX4_put 97 = .ok (.iload_n 1, 1) := by decide +kernel
theorem dX4_put_98 : decode cX4_put 98 = .ok (.invokevirtual 37, 3) := by decide +kernel
theorem dX4_put_101 : decode cX4_put 101 = .ok (.aload_n 0, 1) := by decide +kernel
theorem dX4_put_102 : decode cX4_put 102 = .ok (.iload_n 2, 1) := by decide +kernel
theorem dX4_put_103 : decode cX4_put 103 = .ok (.iconst 3, 1) := by decide +kernel
theorem dX4_put_104 : decode cX4_put 104 = .ok (.aload_n 0, 1) := by decide +kernel
theorem dX4_put_105 : decode cX4_put 105 = .ok (.getfield 87, 3) := by decide +kernel
theorem dX4_put_108 : decode cX4_put 108 = .ok (.invokevirtual 37, 3) := by decide +kernel
theorem dX4_put_111 : decode cX4_put 111 = .ok (.iconst 0, 1) := by decide +kernel
theorem dX4_put_112 : decode cX4_put 112 = .ok (.istore 4, 2) := by decide +kernel
theorem dX4_put_114 : decode cX4_put 114 = .ok (.iload 4, 2) := by decide +kernel
theorem dX4_put_116 : decode cX4_put 116 = .ok (.aload_n 0, 1) := by decide +kernel
theorem dX4_put_117 : decode cX4_put 117 = .ok (.getfield 87, 3) := by decide +kernel
theorem dX4_put_120 : decode cX4_put 120 = .ok (.if_icmp .ge 25, 3) := by decide +kernel
theorem dX4_put_123 : decode cX4_put 123 = .ok (.aload_n 0, 1) := by decide +kernel
theorem dX4_put_124 : decode cX4_put 124 = .ok (.iload_n 2, 1) := by decide +kernel
theorem dX4_put_125 : decode cX4_put 125 = .ok (.iconst 4, 1) := by decide +kernel
theorem dX4_put_126 : decode cX4_put 126 = .ok (.iload 4, 2) := by decide +kernel
theorem dX4_put_128 : decode cX4_put 128 = .ok (.iadd, 1) := by decide +kernel
theorem dX4_put_129 : decode cX4_put 129 = .ok (.aload_n 0, 1) := by decide +kernel
theorem dX4_put_130 : decode cX4_put 130 = .ok (.getfield 20, 3) := by decide +kernel
theorem dX4_put_133 : decode cX4_put 133 = .ok (.iload 4, 2) := by decide +kernel
theorem dX4_put_135 : decode cX4_put 135 = .ok (.iaload, 1) := by decide +kernel
theorem dX4_put_136 : decode cX4_put 136 = .ok (.invokevirtual 37, 3) := by decide +kernel
theorem dX4_put_139 : decode cX4_put 139 = .ok (.iinc 4 1, 3) := by decide +kernel
theorem dX4_put_142 : decode cX4_put 142 = .ok (.goto (-28), 3) := by decide +kernel
theorem dX4_put_145 : decode cX4_put 145 = .ok (.aload_n 0, 1) := by decide +kernel
theorem dX4_put_146 : decode cX4_put 146 = .ok (.iconst 0, 1) := by decide +kernel
theorem dX4_put_147 : decode cX4_put 147 = .ok (.putfield 87, 3) := by decide +kernel
theorem dX4_put_150 : decode cX4_put 150 = .ok (.aload_n 0, 1) := by decide +kernel
theorem dX4_put_151 : decode cX4_put 151 = .ok (.iload_n 2, 1) := by decide +kernel
theorem dX4_put_152 : decode cX4_put 152 = .ok (.invokevirtual 103, 3) := by decide +kernel
theorem dX4_put_155 : decode cX4_put 155 = .ok (.ifCond .eq 13, 3) := by decide +kernel
theorem dX4_put_158 : decode cX4_put 158 = .ok (.aload_n 0, 1) := by decide +kernel
theorem dX4_put_159 : decode cX4_put 159 = .ok (.iload_n 1, 1) := by decide +kernel
theorem dX4_put_160 : decode cX4_put 160 = .ok (.iload_n 3, 1) := by decide +kernel
theorem dX4_put_161 : decode cX4_put 161 = .ok (.iload_n 2, 1) := by decide +kernel
theorem dX4_put_162 : decode cX4_put 162 = .ok (.invokevirtual 116, 3) := by decide +kernel
theorem dX4_put_165 : decode cX4_put 165 = .ok (.goto 5, 3) := by decide +kernel
theorem dX4_put_168 : decode cX4_put 168 = .ok (.bipush (-3), 2) := by decide +kernel
theorem dX4_put_170 : decode cX4_put 170 = .ok (.ireturn, 1) := by decide +kernel
set_option maxRecDepth 20000 in
theorem ggX4_remove_X4_isKey : GoodIn wsX4_remove wsX4_isKey := goodIn_r _ [9] (by decide +kernel) (by decide +kernel)
set_option maxRecDepth 20000 in
theorem gX4_remove_X4_isKey : GoodIn wsX4_remove (va_wsS RX4 107 yX4_isKey wsX4_isKey) := goodIn_app (goodIn_of _ (by decide +kernel)) ggX4_remove_X4_isKey
set_option maxRecDepth 20000 in
theorem ggX4_remove_X4_reachAll : GoodIn wsX4_remove wsX4_reachAll := goodIn_r _ [13, 3, 14, 15, 16, 4, 17, 18, 19, 8, 20, 21, 22, 23, 24, 5, 25, 26, 27, 28, 29, 30, 31, 32, 33, 34, 35, 36, 37, 38, 39, 40, 41, 42, 43, 44, 45, 46, 47, 48, 49, 50, 94, 95, 96, 97, 98, 99, 100, 101, 102, 103, 104, 105] (by decide +kernel) (by decide +kernel)
set_option maxRecDepth 20000 in
theorem gX4_remove_X4_reachAll : GoodIn wsX4_remove (wsV RX4 110 RX4 yX4_reachAll wsX4_reachAll) := goodIn_app (goodIn_of _ (by decide +kernel)) ggX4_remove_X4_reachAll
set_option maxRecDepth 20000 in
theorem ggX4_remove_X4_hasVersion : GoodIn wsX4_remove wsX4_hasVersion := goodIn_r _ [54, 4, 16, 94, 95, 96, 97, 98, 99, 100, 101, 102, 103, 104, 105] (by decide +kernel) (by decide +kernel)
set_option maxRecDepth 20000 in
theorem gX4_remove_X4_hasVersion : GoodIn wsX4_remove (wsV RX4 90 RX4 yX4_hasVersion wsX4_hasVersion) := goodIn_app (goodIn_of _ (by decide +kernel)) ggX4_remove_X4_hasVersion
set_option maxRecDepth 20000 in
theorem ggX4_remove_X4_nodeOf : GoodIn wsX4_remove wsX4_nodeOf := goodIn_r _ [58, 29, 30, 31, 8, 32, 33, 94, 95, 96, 97, 98, 99, 100, 101, 102, 103, 104, 105] (by decide +kernel) (by decide +kernel)
set_option maxRecDepth 20000 in
theorem gX4_remove_X4_nodeOf : GoodIn wsX4_remove (wsV RX4 94 RX4 yX4_nodeOf wsX4_nodeOf) := goodIn_app (goodIn_of _ (by decide +kernel)) ggX4_remove_X4_nodeOf
set_option maxRecDepth 20000 in
theorem ggX4_remove_X4_at : GoodIn wsX4_remove wsX4_at := goodIn_r _ [32, 33, 94, 95, 96, 97, 98, 99, 100, 101, 102, 103, 104, 105] (by decide +kernel) (by decide +kernel)
set_option maxRecDepth 20000 in
theorem gX4_remove_X4_at : GoodIn wsX4_remove (wsV RX4 33 RX4 yX4_at wsX4_at) := goodIn_app (goodIn_of _ (by decide +kernel)) ggX4_remove_X4_at
set_option maxRecDepth 20000 in
theorem ggX4_remove_X4_free : GoodIn wsX4_remove wsX4_free := goodIn_r _ [62, 14, 15, 94, 95, 96, 97, 98, 99, 100, 101, 102, 103, 104, 105] (by decide +kernel) (by decide +kernel)
set_option maxRecDepth 20000 in
theorem gX4_remove_X4_free : GoodIn wsX4_remove (wsV RX4 113 RX4 yX4_free wsX4_free) := goodIn_app (goodIn_of _ (by decide +kernel)) ggX4_remove_X4_free
set_option maxRecDepth 20000 in
theorem ggX4_remove_X4_change : GoodIn wsX4_remove wsX4_change := goodIn_r _ [66, 4, 16, 51, 52, 53, 8, 54, 55, 56, 57, 58, 29, 30, 31, 32, 33, 67, 68, 69, 70, 71, 72, 73, 74, 75, 76, 77, 78, 79, 80, 81, 82, 83, 84, 2, 38, 39, 40, 41, 42, 85, 86, 87, 88, 89, 90, 91, 92, 93, 94, 95, 96, 97, 98, 99, 100, 101, 102, 103, 104, 105] (by decide +kernel) (by decide +kernel)
set_option maxRecDepth 20000 in
theorem gX4_remove_X4_change : GoodIn wsX4_remove (wsV RX4 116 RX4 yX4_change wsX4_change) := goodIn_app (goodIn_of _ (by decide +kernel)) ggX4_remove_X4_change
theorem dX4_remove_0 : decode cX4_remove 0 = .ok (.aload_n 0, 1) := by decide +kernel
theorem dX4_remove_1 : decode cX4_remove 1 = .ok (.iconst 0, 1) := by decide +kernel
theorem dX4_remove_2 : decode cX4_remove 2 = .ok (.putfield 30, 3) := by decide +kernel
theorem dX4_remove_5 : decode cX4_remove 5 = .ok (.aload_n 0, 1) := by decide +kernel
theorem dX4_remove_6 : decode cX4_remove 6 = .ok (.getfield 83, 3) := by decide +kernel
theorem dX4_remove_9 : decode cX4_remove 9 = .ok (.ifCond .eq 6, 3) := by decide +kernel
theorem dX4_remove_12 : decode cX4_remove 12 = .ok (.bipush (-5), 2) := by decide +kernel
theorem dX4_remove_14 : decode cX4_remove 14 = .ok (.ireturn, 1) := by decide +kernel
theorem dX4_remove_15 : decode cX4_remove 15 = .ok (.iload_n 1, 1) := by decide +kernel
theorem dX4_remove_16 : decode cX4_remove 16 = .ok (.invokestatic 107, 3) := by decide +kernel
theorem dX4_remove_19 : decode cX4_remove 19 = .ok (.ifCond .ne 6, 3) := by decide +kernel
theorem dX4_remove_22 : decode cX4_remove 22 = .ok (.bipush (-2), 2) := by decide +kernel
theorem dX4_remove_24 : decode cX4_remove 24 = .ok (.ireturn, 1) := by decide +kernel
theorem dX4_remove_25 : decode cX4_remove 25 = .ok (.aload_n 0, 1) := by decide +kernel
theorem dX4_remove_26 : decode cX4_remove 26 = .ok (.invokevirtual 110, 3) := by decide +kernel
theorem dX4_remove_29 : decode cX4_remove 29 = .ok (.aload_n 0, 1) := by decide +kernel
theorem dX4_remove_30 : decode cX4_remove 30 = .ok (.getfield 60, 3) := by decide +kernel
theorem dX4_remove_33 : decode cX4_remove 33 = .ok (.iconst (-1), 1) := by decide +kernel
theorem dX4_remove_34 : decode cX4_remove 34 = .ok (.if_icmp .eq 6, 3) := by decide +kernel
theorem dX4_remove_37 : decode cX4_remove 37 = .ok (.bipush (-4), 2) := by decide +kernel
theorem dX4_remove_39 : decode cX4_remove 39 = .ok (.ireturn, 1) := by decide +kernel
theorem dX4_remove_40 : decode cX4_remove 40 = .ok (.aload_n 0, 1) := by decide +kernel
theorem dX4_remove_41 : decode cX4_remove 41 = .ok (.invokevirtual 90, 3) := by decide +kernel
theorem dX4_remove_44 : decode cX4_remove 44 = .ok (.ifCond .eq 18, 3) := by decide +kernel
theorem dX4_remove_47 : decode cX4_remove 47 = .ok (.aload_n 0, 1) := by decide +kernel
theorem dX4_remove_48 : decode cX4_remove 48 = .ok (.aload_n 0, 1) := by decide +kernel
theorem dX4_remove_49 : decode cX4_remove 49 = .ok (.getfield 67, 3) := by decide +kernel
theorem dX4_remove_52 : decode cX4_remove 52 = .ok (.iload_n 1, 1) := by decide +kernel
theorem dX4_remove_53 : decode cX4_remove 53 = .ok (.bipush 32, 2) := by decide +kernel
theorem dX4_remove_55 : decode cX4_remove 55 = .ok (.idiv, 1) := by decide +kernel
theorem dX4_remove_56 : decode cX4_remove 56 = .ok (.invokevirtual 94, 3) := by decide +kernel
theorem dX4_remove_59 : decode cX4_remove 59 = .ok (.goto 4, 3) := by decide +kernel
theorem dX4_remove_62 : decode cX4_remove 62 = .ok (.iconst 0, 1) := by decide +kernel
theorem dX4_remove_63 : decode cX4_remove 63 = .ok (.istore_n 2, 1) := by decide +kernel
theorem dX4_remove_64 : decode cX4_remove 64 = .ok (.iload_n 2, 1) := by decide +kernel
theorem dX4_remove_65 : decode cX4_remove 65 = .ok (.ifCond .eq 17, 3) := by decide +kernel
theorem dX4_remove_68 : decode cX4_remove 68 = .ok (.aload_n 0, 1) := by decide +kernel
theorem dX4_remove_69 : decode cX4_remove 69 = .ok (.iload_n 2, 1) := by decide +kernel
theorem dX4_remove_70 : decode cX4_remove 70 = .ok (.iconst 2, 1) := by decide +kernel
theorem dX4_remove_71 : decode cX4_remove 71 = .ok (.iload_n 1, 1) := by decide +kernel
theorem dX4_remove_72 : decode cX4_remove 72 = .ok (.bipush 32, 2) := by decide +kernel
theorem dX4_remove_74 : decode cX4_remove 74 = .ok (.irem, 1) := by decide +kernel
theorem dX4_remove_75 : decode cX4_remove 75 = .ok (.iadd, 1) := by decide +kernel
theorem dX4_remove_76 : decode cX4_remove 76 = .ok (.invokevirtual 33, 3) := by decide +kernel
theorem dX4_remove_79 : decode cX4_remove 79 = .ok (.ifCond .ne 5, 3) := by decide +kernel
theorem dX4_remove_82 : decode cX4_remove 82 = .ok (.iconst 0, 1) := by decide +kernel
theorem dX4_remove_83 : decode cX4_remove 83 = .ok (.ireturn, 1) := by decide +kernel
theorem dX4_remove_84 : decode cX4_remove 84 = .ok (.aload_n 0, 1) := by decide +kernel
theorem dX4_remove_85 : decode cX4_remove 85 = .ok (.iconst 0, 1) := by decide +kernel
theorem dX4_remove_86 : decode cX4_remove 86 = .ok (.invokevirtual 113, 3) := by decide +kernel
theorem dX4_remove_89 : decode cX4_remove 89 = .ok (.istore_n 3, 1) := by decide +kernel
theorem dX4_remove_90 : decode cX4_remove 90 = .ok (.iload_n 3, 1) := by decide +kernel
theorem dX4_remove_91 : decode cX4_remove 91 = .ok (.iconst (-1), 1) := by decide +kernel
theorem dX4_remove_92 : decode cX4_remove 92 = .ok (.if_icmp .eq 12, 3) := by decide +kernel
theorem dX4_remove_95 : decode cX4_remove 95 = .ok (.aload_n 0, 1) := by decide +kernel
theorem dX4_remove_96 : decode cX4_remove 96 = .ok (.getfield 67, 3) := by decide +kernel
theorem dX4_remove_99 : decode cX4_remove 99 = .ok (.ldc 56, 2) := by decide +kernel
theorem dX4_remove_101 : decode cX4_remove 101 = .ok (.if_icmp .ne 8, 3) := by decide +kernel
theorem dX4_remove_104 : decode cX4_remove 104 = .ok (.bipush (-6), 2) := by decide +kernel
theorem dX4_remove_106 : decode cX4_remove 106 = .ok (.goto 10, 3) := by decide +kernel
theorem dX4_remove_109 : decode cX4_remove 109 = .ok (.aload_n 0, 1) := by decide +kernel
theorem dX4_remove_110 : decode cX4_remove 110 = .ok (.iload_n 1, 1) := by decide +kernel
theorem dX4_remove_111 : decode cX4_remove 111 = .ok (.iload_n 3, 1) := by decide +kernel
theorem dX4_remove_112 : decode cX4_remove 112 = .ok (.iconst 0, 1) := by decide +kernel
theorem dX4_remove_113 : decode cX4_remove 113 = .ok (.invokevirtual 116, 3) := by decide +kernel
theorem dX4_remove_116 : decode cX4_remove 116 = .ok (.ireturn, 1) := by decide +kernel
theorem dX4_isKept_0 : decode cX4_isKept 0 = .ok (.iload_n 1, 1) := by decide +kernel
theorem dX4_isKept_1 : decode cX4_isKept 1 = .ok (.aload_n 0, 1) := by decide +kernel
theorem dX4_isKept_2 : decode cX4_isKept 2 = .ok (.getfield 13, 3) := by decide +kernel
theorem dX4_isKept_5 : decode cX4_isKept 5 = .ok (.if_icmp .lt 15, 3) := by decide +kernel
theorem dX4_isKept_8 : decode cX4_isKept 8 = .ok (.iload_n 1, 1) := by decide +kernel
theorem dX4_isKept_9 : decode cX4_isKept 9 = .ok (.aload_n 0, 1) := by decide +kernel
theorem dX4_isKept_10 : decode cX4_isKept 10 = .ok (.getfield 67, 3) := by decide +kernel
theorem dX4_isKept_13 : decode cX4_isKept 13 = .ok (.if_icmp .gt 7, 3) := by decide +kernel
theorem dX4_isKept_16 : decode cX4_isKept 16 = .ok (.iconst 1, 1) := by decide +kernel
theorem dX4_isKept_17 : decode cX4_isKept 17 = .ok (.goto 4, 3) := by decide +kernel
theorem dX4_isKept_20 : decode cX4_isKept 20 = .ok (.iconst 0, 1) := by decide +kernel
theorem dX4_isKept_21 : decode cX4_isKept 21 = .ok (.ireturn, 1) := by decide +kernel
set_option maxRecDepth 20000 in
theorem ggX4_drop_X4_isKept : GoodIn wsX4_drop wsX4_isKept := goodIn_r _ [10, 5, 3, 71, 72, 73, 74, 75, 76, 77, 78, 79, 80, 81, 82] (by decide +kernel) (by decide +kernel)
set_option maxRecDepth 20000 in
theorem gX4_drop_X4_isKept : GoodIn wsX4_drop (wsV RX4 120 RX4 yX4_isKept wsX4_isKept) := goodIn_app (goodIn_of _ (by decide +kernel)) ggX4_drop_X4_isKept
set_option maxRecDepth 20000 in
theorem ggX4_drop_X4_reachAll : GoodIn wsX4_drop wsX4_reachAll := goodIn_r _ [14, 4, 15, 16, 5, 3, 17, 18, 19, 9, 20, 21, 22, 23, 24, 25, 26, 27, 28, 29, 30, 31, 32, 33, 34, 35, 36, 37, 38, 39, 40, 41, 42, 43, 44, 45, 46, 47, 48, 49, 50, 51, 71, 72, 73, 74, 75, 76, 77, 78, 79, 80, 81, 82] (by decide +kernel) (by decide +kernel)
set_option maxRecDepth 20000 in
theorem gX4_drop_X4_reachAll : GoodIn wsX4_drop (wsV RX4 110 RX4 yX4_reachAll wsX4_reachAll) := goodIn_app (goodIn_of _ (by decide +kernel)) ggX4_drop_X4_reachAll
set_option maxRecDepth 20000 in
theorem ggX4_drop_X4_putNumber : GoodIn wsX4_drop wsX4_putNumber := goodIn_r _ [55, 56, 57, 58, 9, 59, 34, 71, 72, 73, 74, 75, 76, 77, 78, 79, 80, 81, 82] (by decide +kernel) (by decide +kernel)
set_option maxRecDepth 20000 in
theorem gX4_drop_X4_putNumber : GoodIn wsX4_drop (wsV RX4 74 RX4 yX4_putNumber wsX4_putNumber) := goodIn_app (goodIn_of _ (by decide +kernel)) ggX4_drop_X4_putNumber
set_option maxRecDepth 20000 in
theorem ggX4_drop_X4_done : GoodIn wsX4_drop wsX4_done := goodIn_r _ [63, 64, 65, 2, 39, 40, 41, 9, 42, 43, 30, 31, 32, 33, 34, 52, 53, 54, 55, 56, 57, 58, 59, 66, 67, 68, 69, 70, 71, 72, 73, 74, 75, 76, 77, 78, 79, 80, 81, 82] (by decide +kernel) (by decide +kernel)
set_option maxRecDepth 20000 in
theorem gX4_drop_X4_done : GoodIn wsX4_drop (wsV RX4 103 RX4 yX4_done wsX4_done) := goodIn_app (goodIn_of _ (by decide +kernel)) ggX4_drop_X4_done
theorem dX4_drop_0 : decode cX4_drop 0 = .ok (.aload_n 0, 1) := by decide +kernel
theorem dX4_drop_1 : decode cX4_drop 1 = .ok (.iconst 0, 1) := by decide +kernel
theorem dX4_drop_2 : decode cX4_drop 2 = .ok (.putfield 30, 3) := by decide +kernel
theorem dX4_drop_5 : decode cX4_drop 5 = .ok (.aload_n 0, 1) := by decide +kernel
theorem dX4_drop_6 : decode cX4_drop 6 = .ok (.getfield 83, 3) := by decide +kernel
theorem dX4_drop_9 : decode cX4_drop 9 = .ok (.ifCond .eq 6, 3) := by decide +kernel
theorem dX4_drop_12 : decode cX4_drop 12 = .ok (.bipush (-5), 2) := by decide +kernel
theorem dX4_drop_14 : decode cX4_drop 14 = .ok (.ireturn, 1) := by decide +kernel
theorem dX4_drop_15 : decode cX4_drop 15 = .ok (.aload_n 0, 1) := by decide +kernel
theorem dX4_drop_16 : decode cX4_drop 16 = .ok (.iload_n 1, 1) := by decide +kernel
theorem dX4_drop_17 : decode cX4_drop 17 = .ok (.invokevirtual 120, 3) := by decide +kernel
theorem dX4_drop_20 : decode cX4_drop 20 = .ok (.ifCond .eq 11, 3) := by decide +kernel
theorem dX4_drop_23 : decode cX4_drop 23 = .ok (.iload_n 1, 1) := by decide +kernel
theorem dX4_drop_24 : decode cX4_drop 24 = .ok (.aload_n 0, 1) := by decide +kernel
theorem dX4_drop_25 : decode cX4_drop 25 = .ok (.getfield 67, 3) := by decide +kernel
theorem dX4_drop_28 : decode cX4_drop 28 = .ok (.if_icmp .ne 6, 3) := by decide +kernel
theorem dX4_drop_31 : decode cX4_drop 31 = .ok (.bipush (-2), 2) := by decide +kernel
theorem dX4_drop_33 : decode cX4_drop 33 = .ok (.ireturn, 1) := by decide +kernel
theorem dX4_drop_34 : decode cX4_drop 34 = .ok (.aload_n 0, 1) := by decide +kernel
theorem dX4_drop_35 : decode cX4_drop 35 = .ok (.invokevirtual 110, 3) := by decide +kernel
theorem dX4_drop_38 : decode cX4_drop 38 = .ok (.aload_n 0, 1) := by decide +kernel
theorem dX4_drop_39 : decode cX4_drop 39 = .ok (.getfield 60, 3) := by decide +kernel
theorem dX4_drop_42 : decode cX4_drop 42 = .ok (.iconst (-1), 1) := by decide +kernel
theorem dX4_drop_43 : decode cX4_drop 43 = .ok (.if_icmp .eq 6, 3) := by decide +kernel
theorem dX4_drop_46 : decode cX4_drop 46 = .ok (.bipush (-4), 2) := by decide +kernel
theorem dX4_drop_48 : decode cX4_drop 48 = .ok (.ireturn, 1) := by decide +kernel
theorem dX4_drop_49 : decode cX4_drop 49 = .ok (.aload_n 0, 1) := by decide +kernel
theorem dX4_drop_50 : decode cX4_drop 50 = .ok (.aload_n 0, 1) := by decide +kernel
theorem dX4_drop_51 : decode cX4_drop 51 = .ok (.getfield 67, 3) := by decide +kernel
theorem dX4_drop_54 : decode cX4_drop 54 = .ok (.bipush 8, 2) := by decide +kernel
theorem dX4_drop_56 : decode cX4_drop 56 = .ok (.irem, 1) := by decide +kernel
theorem dX4_drop_57 : decode cX4_drop 57 = .ok (.iconst 5, 1) := by decide +kernel
theorem dX4_drop_58 : decode cX4_drop 58 = .ok (.iload_n 1, 1) := by decide +kernel
theorem dX4_drop_59 : decode cX4_drop 59 = .ok (.iconst 1, 1) := by decide +kernel
theorem dX4_drop_60 : decode cX4_drop 60 = .ok (.iadd, 1) := by decide +kernel
theorem dX4_drop_61 : decode cX4_drop 61 = .ok (.invokevirtual 74, 3) := by decide +kernel
theorem dX4_drop_64 : decode cX4_drop 64 = .ok (.aload_n 0, 1) := by decide +kernel
theorem dX4_drop_65 : decode cX4_drop 65 = .ok (.aload_n 0, 1) := by decide +kernel
theorem dX4_drop_66 : decode cX4_drop 66 = .ok (.getfield 67, 3) := by decide +kernel
theorem dX4_drop_69 : decode cX4_drop 69 = .ok (.bipush 8, 2) := by decide +kernel
theorem dX4_drop_71 : decode cX4_drop 71 = .ok (.irem, 1) := by decide +kernel
theorem dX4_drop_72 : decode cX4_drop 72 = .ok (.invokevirtual 103, 3) := by decide +kernel
theorem dX4_drop_75 : decode cX4_drop 75 = .ok (.ifCond .ne 6, 3) := by decide +kernel
theorem dX4_drop_78 : decode cX4_drop 78 = .ok (.bipush (-3), 2) := by decide +kernel
theorem dX4_drop_80 : decode cX4_drop 80 = .ok (.ireturn, 1) := by decide +kernel
theorem dX4_drop_81 : decode cX4_drop 81 = .ok (.aload_n 0, 1) := by decide +kernel
theorem dX4_drop_82 : decode cX4_drop 82 = .ok (.iload_n 1, 1) := by decide +kernel
theorem dX4_drop_83 : decode cX4_drop 83 = .ok (.iconst 1, 1) := by decide +kernel
theorem dX4_drop_84 : decode cX4_drop 84 = .ok (.iadd, 1) := by decide +kernel
theorem dX4_drop_85 : decode cX4_drop 85 = .ok (.putfield 13, 3) := by decide +kernel
theorem dX4_drop_88 : decode cX4_drop 88 = .ok (.aload_n 0, 1) := by decide +kernel
theorem dX4_drop_89 : decode cX4_drop 89 = .ok (.getfield 67, 3) := by decide +kernel
theorem dX4_drop_92 : decode cX4_drop 92 = .ok (.aload_n 0, 1) := by decide +kernel
theorem dX4_drop_93 : decode cX4_drop 93 = .ok (.getfield 13, 3) := by decide +kernel
theorem dX4_drop_96 : decode cX4_drop 96 = .ok (.isub, 1) := by decide +kernel
theorem dX4_drop_97 : decode cX4_drop 97 = .ok (.iconst 1, 1) := by decide +kernel
theorem dX4_drop_98 : decode cX4_drop 98 = .ok (.iadd, 1) := by decide +kernel
theorem dX4_drop_99 : decode cX4_drop 99 = .ok (.ireturn, 1) := by decide +kernel
set_option maxRecDepth 20000 in
theorem ggX4_thingOf_X4_isKept : GoodIn wsX4_thingOf wsX4_isKept := goodIn_r _ [6, 7, 8, 44, 45, 46, 47, 48, 49, 50, 51, 52, 53, 54, 55] (by decide +kernel) (by decide +kernel)
set_option maxRecDepth 20000 in
theorem gX4_thingOf_X4_isKept : GoodIn wsX4_thingOf (wsV RX4 120 RX4 yX4_isKept wsX4_isKept) := goodIn_app (goodIn_of _ (by decide +kernel)) ggX4_thingOf_X4_isKept
set_option maxRecDepth 20000 in
theorem ggX4_thingOf_X4_isKey : GoodIn wsX4_thingOf wsX4_isKey := goodIn_r _ [11] (by decide +kernel) (by decide +kernel)
set_option maxRecDepth 20000 in
theorem gX4_thingOf_X4_isKey : GoodIn wsX4_thingOf (va_wsS RX4 107 yX4_isKey wsX4_isKey) := goodIn_app (goodIn_of _ (by decide +kernel)) ggX4_thingOf_X4_isKey
set_option maxRecDepth 20000 in
theorem ggX4_thingOf_X4_isRight : GoodIn wsX4_thingOf wsX4_isRight := goodIn_r _ [15, 16, 17, 18, 19, 5, 20, 21, 22, 23, 24, 25, 26, 27, 28, 29, 30, 31, 32, 33, 34, 35, 36, 37, 38, 39, 44, 45, 46, 47, 48, 49, 50, 51, 52, 53, 54, 55] (by decide +kernel) (by decide +kernel)
set_option maxRecDepth 20000 in
theorem gX4_thingOf_X4_isRight : GoodIn wsX4_thingOf (wsV RX4 57 RX4 yX4_isRight wsX4_isRight) := goodIn_app (goodIn_of _ (by decide +kernel)) ggX4_thingOf_X4_isRight
set_option maxRecDepth 20000 in
theorem ggX4_thingOf_X4_nodeOf : GoodIn wsX4_thingOf wsX4_nodeOf := goodIn_r _ [43, 21, 22, 23, 5, 24, 25, 44, 45, 46, 47, 48, 49, 50, 51, 52, 53, 54, 55] (by decide +kernel) (by decide +kernel)
set_option maxRecDepth 20000 in
theorem gX4_thingOf_X4_nodeOf : GoodIn wsX4_thingOf (wsV RX4 94 RX4 yX4_nodeOf wsX4_nodeOf) := goodIn_app (goodIn_of _ (by decide +kernel)) ggX4_thingOf_X4_nodeOf
set_option maxRecDepth 20000 in
theorem ggX4_thingOf_X4_at : GoodIn wsX4_thingOf wsX4_at := goodIn_r _ [24, 25, 44, 45, 46, 47, 48, 49, 50, 51, 52, 53, 54, 55] (by decide +kernel) (by decide +kernel)
set_option maxRecDepth 20000 in
theorem gX4_thingOf_X4_at : GoodIn wsX4_thingOf (wsV RX4 33 RX4 yX4_at wsX4_at) := goodIn_app (goodIn_of _ (by decide +kernel)) ggX4_thingOf_X4_at
theorem dX4_thingOf_0 : decode cX4_thingOf 0 = .ok (.aload_n 0, 1) := by decide +kernel
theorem dX4_thingOf_1 : decode cX4_thingOf 1 = .ok (.getfield 83, 3) := by decide +kernel
theorem dX4_thingOf_4 : decode cX4_thingOf 4 = .ok (.ifCond .eq 6, 3) := by decide +kernel
theorem dX4_thingOf_7 : decode cX4_thingOf 7 = .ok (.bipush (-5), 2) := by decide +kernel
theorem dX4_thingOf_9 : decode cX4_thingOf 9 = .ok (.ireturn, 1) := by decide +kernel
theorem dX4_thingOf_10 : decode cX4_thingOf 10 = .ok (.aload_n 0, 1) := by decide +kernel
theorem dX4_thingOf_11 : decode cX4_thingOf 11 = .ok (.iload_n 1, 1) := by decide +kernel
theorem dX4_thingOf_12 : decode cX4_thingOf 12 = .ok (.invokevirtual 120, 3) := by decide +kernel
theorem dX4_thingOf_15 : decode cX4_thingOf 15 = .ok (.ifCond .eq 10, 3) := by decide +kernel
theorem dX4_thingOf_18 : decode cX4_thingOf 18 = .ok (.iload_n 2, 1) := by decide +kernel
theorem dX4_thingOf_19 : decode cX4_thingOf 19 = .ok (.invokestatic 107, 3) := by decide +kernel
theorem dX4_thingOf_22 : decode cX4_thingOf 22 = .ok (.ifCond .ne 6, 3) := by decide +kernel
theorem dX4_thingOf_25 : decode cX4_thingOf 25 = .ok (.bipush (-2), 2) := by decide +kernel
theorem dX4_thingOf_27 : decode cX4_thingOf 27 = .ok (.ireturn, 1) := by decide +kernel
theorem dX4_thingOf_28 : decode cX4_thingOf 28 = .ok (.aload_n 0, 1) := by decide +kernel
theorem dX4_thingOf_29 : decode cX4_thingOf 29 = .ok (.iload_n 1, 1) := by decide +kernel
theorem dX4_thingOf_30 : decode cX4_thingOf 30 = .ok (.bipush 8, 2) := by decide +kernel
theorem dX4_thingOf_32 : decode cX4_thingOf 32 = .ok (.irem, 1) := by decide +kernel
theorem dX4_thingOf_33 : decode cX4_thingOf 33 = .ok (.iconst 1, 1) := by decide +kernel
