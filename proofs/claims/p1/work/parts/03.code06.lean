theorem dX4_thingOf_34 : decode cX4_thingOf 34 = .ok (.invokevirtual 57, 3) := by decide +kernel
theorem dX4_thingOf_37 : decode cX4_thingOf 37 = .ok (.ifCond .ne 6, 3) := by decide +kernel
theorem dX4_thingOf_40 : decode cX4_thingOf 40 = .ok (.bipush (-4), 2) := by decide +kernel
theorem dX4_thingOf_42 : decode cX4_thingOf 42 = .ok (.ireturn, 1) := by decide +kernel
theorem dX4_thingOf_43 : decode cX4_thingOf 43 = .ok (.aload_n 0, 1) := by decide +kernel
theorem dX4_thingOf_44 : decode cX4_thingOf 44 = .ok (.iload_n 1, 1) := by decide +kernel
theorem dX4_thingOf_45 : decode cX4_thingOf 45 = .ok (.iload_n 2, 1) := by decide +kernel
theorem dX4_thingOf_46 : decode cX4_thingOf 46 = .ok (.bipush 32, 2) := by decide +kernel
theorem dX4_thingOf_48 : decode cX4_thingOf 48 = .ok (.idiv, 1) := by decide +kernel
theorem dX4_thingOf_49 : decode cX4_thingOf 49 = .ok (.invokevirtual 94, 3) := by decide +kernel
theorem dX4_thingOf_52 : decode cX4_thingOf 52 = .ok (.istore_n 3, 1) := by decide +kernel
theorem dX4_thingOf_53 : decode cX4_thingOf 53 = .ok (.iload_n 3, 1) := by decide +kernel
theorem dX4_thingOf_54 : decode cX4_thingOf 54 = .ok (.ifCond .ne 5, 3) := by decide +kernel
theorem dX4_thingOf_57 : decode cX4_thingOf 57 = .ok (.iconst (-1), 1) := by decide +kernel
theorem dX4_thingOf_58 : decode cX4_thingOf 58 = .ok (.ireturn, 1) := by decide +kernel
theorem dX4_thingOf_59 : decode cX4_thingOf 59 = .ok (.aload_n 0, 1) := by decide +kernel
theorem dX4_thingOf_60 : decode cX4_thingOf 60 = .ok (.iload_n 3, 1) := by decide +kernel
theorem dX4_thingOf_61 : decode cX4_thingOf 61 = .ok (.iconst 2, 1) := by decide +kernel
theorem dX4_thingOf_62 : decode cX4_thingOf 62 = .ok (.invokevirtual 57, 3) := by decide +kernel
theorem dX4_thingOf_65 : decode cX4_thingOf 65 = .ok (.ifCond .ne 6, 3) := by decide +kernel
theorem dX4_thingOf_68 : decode cX4_thingOf 68 = .ok (.bipush (-4), 2) := by decide +kernel
theorem dX4_thingOf_70 : decode cX4_thingOf 70 = .ok (.ireturn, 1) := by decide +kernel
theorem dX4_thingOf_71 : decode cX4_thingOf 71 = .ok (.aload_n 0, 1) := by decide +kernel
theorem dX4_thingOf_72 : decode cX4_thingOf 72 = .ok (.iload_n 3, 1) := by decide +kernel
theorem dX4_thingOf_73 : decode cX4_thingOf 73 = .ok (.iconst 2, 1) := by decide +kernel
theorem dX4_thingOf_74 : decode cX4_thingOf 74 = .ok (.iload_n 2, 1) := by decide +kernel
theorem dX4_thingOf_75 : decode cX4_thingOf 75 = .ok (.bipush 32, 2) := by decide +kernel
theorem dX4_thingOf_77 : decode cX4_thingOf 77 = .ok (.irem, 1) := by decide +kernel
theorem dX4_thingOf_78 : decode cX4_thingOf 78 = .ok (.iadd, 1) := by decide +kernel
theorem dX4_thingOf_79 : decode cX4_thingOf 79 = .ok (.invokevirtual 33, 3) := by decide +kernel
theorem dX4_thingOf_82 : decode cX4_thingOf 82 = .ok (.istore 4, 2) := by decide +kernel
theorem dX4_thingOf_84 : decode cX4_thingOf 84 = .ok (.iload 4, 2) := by decide +kernel
theorem dX4_thingOf_86 : decode cX4_thingOf 86 = .ok (.ifCond .ne 7, 3) := by decide +kernel
theorem dX4_thingOf_89 : decode cX4_thingOf 89 = .ok (.iconst (-1), 1) := by decide +kernel
theorem dX4_thingOf_90 : decode cX4_thingOf 90 = .ok (.goto 20, 3) := by decide +kernel
theorem dX4_thingOf_93 : decode cX4_thingOf 93 = .ok (.aload_n 0, 1) := by decide +kernel
theorem dX4_thingOf_94 : decode cX4_thingOf 94 = .ok (.iload 4, 2) := by decide +kernel
theorem dX4_thingOf_96 : decode cX4_thingOf 96 = .ok (.iconst 3, 1) := by decide +kernel
theorem dX4_thingOf_97 : decode cX4_thingOf 97 = .ok (.invokevirtual 57, 3) := by decide +kernel
theorem dX4_thingOf_100 : decode cX4_thingOf 100 = .ok (.ifCond .eq 8, 3) := by decide +kernel
theorem dX4_thingOf_103 : decode cX4_thingOf 103 = .ok (.iload 4, 2) := by decide +kernel
theorem dX4_thingOf_105 : decode cX4_thingOf 105 = .ok (.goto 5, 3) := by decide +kernel
theorem dX4_thingOf_108 : decode cX4_thingOf 108 = .ok (.bipush (-4), 2) := by decide +kernel
theorem dX4_thingOf_110 : decode cX4_thingOf 110 = .ok (.ireturn, 1) := by decide +kernel
set_option maxRecDepth 20000 in
theorem ggX4_length_X4_thingOf : GoodIn wsX4_length wsX4_thingOf := goodIn_r _ [6, 7, 8, 9, 10, 5, 11, 12, 13, 14, 15, 16, 17, 18, 19, 20, 21, 22, 23, 24, 25, 26, 27, 28, 29, 30, 31, 32, 33, 34, 35, 36, 37, 38, 39, 40, 41, 42, 43, 44, 45, 46, 47, 48, 49, 50, 51, 52, 53, 54, 55, 56, 57, 58, 59, 60] (by decide +kernel) (by decide +kernel)
set_option maxRecDepth 20000 in
theorem gX4_length_X4_thingOf : GoodIn wsX4_length (wsV RX4 123 RX4 yX4_thingOf wsX4_thingOf) := goodIn_app (goodIn_of _ (by decide +kernel)) ggX4_length_X4_thingOf
set_option maxRecDepth 20000 in
theorem ggX4_length_X4_at : GoodIn wsX4_length wsX4_at := goodIn_r _ [29, 30, 49, 50, 51, 52, 53, 54, 55, 56, 57, 58, 59, 60] (by decide +kernel) (by decide +kernel)
set_option maxRecDepth 20000 in
theorem gX4_length_X4_at : GoodIn wsX4_length (wsV RX4 33 RX4 yX4_at wsX4_at) := goodIn_app (goodIn_of _ (by decide +kernel)) ggX4_length_X4_at
theorem dX4_length_0 : decode cX4_length 0 = .ok (.aload_n 0, 1) := by decide +kernel
theorem dX4_length_1 : decode cX4_length 1 = .ok (.iconst 0, 1) := by decide +kernel
theorem dX4_length_2 : decode cX4_length 2 = .ok (.putfield 30, 3) := by decide +kernel
theorem dX4_length_5 : decode cX4_length 5 = .ok (.aload_n 0, 1) := by decide +kernel
theorem dX4_length_6 : decode cX4_length 6 = .ok (.iload_n 1, 1) := by decide +kernel
theorem dX4_length_7 : decode cX4_length 7 = .ok (.iload_n 2, 1) := by decide +kernel
theorem dX4_length_8 : decode cX4_length 8 = .ok (.invokevirtual 123, 3) := by decide +kernel
theorem dX4_length_11 : decode cX4_length 11 = .ok (.istore_n 3, 1) := by decide +kernel
theorem dX4_length_12 : decode cX4_length 12 = .ok (.iload_n 3, 1) := by decide +kernel
theorem dX4_length_13 : decode cX4_length 13 = .ok (.ifCond .ge 7, 3) := by decide +kernel
theorem dX4_length_16 : decode cX4_length 16 = .ok (.iload_n 3, 1) := by decide +kernel
theorem dX4_length_17 : decode cX4_length 17 = .ok (.goto 9, 3) := by decide +kernel
theorem dX4_length_20 : decode cX4_length 20 = .ok (.aload_n 0, 1) := by decide +kernel
theorem dX4_length_21 : decode cX4_length 21 = .ok (.iload_n 3, 1) := by decide +kernel
theorem dX4_length_22 : decode cX4_length 22 = .ok (.iconst 3, 1) := by decide +kernel
theorem dX4_length_23 : decode cX4_length 23 = .ok (.invokevirtual 33, 3) := by decide +kernel
theorem dX4_length_26 : decode cX4_length 26 = .ok (.ireturn, 1) := by decide +kernel
set_option maxRecDepth 20000 in
theorem ggX4_find_X4_thingOf : GoodIn wsX4_find wsX4_thingOf := goodIn_r _ [6, 7, 8, 9, 10, 5, 11, 12, 13, 14, 15, 16, 17, 18, 19, 20, 21, 22, 23, 24, 25, 26, 27, 28, 29, 30, 31, 32, 33, 34, 35, 36, 37, 38, 39, 40, 41, 42, 43, 44, 45, 46, 47, 48, 49, 50, 51, 52, 53, 54, 55, 56, 57, 58, 59, 60] (by decide +kernel) (by decide +kernel)
set_option maxRecDepth 20000 in
theorem gX4_find_X4_thingOf : GoodIn wsX4_find (wsV RX4 123 RX4 yX4_thingOf wsX4_thingOf) := goodIn_app (goodIn_of _ (by decide +kernel)) ggX4_find_X4_thingOf
set_option maxRecDepth 20000 in
theorem ggX4_find_X4_at : GoodIn wsX4_find wsX4_at := goodIn_r _ [29, 30, 49, 50, 51, 52, 53, 54, 55, 56, 57, 58, 59, 60] (by decide +kernel) (by decide +kernel)
set_option maxRecDepth 20000 in
theorem gX4_find_X4_at : GoodIn wsX4_find (wsV RX4 33 RX4 yX4_at wsX4_at) := goodIn_app (goodIn_of _ (by decide +kernel)) ggX4_find_X4_at
theorem dX4_find_0 : decode cX4_find 0 = .ok (.aload_n 0, 1) := by decide +kernel
theorem dX4_find_1 : decode cX4_find 1 = .ok (.iconst 0, 1) := by decide +kernel
theorem dX4_find_2 : decode cX4_find 2 = .ok (.putfield 30, 3) := by decide +kernel
theorem dX4_find_5 : decode cX4_find 5 = .ok (.aload_n 0, 1) := by decide +kernel
theorem dX4_find_6 : decode cX4_find 6 = .ok (.iload_n 1, 1) := by decide +kernel
theorem dX4_find_7 : decode cX4_find 7 = .ok (.iload_n 2, 1) := by decide +kernel
theorem dX4_find_8 : decode cX4_find 8 = .ok (.invokevirtual 123, 3) := by decide +kernel
theorem dX4_find_11 : decode cX4_find 11 = .ok (.istore 4, 2) := by decide +kernel
theorem dX4_find_13 : decode cX4_find 13 = .ok (.iload 4, 2) := by decide +kernel
theorem dX4_find_15 : decode cX4_find 15 = .ok (.ifCond .ge 8, 3) := by decide +kernel
theorem dX4_find_18 : decode cX4_find 18 = .ok (.iload 4, 2) := by decide +kernel
theorem dX4_find_20 : decode cX4_find 20 = .ok (.goto 31, 3) := by decide +kernel
theorem dX4_find_23 : decode cX4_find 23 = .ok (.iload_n 3, 1) := by decide +kernel
theorem dX4_find_24 : decode cX4_find 24 = .ok (.ifCond .lt 14, 3) := by decide +kernel
theorem dX4_find_27 : decode cX4_find 27 = .ok (.iload_n 3, 1) := by decide +kernel
theorem dX4_find_28 : decode cX4_find 28 = .ok (.aload_n 0, 1) := by decide +kernel
theorem dX4_find_29 : decode cX4_find 29 = .ok (.iload 4, 2) := by decide +kernel
theorem dX4_find_31 : decode cX4_find 31 = .ok (.iconst 3, 1) := by decide +kernel
theorem dX4_find_32 : decode cX4_find 32 = .ok (.invokevirtual 33, 3) := by decide +kernel
theorem dX4_find_35 : decode cX4_find 35 = .ok (.if_icmp .lt 7, 3) := by decide +kernel
theorem dX4_find_38 : decode cX4_find 38 = .ok (.iconst (-1), 1) := by decide +kernel
theorem dX4_find_39 : decode cX4_find 39 = .ok (.goto 12, 3) := by decide +kernel
theorem dX4_find_42 : decode cX4_find 42 = .ok (.aload_n 0, 1) := by decide +kernel
theorem dX4_find_43 : decode cX4_find 43 = .ok (.iload 4, 2) := by decide +kernel
theorem dX4_find_45 : decode cX4_find 45 = .ok (.iconst 4, 1) := by decide +kernel
theorem dX4_find_46 : decode cX4_find 46 = .ok (.iload_n 3, 1) := by decide +kernel
theorem dX4_find_47 : decode cX4_find 47 = .ok (.iadd, 1) := by decide +kernel
theorem dX4_find_48 : decode cX4_find 48 = .ok (.invokevirtual 33, 3) := by decide +kernel
theorem dX4_find_51 : decode cX4_find 51 = .ok (.ireturn, 1) := by decide +kernel
set_option maxRecDepth 20000 in
theorem ggX4_next_X4_isKept : GoodIn wsX4_next wsX4_isKept := goodIn_r _ [7, 8, 9, 45, 46, 47, 48, 49, 50, 51, 52, 53, 54, 55, 56] (by decide +kernel) (by decide +kernel)
set_option maxRecDepth 20000 in
theorem gX4_next_X4_isKept : GoodIn wsX4_next (wsV RX4 120 RX4 yX4_isKept wsX4_isKept) := goodIn_app (goodIn_of _ (by decide +kernel)) ggX4_next_X4_isKept
set_option maxRecDepth 20000 in
theorem ggX4_next_X4_isKey : GoodIn wsX4_next wsX4_isKey := goodIn_r _ [12] (by decide +kernel) (by decide +kernel)
set_option maxRecDepth 20000 in
theorem gX4_next_X4_isKey : GoodIn wsX4_next (va_wsS RX4 107 yX4_isKey wsX4_isKey) := goodIn_app (goodIn_of _ (by decide +kernel)) ggX4_next_X4_isKey
set_option maxRecDepth 20000 in
theorem ggX4_next_X4_isRight : GoodIn wsX4_next wsX4_isRight := goodIn_r _ [16, 17, 18, 19, 20, 6, 21, 22, 23, 24, 25, 26, 27, 28, 29, 30, 31, 32, 33, 34, 35, 36, 37, 38, 39, 40, 45, 46, 47, 48, 49, 50, 51, 52, 53, 54, 55, 56] (by decide +kernel) (by decide +kernel)
set_option maxRecDepth 20000 in
theorem gX4_next_X4_isRight : GoodIn wsX4_next (wsV RX4 57 RX4 yX4_isRight wsX4_isRight) := goodIn_app (goodIn_of _ (by decide +kernel)) ggX4_next_X4_isRight
set_option maxRecDepth 20000 in
theorem ggX4_next_X4_nodeOf : GoodIn wsX4_next wsX4_nodeOf := goodIn_r _ [44, 22, 23, 24, 6, 25, 26, 45, 46, 47, 48, 49, 50, 51, 52, 53, 54, 55, 56] (by decide +kernel) (by decide +kernel)
set_option maxRecDepth 20000 in
theorem gX4_next_X4_nodeOf : GoodIn wsX4_next (wsV RX4 94 RX4 yX4_nodeOf wsX4_nodeOf) := goodIn_app (goodIn_of _ (by decide +kernel)) ggX4_next_X4_nodeOf
set_option maxRecDepth 20000 in
theorem ggX4_next_X4_at : GoodIn wsX4_next wsX4_at := goodIn_r _ [25, 26, 45, 46, 47, 48, 49, 50, 51, 52, 53, 54, 55, 56] (by decide +kernel) (by decide +kernel)
set_option maxRecDepth 20000 in
theorem gX4_next_X4_at : GoodIn wsX4_next (wsV RX4 33 RX4 yX4_at wsX4_at) := goodIn_app (goodIn_of _ (by decide +kernel)) ggX4_next_X4_at
theorem dX4_next_0 : decode cX4_next 0 = .ok (.aload_n 0, 1) := by decide +kernel
theorem dX4_next_1 : decode cX4_next 1 = .ok (.iconst 0, 1) := by decide +kernel
theorem dX4_next_2 : decode cX4_next 2 = .ok (.putfield 30, 3) := by decide +kernel
theorem dX4_next_5 : decode cX4_next 5 = .ok (.aload_n 0, 1) := by decide +kernel
theorem dX4_next_6 : decode cX4_next 6 = .ok (.getfield 83, 3) := by decide +kernel
theorem dX4_next_9 : decode cX4_next 9 = .ok (.ifCond .eq 6, 3) := by decide +kernel
theorem dX4_next_12 : decode cX4_next 12 = .ok (.bipush (-5), 2) := by decide +kernel
theorem dX4_next_14 : decode cX4_next 14 = .ok (.ireturn, 1) := by decide +kernel
theorem dX4_next_15 : decode cX4_next 15 = .ok (.aload_n 0, 1) := by decide +kernel
theorem dX4_next_16 : decode cX4_next 16 = .ok (.iload_n 1, 1) := by decide +kernel
theorem dX4_next_17 : decode cX4_next 17 = .ok (.invokevirtual 120, 3) := by decide +kernel
theorem dX4_next_20 : decode cX4_next 20 = .ok (.ifCond .eq 10, 3) := by decide +kernel
theorem dX4_next_23 : decode cX4_next 23 = .ok (.iload_n 2, 1) := by decide +kernel
theorem dX4_next_24 : decode cX4_next 24 = .ok (.invokestatic 107, 3) := by decide +kernel
theorem dX4_next_27 : decode cX4_next 27 = .ok (.ifCond .ne 6, 3) := by decide +kernel
theorem dX4_next_30 : decode cX4_next 30 = .ok (.bipush (-2), 2) := by decide +kernel
theorem dX4_next_32 : decode cX4_next 32 = .ok (.ireturn, 1) := by decide +kernel
theorem dX4_next_33 : decode cX4_next 33 = .ok (.aload_n 0, 1) := by decide +kernel
theorem dX4_next_34 : decode cX4_next 34 = .ok (.iload_n 1, 1) := by decide +kernel
theorem dX4_next_35 : decode cX4_next 35 = .ok (.bipush 8, 2) := by decide +kernel
theorem dX4_next_37 : decode cX4_next 37 = .ok (.irem, 1) := by decide +kernel
theorem dX4_next_38 : decode cX4_next 38 = .ok (.iconst 1, 1) := by decide +kernel
theorem dX4_next_39 : decode cX4_next 39 = .ok (.invokevirtual 57, 3) := by decide +kernel
theorem dX4_next_42 : decode cX4_next 42 = .ok (.ifCond .ne 6, 3) := by decide +kernel
theorem dX4_next_45 : decode cX4_next 45 = .ok (.bipush (-4), 2) := by decide +kernel
theorem dX4_next_47 : decode cX4_next 47 = .ok (.ireturn, 1) := by decide +kernel
theorem dX4_next_48 : decode cX4_next 48 = .ok (.iload_n 2, 1) := by decide +kernel
theorem dX4_next_49 : decode cX4_next 49 = .ok (.istore_n 3, 1) := by decide +kernel
theorem dX4_next_50 : decode cX4_next 50 = .ok (.iload_n 3, 1) := by decide +kernel
theorem dX4_next_51 : decode cX4_next 51 = .ok (.sipush 1024, 3) := by decide +kernel
theorem dX4_next_54 : decode cX4_next 54 = .ok (.if_icmp .ge 72, 3) := by decide +kernel
theorem dX4_next_57 : decode cX4_next 57 = .ok (.aload_n 0, 1) := by decide +kernel
theorem dX4_next_58 : decode cX4_next 58 = .ok (.iload_n 1, 1) := by decide +kernel
theorem dX4_next_59 : decode cX4_next 59 = .ok (.iload_n 3, 1) := by decide +kernel
theorem dX4_next_60 : decode cX4_next 60 = .ok (.bipush 32, 2) := by decide +kernel
theorem dX4_next_62 : decode cX4_next 62 = .ok (.idiv, 1) := by decide +kernel
theorem dX4_next_63 : decode cX4_next 63 = .ok (.invokevirtual 94, 3) := by decide +kernel
theorem dX4_next_66 : decode cX4_next 66 = .ok (.istore 4, 2) := by decide +kernel
theorem dX4_next_68 : decode cX4_next 68 = .ok (.iload 4, 2) := by decide +kernel
theorem dX4_next_70 : decode cX4_next 70 = .ok (.ifCond .eq 28, 3) := by decide +kernel
theorem dX4_next_73 : decode cX4_next 73 = .ok (.iload_n 3, 1) := by decide +kernel
theorem dX4_next_74 : decode cX4_next 74 = .ok (.iload_n 2, 1) := by decide +kernel
theorem dX4_next_75 : decode cX4_next 75 = .ok (.if_icmp .eq 10, 3) := by decide +kernel
theorem dX4_next_78 : decode cX4_next 78 = .ok (.iload_n 3, 1) := by decide +kernel
theorem dX4_next_79 : decode cX4_next 79 = .ok (.bipush 32, 2) := by decide +kernel
theorem dX4_next_81 : decode cX4_next 81 = .ok (.irem, 1) := by decide +kernel
theorem dX4_next_82 : decode cX4_next 82 = .ok (.ifCond .ne 16, 3) := by decide +kernel
theorem dX4_next_85 : decode cX4_next 85 = .ok (.aload_n 0, 1) := by decide +kernel
theorem dX4_next_86 : decode cX4_next 86 = .ok (.iload 4, 2) := by decide +kernel
theorem dX4_next_88 : decode cX4_next 88 = .ok (.iconst 2, 1) := by decide +kernel
theorem dX4_next_89 : decode cX4_next 89 = .ok (.invokevirtual 57, 3) := by decide +kernel
theorem dX4_next_92 : decode cX4_next 92 = .ok (.ifCond .ne 6, 3) := by decide +kernel
theorem dX4_next_95 : decode cX4_next 95 = .ok (.bipush (-4), 2) := by decide +kernel
theorem dX4_next_97 : decode cX4_next 97 = .ok (.ireturn, 1) := by decide +kernel
theorem dX4_next_98 : decode cX4_next 98 = .ok (.iload 4, 2) := by decide +kernel
theorem dX4_next_100 : decode cX4_next 100 = .ok (.ifCond .eq 20, 3) := by decide +kernel
theorem dX4_next_103 : decode cX4_next 103 = .ok (.aload_n 0, 1) := by decide +kernel
theorem dX4_next_104 : decode cX4_next 104 = .ok (.iload 4, 2) := by decide +kernel
theorem dX4_next_106 : decode cX4_next 106 = .ok (.iconst 2, 1) := by decide +kernel
theorem dX4_next_107 : decode cX4_next 107 = .ok (.iload_n 3, 1) := by decide +kernel
theorem dX4_next_108 : decode cX4_next 108 = .ok (.bipush 32, 2) := by decide +kernel
theorem dX4_next_110 : decode cX4_next 110 = .ok (.irem, 1) := by decide +kernel
theorem dX4_next_111 : decode cX4_next 111 = .ok (.iadd, 1) := by decide +kernel
theorem dX4_next_112 : decode cX4_next 112 = .ok (.invokevirtual 33, 3) := by decide +kernel
theorem dX4_next_115 : decode cX4_next 115 = .ok (.ifCond .eq 5, 3) := by decide +kernel
theorem dX4_next_118 : decode cX4_next 118 = .ok (.iload_n 3, 1) := by decide +kernel
theorem dX4_next_119 : decode cX4_next 119 = .ok (.ireturn, 1) := by decide +kernel
theorem dX4_next_120 : decode cX4_next 120 = .ok (.iinc 3 1, 3) := by decide +kernel
theorem dX4_next_123 : decode cX4_next 123 = .ok (.goto (-73), 3) := by decide +kernel
theorem dX4_next_126 : decode cX4_next 126 = .ok (.iconst (-1), 1) := by decide +kernel
theorem dX4_next_127 : decode cX4_next 127 = .ok (.ireturn, 1) := by decide +kernel
set_option maxRecDepth 20000 in
theorem ggX4_crash_X4_fail : GoodIn wsX4_crash wsX4_fail := goodIn_r _ [8, 2, 3, 9, 10, 11, 12, 13, 14, 15, 16, 17, 18, 19, 20, 21] (by decide +kernel) (by decide +kernel)
set_option maxRecDepth 20000 in
theorem gX4_crash_X4_fail : GoodIn wsX4_crash (wsV RX4 80 RX4 yX4_fail wsX4_fail) := goodIn_app (goodIn_of _ (by decide +kernel)) ggX4_crash_X4_fail
theorem dX4_crash_0 : decode cX4_crash 0 = .ok (.aload_n 0, 1) := by decide +kernel
theorem dX4_crash_1 : decode cX4_crash 1 = .ok (.iconst 0, 1) := by decide +kernel
theorem dX4_crash_2 : decode cX4_crash 2 = .ok (.putfield 30, 3) := by decide +kernel
theorem dX4_crash_5 : decode cX4_crash 5 = .ok (.aload_n 0, 1) := by decide +kernel
theorem dX4_crash_6 : decode cX4_crash 6 = .ok (.getfield 83, 3) := by decide +kernel
theorem dX4_crash_9 : decode cX4_crash 9 = .ok (.ifCond .eq 6, 3) := by decide +kernel
theorem dX4_crash_12 : decode cX4_crash 12 = .ok (.bipush (-5), 2) := by decide +kernel
theorem dX4_crash_14 : decode cX4_crash 14 = .ok (.ireturn, 1) := by decide +kernel
theorem dX4_crash_15 : decode cX4_crash 15 = .ok (.iload_n 1, 1) := by decide +kernel
theorem dX4_crash_16 : decode cX4_crash 16 = .ok (.iconst (-1), 1) := by decide +kernel
theorem dX4_crash_17 : decode cX4_crash 17 = .ok (.if_icmp .lt 10, 3) := by decide +kernel
theorem dX4_crash_20 : decode cX4_crash 20 = .ok (.iload_n 1, 1) := by decide +kernel
theorem dX4_crash_21 : decode cX4_crash 21 = .ok (.sipush 1000, 3) := by decide +kernel
theorem dX4_crash_24 : decode cX4_crash 24 = .ok (.if_icmp .le 6, 3) := by decide +kernel
theorem dX4_crash_27 : decode cX4_crash 27 = .ok (.bipush (-2), 2) := by decide +kernel
theorem dX4_crash_29 : decode cX4_crash 29 = .ok (.ireturn, 1) := by decide +kernel
theorem dX4_crash_30 : decode cX4_crash 30 = .ok (.aload_n 0, 1) := by decide +kernel
theorem dX4_crash_31 : decode cX4_crash 31 = .ok (.iload_n 1, 1) := by decide +kernel
theorem dX4_crash_32 : decode cX4_crash 32 = .ok (.putfield 17, 3) := by decide +kernel
theorem dX4_crash_35 : decode cX4_crash 35 = .ok (.iload_n 1, 1) := by decide +kernel
theorem dX4_crash_36 : decode cX4_crash 36 = .ok (.ifCond .ne 7, 3) := by decide +kernel
theorem dX4_crash_39 : decode cX4_crash 39 = .ok (.aload_n 0, 1) := by decide +kernel
theorem dX4_crash_40 : decode cX4_crash 40 = .ok (.invokevirtual 80, 3) := by decide +kernel
theorem dX4_crash_43 : decode cX4_crash 43 = .ok (.iconst 1, 1) := by decide +kernel
theorem dX4_crash_44 : decode cX4_crash 44 = .ok (.ireturn, 1) := by decide +kernel
set_option maxRecDepth 20000 in
theorem ggX4_reopen_X4_isRight : GoodIn wsX4_reopen wsX4_isRight := goodIn_r _ [11, 12, 13, 14, 15, 10, 16, 17, 18, 19, 20, 21, 22, 23, 24, 25, 26, 27, 28, 29, 30, 31, 32, 33, 34, 35, 36, 37, 38, 39, 40, 41, 42, 43, 44, 45, 46, 47] (by decide +kernel) (by decide +kernel)
set_option maxRecDepth 20000 in
theorem gX4_reopen_X4_isRight : GoodIn wsX4_reopen (wsV RX4 57 RX4 yX4_isRight wsX4_isRight) := goodIn_app (goodIn_of _ (by decide +kernel)) ggX4_reopen_X4_isRight
set_option maxRecDepth 20000 in
theorem ggX4_reopen_X4_number : GoodIn wsX4_reopen wsX4_number := goodIn_r _ [25, 17, 18, 19, 10, 20, 21, 36, 37, 38, 39, 40, 41, 42, 43, 44, 45, 46, 47] (by decide +kernel) (by decide +kernel)
set_option maxRecDepth 20000 in
theorem gX4_reopen_X4_number : GoodIn wsX4_reopen (wsV RX4 42 RX4 yX4_number wsX4_number) := goodIn_app (goodIn_of _ (by decide +kernel)) ggX4_reopen_X4_number
theorem dX4_reopen_0 : decode cX4_reopen 0 = .ok (.aload_n 0, 1) := by decide +kernel
theorem dX4_reopen_1 : decode cX4_reopen 1 = .ok (.iconst 0, 1) := by decide +kernel
theorem dX4_reopen_2 : decode cX4_reopen 2 = .ok (.putfield 30, 3) := by decide +kernel
theorem dX4_reopen_5 : decode cX4_reopen 5 = .ok (.aload_n 0, 1) := by decide +kernel
theorem dX4_reopen_6 : decode cX4_reopen 6 = .ok (.iconst 0, 1) := by decide +kernel
theorem dX4_reopen_7 : decode cX4_reopen 7 = .ok (.putfield 83, 3) := by decide +kernel
theorem dX4_reopen_10 : decode cX4_reopen 10 = .ok (.aload_n 0, 1) := by decide +kernel
theorem dX4_reopen_11 : decode cX4_reopen 11 = .ok (.iconst (-1), 1) := by decide +kernel
theorem dX4_reopen_12 : decode cX4_reopen 12 = .ok (.putfield 17, 3) := by decide +kernel
theorem dX4_reopen_15 : decode cX4_reopen 15 = .ok (.aload_n 0, 1) := by decide +kernel
theorem dX4_reopen_16 : decode cX4_reopen 16 = .ok (.iconst 0, 1) := by decide +kernel
theorem dX4_reopen_17 : decode cX4_reopen 17 = .ok (.putfield 87, 3) := by decide +kernel
theorem dX4_reopen_20 : decode cX4_reopen 20 = .ok (.aload_n 0, 1) := by decide +kernel
theorem dX4_reopen_21 : decode cX4_reopen 21 = .ok (.iconst 0, 1) := by decide +kernel
theorem dX4_reopen_22 : decode cX4_reopen 22 = .ok (.putfield 67, 3) := by decide +kernel
theorem dX4_reopen_25 : decode cX4_reopen 25 = .ok (.aload_n 0, 1) := by decide +kernel
theorem dX4_reopen_26 : decode cX4_reopen 26 = .ok (.iconst 1, 1) := by decide +kernel
theorem dX4_reopen_27 : decode cX4_reopen 27 = .ok (.putfield 13, 3) := by decide +kernel
theorem dX4_reopen_30 : decode cX4_reopen 30 = .ok (.iconst 0, 1) := by decide +kernel
theorem dX4_reopen_31 : decode cX4_reopen 31 = .ok (.istore_n 1, 1) := by decide +kernel
theorem dX4_reopen_32 : decode cX4_reopen 32 = .ok (.iload_n 1, 1) := by decide +kernel
theorem dX4_reopen_33 : decode cX4_reopen 33 = .ok (.bipush 8, 2) := by decide +kernel
theorem dX4_reopen_35 : decode cX4_reopen 35 = .ok (.if_icmp .ge 51, 3) := by decide +kernel
theorem dX4_reopen_38 : decode cX4_reopen 38 = .ok (.aload_n 0, 1) := by decide +kernel
theorem dX4_reopen_39 : decode cX4_reopen 39 = .ok (.iload_n 1, 1) := by decide +kernel
theorem dX4_reopen_40 : decode cX4_reopen 40 = .ok (.iconst 1, 1) := by decide +kernel
theorem dX4_reopen_41 : decode cX4_reopen 41 = .ok (.invokevirtual 57, 3) := by decide +kernel
theorem dX4_reopen_44 : decode cX4_reopen 44 = .ok (.ifCond .eq 36, 3) := by decide +kernel
theorem dX4_reopen_47 : decode cX4_reopen 47 = .ok (.aload_n 0, 1) := by decide +kernel
theorem dX4_reopen_48 : decode cX4_reopen 48 = .ok (.iload_n 1, 1) := by decide +kernel
theorem dX4_reopen_49 : decode cX4_reopen 49 = .ok (.iconst 1, 1) := by decide +kernel
theorem dX4_reopen_50 : decode cX4_reopen 50 = .ok (.invokevirtual 42, 3) := by decide +kernel
theorem dX4_reopen_53 : decode cX4_reopen 53 = .ok (.aload_n 0, 1) := by decide +kernel
theorem dX4_reopen_54 : decode cX4_reopen 54 = .ok (.getfield 67, 3) := by decide +kernel
theorem dX4_reopen_57 : decode cX4_reopen 57 = .ok (.if_icmp .le 23, 3) := by decide +kernel
theorem dX4_reopen_60 : decode cX4_reopen 60 = .ok (.aload_n 0, 1) := by decide +kernel
theorem dX4_reopen_61 : decode cX4_reopen 61 = .ok (.aload_n 0, 1) := by decide +kernel
theorem dX4_reopen_62 : decode cX4_reopen 62 = .ok (.iload_n 1, 1) := by decide +kernel
theorem dX4_reopen_63 : decode cX4_reopen 63 = .ok (.iconst 1, 1) := by decide +kernel
theorem dX4_reopen_64 : decode cX4_reopen 64 = .ok (.invokevirtual 42, 3) := by decide +kernel
theorem dX4_reopen_67 : decode cX4_reopen 67 = .ok (.putfield 67, 3) := by decide +kernel
theorem dX4_reopen_70 : decode cX4_reopen 70 = .ok (.aload_n 0, 1) := by decide +kernel
theorem dX4_reopen_71 : decode cX4_reopen 71 = .ok (.aload_n 0, 1) := by decide +kernel
theorem dX4_reopen_72 : decode cX4_reopen 72 = .ok (.iload_n 1, 1) := by decide +kernel
theorem dX4_reopen_73 : decode cX4_reopen 73 = .ok (.iconst 5, 1) := by decide +kernel
theorem dX4_reopen_74 : decode cX4_reopen 74 = .ok (.invokevirtual 42, 3) := by decide +kernel
theorem dX4_reopen_77 : decode cX4_reopen 77 = .ok (.putfield 13, 3) := by decide +kernel
theorem dX4_reopen_80 : decode cX4_reopen 80 = .ok (.iinc 1 1, 3) := by decide +kernel
theorem dX4_reopen_83 : decode cX4_reopen 83 = .ok (.goto (-51), 3) := by decide +kernel
theorem dX4_reopen_86 : decode cX4_reopen 86 = .ok (.aload_n 0, 1) := by decide +kernel
theorem dX4_reopen_87 : decode cX4_reopen 87 = .ok (.getfield 67, 3) := by decide +kernel
theorem dX4_reopen_90 : decode cX4_reopen 90 = .ok (.ireturn, 1) := by decide +kernel
theorem dX4_isByte_0 : decode cX4_isByte 0 = .ok (.iload_n 1, 1) := by decide +kernel
theorem dX4_isByte_1 : decode cX4_isByte 1 = .ok (.ifCond .lt 25, 3) := by decide +kernel
theorem dX4_isByte_4 : decode cX4_isByte 4 = .ok (.iload_n 1, 1) := by decide +kernel
theorem dX4_isByte_5 : decode cX4_isByte 5 = .ok (.aload_n 0, 1) := by decide +kernel
theorem dX4_isByte_6 : decode cX4_isByte 6 = .ok (.getfield 27, 3) := by decide +kernel
theorem dX4_isByte_9 : decode cX4_isByte 9 = .ok (.if_icmp .ge 17, 3) := by decide +kernel
theorem dX4_isByte_12 : decode cX4_isByte 12 = .ok (.iload_n 2, 1) := by decide +kernel
theorem dX4_isByte_13 : decode cX4_isByte 13 = .ok (.ifCond .lt 13, 3) := by decide +kernel
theorem dX4_isByte_16 : decode cX4_isByte 16 = .ok (.iload_n 2, 1) := by decide +kernel
theorem dX4_isByte_17 : decode cX4_isByte 17 = .ok (.bipush 48, 2) := by decide +kernel
theorem dX4_isByte_19 : decode cX4_isByte 19 = .ok (.if_icmp .ge 7, 3) := by decide +kernel
theorem dX4_isByte_22 : decode cX4_isByte 22 = .ok (.iconst 1, 1) := by decide +kernel
theorem dX4_isByte_23 : decode cX4_isByte 23 = .ok (.goto 4, 3) := by decide +kernel
theorem dX4_isByte_26 : decode cX4_isByte 26 = .ok (.iconst 0, 1) := by decide +kernel
theorem dX4_isByte_27 : decode cX4_isByte 27 = .ok (.ireturn, 1) := by decide +kernel
set_option maxRecDepth 20000 in
theorem ggX4_poke_X4_isByte : GoodIn wsX4_poke wsX4_isByte := goodIn_r _ [6, 7, 17, 18, 19, 20, 21, 22, 23, 24, 25, 26, 27, 28] (by decide +kernel) (by decide +kernel)
set_option maxRecDepth 20000 in
theorem gX4_poke_X4_isByte : GoodIn wsX4_poke (wsV RX4 126 RX4 yX4_isByte wsX4_isByte) := goodIn_app (goodIn_of _ (by decide +kernel)) ggX4_poke_X4_isByte
set_option maxRecDepth 20000 in
theorem ggX4_poke_X4_at : GoodIn wsX4_poke wsX4_at := goodIn_r _ [11, 12, 17, 18, 19, 20, 21, 22, 23, 24, 25, 26, 27, 28] (by decide +kernel) (by decide +kernel)
set_option maxRecDepth 20000 in
theorem gX4_poke_X4_at : GoodIn wsX4_poke (wsV RX4 33 RX4 yX4_at wsX4_at) := goodIn_app (goodIn_of _ (by decide +kernel)) ggX4_poke_X4_at
set_option maxRecDepth 20000 in
theorem ggX4_poke_X4_lay : GoodIn wsX4_poke wsX4_lay := goodIn_r _ [16, 12, 17, 18, 19, 20, 21, 22, 23, 24, 25, 26, 27, 28] (by decide +kernel) (by decide +kernel)
set_option maxRecDepth 20000 in
theorem gX4_poke_X4_lay : GoodIn wsX4_poke (wsV RX4 37 RX4 yX4_lay wsX4_lay) := goodIn_app (goodIn_of _ (by decide +kernel)) ggX4_poke_X4_lay
theorem dX4_poke_0 : decode cX4_poke 0 = .ok (.aload_n 0, 1) := by decide +kernel
theorem dX4_poke_1 : decode cX4_poke 1 = .ok (.iconst 0, 1) := by decide +kernel
theorem dX4_poke_2 : decode cX4_poke 2 = .ok (.putfield 30, 3) := by decide +kernel
theorem dX4_poke_5 : decode cX4_poke 5 = .ok (.aload_n 0, 1) := by decide +kernel
theorem dX4_poke_6 : decode cX4_poke 6 = .ok (.iload_n 1, 1) := by decide +kernel
theorem dX4_poke_7 : decode cX4_poke 7 = .ok (.iload_n 2, 1) := by decide +kernel
theorem dX4_poke_8 : decode cX4_poke 8 = .ok (.invokevirtual 126, 3) := by decide +kernel
theorem dX4_poke_11 : decode cX4_poke 11 = .ok (.ifCond .eq 15, 3) := by decide +kernel
theorem dX4_poke_14 : decode cX4_poke 14 = .ok (.iload_n 3, 1) := by decide +kernel
theorem dX4_poke_15 : decode cX4_poke 15 = .ok (.iconst 1, 1) := by decide +kernel
theorem dX4_poke_16 : decode cX4_poke 16 = .ok (.if_icmp .lt 10, 3) := by decide +kernel
theorem dX4_poke_19 : decode cX4_poke 19 = .ok (.iload_n 3, 1) := by decide +kernel
theorem dX4_poke_20 : decode cX4_poke 20 = .ok (.sipush 255, 3) := by decide +kernel
theorem dX4_poke_23 : decode cX4_poke 23 = .ok (.if_icmp .le 6, 3) := by decide +kernel
theorem dX4_poke_26 : decode cX4_poke 26 = .ok (.bipush (-2), 2) := by decide +kernel
theorem dX4_poke_28 : decode cX4_poke 28 = .ok (.ireturn, 1) := by decide +kernel
theorem dX4_poke_29 : decode cX4_poke 29 = .ok (.aload_n 0, 1) := by decide +kernel
theorem dX4_poke_30 : decode cX4_poke 30 = .ok (.iload_n 1, 1) := by decide +kernel
theorem dX4_poke_31 : decode cX4_poke 31 = .ok (.iload_n 2, 1) := by decide +kernel
theorem dX4_poke_32 : decode cX4_poke 32 = .ok (.aload_n 0, 1) := by decide +kernel
theorem dX4_poke_33 : decode cX4_poke 33 = .ok (.iload_n 1, 1) := by decide +kernel
theorem dX4_poke_34 : decode cX4_poke 34 = .ok (.iload_n 2, 1) := by decide +kernel
theorem dX4_poke_35 : decode cX4_poke 35 = .ok (.invokevirtual 33, 3) := by decide +kernel
theorem dX4_poke_38 : decode cX4_poke 38 = .ok (.iload_n 3, 1) := by decide +kernel
theorem dX4_poke_39 : decode cX4_poke 39 = .ok (.ixor, 1) := by decide +kernel
theorem dX4_poke_40 : decode cX4_poke 40 = .ok (.invokevirtual 37, 3) := by decide +kernel
theorem dX4_poke_43 : decode cX4_poke 43 = .ok (.aload_n 0, 1) := by decide +kernel
theorem dX4_poke_44 : decode cX4_poke 44 = .ok (.iload_n 1, 1) := by decide +kernel
theorem dX4_poke_45 : decode cX4_poke 45 = .ok (.iload_n 2, 1) := by decide +kernel
theorem dX4_poke_46 : decode cX4_poke 46 = .ok (.invokevirtual 33, 3) := by decide +kernel
theorem dX4_poke_49 : decode cX4_poke 49 = .ok (.ireturn, 1) := by decide +kernel
set_option maxRecDepth 20000 in
theorem ggX4_byteAt_X4_isByte : GoodIn wsX4_byteAt wsX4_isByte := goodIn_r _ [6, 7, 13, 14, 15, 16, 17, 18, 19, 20, 21, 22, 23, 24] (by decide +kernel) (by decide +kernel)
set_option maxRecDepth 20000 in
theorem gX4_byteAt_X4_isByte : GoodIn wsX4_byteAt (wsV RX4 126 RX4 yX4_isByte wsX4_isByte) := goodIn_app (goodIn_of _ (by decide +kernel)) ggX4_byteAt_X4_isByte
set_option maxRecDepth 20000 in
theorem ggX4_byteAt_X4_at : GoodIn wsX4_byteAt wsX4_at := goodIn_r _ [11, 12, 13, 14, 15, 16, 17, 18, 19, 20, 21, 22, 23, 24] (by decide +kernel) (by decide +kernel)
set_option maxRecDepth 20000 in
theorem gX4_byteAt_X4_at : GoodIn wsX4_byteAt (wsV RX4 33 RX4 yX4_at wsX4_at) := goodIn_app (goodIn_of _ (by decide +kernel)) ggX4_byteAt_X4_at
theorem dX4_byteAt_0 : decode cX4_byteAt 0 = .ok (.aload_n 0, 1) := by decide +kernel
theorem dX4_byteAt_1 : decode cX4_byteAt 1 = .ok (.iconst 0, 1) := by decide +kernel
theorem dX4_byteAt_2 : decode cX4_byteAt 2 = .ok (.putfield 30, 3) := by decide +kernel
theorem dX4_byteAt_5 : decode cX4_byteAt 5 = .ok (.aload_n 0, 1) := by decide +kernel
theorem dX4_byteAt_6 : decode cX4_byteAt 6 = .ok (.iload_n 1, 1) := by decide +kernel
theorem dX4_byteAt_7 : decode cX4_byteAt 7 = .ok (.iload_n 2, 1) := by decide +kernel
theorem dX4_byteAt_8 : decode cX4_byteAt 8 = .ok (.invokevirtual 126, 3) := by decide +kernel
theorem dX4_byteAt_11 : decode cX4_byteAt 11 = .ok (.ifCond .eq 12, 3) := by decide +kernel
theorem dX4_byteAt_14 : decode cX4_byteAt 14 = .ok (.aload_n 0, 1) := by decide +kernel
theorem dX4_byteAt_15 : decode cX4_byteAt 15 = .ok (.iload_n 1, 1) := by decide +kernel
theorem dX4_byteAt_16 : decode cX4_byteAt 16 = .ok (.iload_n 2, 1) := by decide +kernel
theorem dX4_byteAt_17 : decode cX4_byteAt 17 = .ok (.invokevirtual 33, 3) := by decide +kernel
theorem dX4_byteAt_20 : decode cX4_byteAt 20 = .ok (.goto 5, 3) := by decide +kernel
theorem dX4_byteAt_23 : decode cX4_byteAt 23 = .ok (.bipush (-2), 2) := by decide +kernel
theorem dX4_byteAt_25 : decode cX4_byteAt 25 = .ok (.ireturn, 1) := by decide +kernel
set_option maxRecDepth 20000 in
theorem ggX4_badAt_X4_reachAll : GoodIn wsX4_badAt wsX4_reachAll := goodIn_r _ [8, 3, 9, 10, 11, 12, 13, 14, 15, 7, 16, 17, 18, 19, 20, 21, 22, 23, 24, 25, 26, 27, 28, 29, 30, 31, 32, 33, 34, 35, 36, 37, 38, 39, 40, 41, 42, 43, 44, 45, 46, 47, 48, 49, 50, 51, 52, 53, 54, 55, 56, 57, 58, 59] (by decide +kernel) (by decide +kernel)
set_option maxRecDepth 20000 in
theorem gX4_badAt_X4_reachAll : GoodIn wsX4_badAt (wsV RX4 110 RX4 yX4_reachAll wsX4_reachAll) := goodIn_app (goodIn_of _ (by decide +kernel)) ggX4_badAt_X4_reachAll
theorem dX4_badAt_0 : decode cX4_badAt 0 = .ok (.aload_n 0, 1) := by decide +kernel
theorem dX4_badAt_1 : decode cX4_badAt 1 = .ok (.iconst 0, 1) := by decide +kernel
theorem dX4_badAt_2 : decode cX4_badAt 2 = .ok (.putfield 30, 3) := by decide +kernel
theorem dX4_badAt_5 : decode cX4_badAt 5 = .ok (.aload_n 0, 1) := by decide +kernel
theorem dX4_badAt_6 : decode cX4_badAt 6 = .ok (.getfield 83, 3) := by decide +kernel
theorem dX4_badAt_9 : decode cX4_badAt 9 = .ok (.ifCond .eq 6, 3) := by decide +kernel
theorem dX4_badAt_12 : decode cX4_badAt 12 = .ok (.bipush (-5), 2) := by decide +kernel
theorem dX4_badAt_14 : decode cX4_badAt 14 = .ok (.ireturn, 1) := by decide +kernel
theorem dX4_badAt_15 : decode cX4_badAt 15 = .ok (.aload_n 0, 1) := by decide +kernel
theorem dX4_badAt_16 : decode cX4_badAt 16 = .ok (.invokevirtual 110, 3) := by decide +kernel
theorem dX4_badAt_19 : decode cX4_badAt 19 = .ok (.aload_n 0, 1) := by decide +kernel
theorem dX4_badAt_20 : decode cX4_badAt 20 = .ok (.getfield 60, 3) := by decide +kernel
theorem dX4_badAt_23 : decode cX4_badAt 23 = .ok (.ireturn, 1) := by decide +kernel
set_option maxRecDepth 20000 in
theorem ggX4_freePages_X4_reachAll : GoodIn wsX4_freePages wsX4_reachAll := goodIn_r _ [7, 8, 1, 2, 9, 10, 11, 12, 13, 6, 14, 15, 16, 17, 18, 19, 20, 21, 22, 23, 24, 25, 26, 27, 28, 29, 30, 31, 32, 33, 34, 35, 36, 37, 38, 39, 40, 41, 42, 43, 44, 45, 46, 47, 48, 49, 50, 51, 52, 53, 54, 55, 56, 57] (by decide +kernel) (by decide +kernel)
set_option maxRecDepth 20000 in
theorem gX4_freePages_X4_reachAll : GoodIn wsX4_freePages (wsV RX4 110 RX4 yX4_reachAll wsX4_reachAll) := goodIn_app (goodIn_of _ (by decide +kernel)) ggX4_freePages_X4_reachAll
theorem dX4_freePages_0 : decode cX4_freePages 0 = .ok (.aload_n 0, 1) := by decide +kernel
theorem dX4_freePages_1 : decode cX4_freePages 1 = .ok (.invokevirtual 110, 3) := by decide +kernel
theorem dX4_freePages_4 : decode cX4_freePages 4 = .ok (.iconst 0, 1) := by decide +kernel
theorem dX4_freePages_5 : decode cX4_freePages 5 = .ok (.istore_n 1, 1) := by decide +kernel
theorem dX4_freePages_6 : decode cX4_freePages 6 = .ok (.bipush 8, 2) := by decide +kernel
theorem dX4_freePages_8 : decode cX4_freePages 8 = .ok (.istore_n 2, 1) := by decide +kernel
theorem dX4_freePages_9 : decode cX4_freePages 9 = .ok (.iload_n 2, 1) := by decide +kernel
theorem dX4_freePages_10 : decode cX4_freePages 10 = .ok (.aload_n 0, 1) := by decide +kernel
theorem dX4_freePages_11 : decode cX4_freePages 11 = .ok (.getfield 27, 3) := by decide +kernel
theorem dX4_freePages_14 : decode cX4_freePages 14 = .ok (.if_icmp .ge 26, 3) := by decide +kernel
theorem dX4_freePages_17 : decode cX4_freePages 17 = .ok (.iload_n 1, 1) := by decide +kernel
theorem dX4_freePages_18 : decode cX4_freePages 18 = .ok (.aload_n 0, 1) := by decide +kernel
theorem dX4_freePages_19 : decode cX4_freePages 19 = .ok (.getfield 23, 3) := by decide +kernel
theorem dX4_freePages_22 : decode cX4_freePages 22 = .ok (.iload_n 2, 1) := by decide +kernel
theorem dX4_freePages_23 : decode cX4_freePages 23 = .ok (.baload, 1) := by decide +kernel
theorem dX4_freePages_24 : decode cX4_freePages 24 = .ok (.ifCond .eq 7, 3) := by decide +kernel
theorem dX4_freePages_27 : decode cX4_freePages 27 = .ok (.iconst 0, 1) := by decide +kernel
theorem dX4_freePages_28 : decode cX4_freePages 28 = .ok (.goto 4, 3) := by decide +kernel
theorem dX4_freePages_31 : decode cX4_freePages 31 = .ok (.iconst 1, 1) := by decide +kernel
theorem dX4_freePages_32 : decode cX4_freePages 32 = .ok (.iadd, 1) := by decide +kernel
theorem dX4_freePages_33 : decode cX4_freePages 33 = .ok (.istore_n 1, 1) := by decide +kernel
theorem dX4_freePages_34 : decode cX4_freePages 34 = .ok (.iinc 2 1, 3) := by decide +kernel
theorem dX4_freePages_37 : decode cX4_freePages 37 = .ok (.goto (-28), 3) := by decide +kernel
theorem dX4_freePages_40 : decode cX4_freePages 40 = .ok (.iload_n 1, 1) := by decide +kernel
theorem dX4_freePages_41 : decode cX4_freePages 41 = .ok (.ireturn, 1) := by decide +kernel
set_option maxRecDepth 20000 in
theorem ggX4_keys_X4_hasVersion : GoodIn wsX4_keys wsX4_hasVersion := goodIn_r _ [6, 1, 7, 40, 41, 42, 43, 44, 45, 46, 47, 48, 49, 50, 51] (by decide +kernel) (by decide +kernel)
set_option maxRecDepth 20000 in
theorem gX4_keys_X4_hasVersion : GoodIn wsX4_keys (wsV RX4 90 RX4 yX4_hasVersion wsX4_hasVersion) := goodIn_app (goodIn_of _ (by decide +kernel)) ggX4_keys_X4_hasVersion
set_option maxRecDepth 20000 in
theorem ggX4_keys_X4_isRight : GoodIn wsX4_keys wsX4_isRight := goodIn_r _ [11, 12, 13, 14, 15, 5, 16, 17, 18, 19, 20, 21, 22, 23, 24, 25, 26, 27, 28, 29, 30, 31, 32, 33, 34, 35, 40, 41, 42, 43, 44, 45, 46, 47, 48, 49, 50, 51] (by decide +kernel) (by decide +kernel)
set_option maxRecDepth 20000 in
theorem gX4_keys_X4_isRight : GoodIn wsX4_keys (wsV RX4 57 RX4 yX4_isRight wsX4_isRight) := goodIn_app (goodIn_of _ (by decide +kernel)) ggX4_keys_X4_isRight
set_option maxRecDepth 20000 in
theorem ggX4_keys_X4_nodeOf : GoodIn wsX4_keys wsX4_nodeOf := goodIn_r _ [39, 17, 18, 19, 5, 20, 21, 40, 41, 42, 43, 44, 45, 46, 47, 48, 49, 50, 51] (by decide +kernel) (by decide +kernel)
set_option maxRecDepth 20000 in
theorem gX4_keys_X4_nodeOf : GoodIn wsX4_keys (wsV RX4 94 RX4 yX4_nodeOf wsX4_nodeOf) := goodIn_app (goodIn_of _ (by decide +kernel)) ggX4_keys_X4_nodeOf
set_option maxRecDepth 20000 in
theorem ggX4_keys_X4_at : GoodIn wsX4_keys wsX4_at := goodIn_r _ [20, 21, 40, 41, 42, 43, 44, 45, 46, 47, 48, 49, 50, 51] (by decide +kernel) (by decide +kernel)
set_option maxRecDepth 20000 in
theorem gX4_keys_X4_at : GoodIn wsX4_keys (wsV RX4 33 RX4 yX4_at wsX4_at) := goodIn_app (goodIn_of _ (by decide +kernel)) ggX4_keys_X4_at
theorem dX4_keys_0 : decode cX4_keys 0 = .ok (.iconst 0, 1) := by decide +kernel
theorem dX4_keys_1 : decode cX4_keys 1 = .ok (.istore_n 1, 1) := by decide +kernel
theorem dX4_keys_2 : decode cX4_keys 2 = .ok (.aload_n 0, 1) := by decide +kernel
theorem dX4_keys_3 : decode cX4_keys 3 = .ok (.invokevirtual 90, 3) := by decide +kernel
theorem dX4_keys_6 : decode cX4_keys 6 = .ok (.ifCond .eq 22, 3) := by decide +kernel
theorem dX4_keys_9 : decode cX4_keys 9 = .ok (.aload_n 0, 1) := by decide +kernel
theorem dX4_keys_10 : decode cX4_keys 10 = .ok (.aload_n 0, 1) := by decide +kernel
theorem dX4_keys_11 : decode cX4_keys 11 = .ok (.getfield 67, 3) := by decide +kernel
theorem dX4_keys_14 : decode cX4_keys 14 = .ok (.bipush 8, 2) := by decide +kernel
theorem dX4_keys_16 : decode cX4_keys 16 = .ok (.irem, 1) := by decide +kernel
theorem dX4_keys_17 : decode cX4_keys 17 = .ok (.iconst 1, 1) := by decide +kernel
theorem dX4_keys_18 : decode cX4_keys 18 = .ok (.invokevirtual 57, 3) := by decide +kernel
theorem dX4_keys_21 : decode cX4_keys 21 = .ok (.ifCond .eq 7, 3) := by decide +kernel
theorem dX4_keys_24 : decode cX4_keys 24 = .ok (.iconst 1, 1) := by decide +kernel
theorem dX4_keys_25 : decode cX4_keys 25 = .ok (.goto 4, 3) := by decide +kernel
theorem dX4_keys_28 : decode cX4_keys 28 = .ok (.iconst 0, 1) := by decide +kernel
theorem dX4_keys_29 : decode cX4_keys 29 = .ok (.istore_n 2, 1) := by decide +kernel
theorem dX4_keys_30 : decode cX4_keys 30 = .ok (.iconst 0, 1) := by decide +kernel
theorem dX4_keys_31 : decode cX4_keys 31 = .ok (.istore_n 3, 1) := by decide +kernel
theorem dX4_keys_32 : decode cX4_keys 32 = .ok (.iload_n 3, 1) := by decide +kernel
theorem dX4_keys_33 : decode cX4_keys 33 = .ok (.bipush 32, 2) := by decide +kernel
theorem dX4_keys_35 : decode cX4_keys 35 = .ok (.if_icmp .ge 88, 3) := by decide +kernel
theorem dX4_keys_38 : decode cX4_keys 38 = .ok (.iload_n 2, 1) := by decide +kernel
theorem dX4_keys_39 : decode cX4_keys 39 = .ok (.ifCond .eq 84, 3) := by decide +kernel
theorem dX4_keys_42 : decode cX4_keys 42 = .ok (.aload_n 0, 1) := by decide +kernel
theorem dX4_keys_43 : decode cX4_keys 43 = .ok (.aload_n 0, 1) := by decide +kernel
theorem dX4_keys_44 : decode cX4_keys 44 = .ok (.getfield 67, 3) := by decide +kernel
theorem dX4_keys_47 : decode cX4_keys 47 = .ok (.iload_n 3, 1) := by decide +kernel
theorem dX4_keys_48 : decode cX4_keys 48 = .ok (.invokevirtual 94, 3) := by decide +kernel
theorem dX4_keys_51 : decode cX4_keys 51 = .ok (.istore 4, 2) := by decide +kernel
theorem dX4_keys_53 : decode cX4_keys 53 = .ok (.iload 4, 2) := by decide +kernel
theorem dX4_keys_55 : decode cX4_keys 55 = .ok (.ifCond .eq 17, 3) := by decide +kernel
theorem dX4_keys_58 : decode cX4_keys 58 = .ok (.aload_n 0, 1) := by decide +kernel
theorem dX4_keys_59 : decode cX4_keys 59 = .ok (.iload 4, 2) := by decide +kernel
theorem dX4_keys_61 : decode cX4_keys 61 = .ok (.iconst 2, 1) := by decide +kernel
theorem dX4_keys_62 : decode cX4_keys 62 = .ok (.invokevirtual 57, 3) := by decide +kernel
theorem dX4_keys_65 : decode cX4_keys 65 = .ok (.ifCond .eq 7, 3) := by decide +kernel
theorem dX4_keys_68 : decode cX4_keys 68 = .ok (.iconst 1, 1) := by decide +kernel
theorem dX4_keys_69 : decode cX4_keys 69 = .ok (.goto 4, 3) := by decide +kernel
theorem dX4_keys_72 : decode cX4_keys 72 = .ok (.iconst 0, 1) := by decide +kernel
theorem dX4_keys_73 : decode cX4_keys 73 = .ok (.istore 5, 2) := by decide +kernel
theorem dX4_keys_75 : decode cX4_keys 75 = .ok (.iconst 0, 1) := by decide +kernel
theorem dX4_keys_76 : decode cX4_keys 76 = .ok (.istore 6, 2) := by decide +kernel
theorem dX4_keys_78 : decode cX4_keys 78 = .ok (.iload 6, 2) := by decide +kernel
theorem dX4_keys_80 : decode cX4_keys 80 = .ok (.bipush 32, 2) := by decide +kernel
theorem dX4_keys_82 : decode cX4_keys 82 = .ok (.if_icmp .ge 35, 3) := by decide +kernel
theorem dX4_keys_85 : decode cX4_keys 85 = .ok (.iload 5, 2) := by decide +kernel
theorem dX4_keys_87 : decode cX4_keys 87 = .ok (.ifCond .eq 30, 3) := by decide +kernel
theorem dX4_keys_90 : decode cX4_keys 90 = .ok (.iload_n 1, 1) := by decide +kernel
theorem dX4_keys_91 : decode cX4_keys 91 = .ok (.aload_n 0, 1) := by decide +kernel
theorem dX4_keys_92 : decode cX4_keys 92 = .ok (.iload 4, 2) := by decide +kernel
theorem dX4_keys_94 : decode cX4_keys 94 = .ok (.iconst 2, 1) := by decide +kernel
theorem dX4_keys_95 : decode cX4_keys 95 = .ok (.iload 6, 2) := by decide +kernel
theorem dX4_keys_97 : decode cX4_keys 97 = .ok (.iadd, 1) := by decide +kernel
theorem dX4_keys_98 : decode cX4_keys 98 = .ok (.invokevirtual 33, 3) := by decide +kernel
theorem dX4_keys_101 : decode cX4_keys 101 = .ok (.ifCond .eq 7, 3) := by decide +kernel
theorem dX4_keys_104 : decode cX4_keys 104 = .ok (.iconst 1, 1) := by decide +kernel
theorem dX4_keys_105 : decode cX4_keys 105 = .ok (.goto 4, 3) := by decide +kernel
theorem dX4_keys_108 : decode cX4_keys 108 = .ok (.iconst 0, 1) := by decide +kernel
theorem dX4_keys_109 : decode cX4_keys 109 = .ok (.iadd, 1) := by decide +kernel
theorem dX4_keys_110 : decode cX4_keys 110 = .ok (.istore_n 1, 1) := by decide +kernel
theorem dX4_keys_111 : decode cX4_keys 111 = .ok (.iinc 6 1, 3) := by decide +kernel
theorem dX4_keys_114 : decode cX4_keys 114 = .ok (.goto (-36), 3) := by decide +kernel
theorem dX4_keys_117 : decode cX4_keys 117 = .ok (.iinc 3 1, 3) := by decide +kernel
theorem dX4_keys_120 : decode cX4_keys 120 = .ok (.goto (-88), 3) := by decide +kernel
theorem dX4_keys_123 : decode cX4_keys 123 = .ok (.iload_n 1, 1) := by decide +kernel
theorem dX4_keys_124 : decode cX4_keys 124 = .ok (.ireturn, 1) := by decide +kernel
set_option maxRecDepth 20000 in
theorem ggX4_count_X4_freePages : GoodIn wsX4_count wsX4_freePages := goodIn_r _ [10, 11, 12, 13, 14, 15, 9, 16, 17, 4, 3, 18, 19, 20, 21, 22, 23, 24, 25, 26, 27, 28, 29, 30, 31, 32, 33, 34, 35, 36, 37, 38, 39, 40, 41, 42, 43, 44, 45, 46, 47, 48, 49, 50, 51, 52, 65, 66, 67, 68, 69, 70, 71, 72, 73, 74, 75, 76] (by decide +kernel) (by decide +kernel)
set_option maxRecDepth 20000 in
theorem gX4_count_X4_freePages : GoodIn wsX4_count (wsV RX4 129 RX4 yX4_freePages wsX4_freePages) := goodIn_app (goodIn_of _ (by decide +kernel)) ggX4_count_X4_freePages
set_option maxRecDepth 20000 in
theorem ggX4_count_X4_keys : GoodIn wsX4_count wsX4_keys := goodIn_r _ [56, 3, 57, 58, 59, 9, 60, 4, 22, 23, 24, 25, 26, 27, 28, 29, 30, 31, 32, 33, 34, 35, 36, 37, 38, 39, 40, 41, 42, 43, 44, 45, 46, 47, 48, 11, 61, 62, 63, 64, 65, 66, 67, 68, 69, 70, 71, 72, 73, 74, 75, 76] (by decide +kernel) (by decide +kernel)
set_option maxRecDepth 20000 in
theorem gX4_count_X4_keys : GoodIn wsX4_count (wsV RX4 133 RX4 yX4_keys wsX4_keys) := goodIn_app (goodIn_of _ (by decide +kernel)) ggX4_count_X4_keys
theorem dX4_count_0 : decode cX4_count 0 = .ok (.aload_n 0, 1) := by decide +kernel
theorem dX4_count_1 : decode cX4_count 1 = .ok (.iconst 0, 1) := by decide +kernel
theorem dX4_count_2 : decode cX4_count 2 = .ok (.putfield 30, 3) := by decide +kernel
theorem dX4_count_5 : decode cX4_count 5 = .ok (.aload_n 0, 1) := by decide +kernel
theorem dX4_count_6 : decode cX4_count 6 = .ok (.getfield 83, 3) := by decide +kernel
theorem dX4_count_9 : decode cX4_count 9 = .ok (.ifCond .eq 6, 3) := by decide +kernel
theorem dX4_count_12 : decode cX4_count 12 = .ok (.bipush (-5), 2) := by decide +kernel
theorem dX4_count_14 : decode cX4_count 14 = .ok (.ireturn, 1) := by decide +kernel
theorem dX4_count_15 : decode cX4_count 15 = .ok (.iload_n 1, 1) := by decide +kernel
theorem dX4_count_16 : decode cX4_count 16 = .ok (.tableswitch 61 0 4 #[36, 41, 46, 51, 56], 36) := by decide +kernel
theorem dX4_count_52 : decode cX4_count 52 = .ok (.aload_n 0, 1) := by decide +kernel
theorem dX4_count_53 : decode cX4_count 53 = .ok (.getfield 67, 3) := by decide +kernel
theorem dX4_count_56 : decode cX4_count 56 = .ok (.ireturn, 1) := by decide +kernel
theorem dX4_count_57 : decode cX4_count 57 = .ok (.aload_n 0, 1) := by decide +kernel
theorem dX4_count_58 : decode cX4_count 58 = .ok (.getfield 13, 3) := by decide +kernel
theorem dX4_count_61 : decode cX4_count 61 = .ok (.ireturn, 1) := by decide +kernel
theorem dX4_count_62 : decode cX4_count 62 = .ok (.aload_n 0, 1) := by decide +kernel
theorem dX4_count_63 : decode cX4_count 63 = .ok (.invokevirtual 129, 3) := by decide +kernel
theorem dX4_count_66 : decode cX4_count 66 = .ok (.ireturn, 1) := by decide +kernel
theorem dX4_count_67 : decode cX4_count 67 = .ok (.aload_n 0, 1) := by decide +kernel
theorem dX4_count_68 : decode cX4_count 68 = .ok (.invokevirtual 133, 3) := by decide +kernel
theorem dX4_count_71 : decode cX4_count 71 = .ok (.ireturn, 1) := by decide +kernel
theorem dX4_count_72 : decode cX4_count 72 = .ok (.aload_n 0, 1) := by decide +kernel
theorem dX4_count_73 : decode cX4_count 73 = .ok (.getfield 87, 3) := by decide +kernel
theorem dX4_count_76 : decode cX4_count 76 = .ok (.ireturn, 1) := by decide +kernel
theorem dX4_count_77 : decode cX4_count 77 = .ok (.bipush (-2), 2) := by decide +kernel
theorem dX4_count_79 : decode cX4_count 79 = .ok (.ireturn, 1) := by decide +kernel
theorem dX4_written_0 : decode cX4_written 0 = .ok (.aload_n 0, 1) := by decide +kernel
theorem dX4_written_1 : decode cX4_written 1 = .ok (.iconst 0, 1) := by decide +kernel
theorem dX4_written_2 : decode cX4_written 2 = .ok (.putfield 30, 3) := by decide +kernel
theorem dX4_written_5 : decode cX4_written 5 = .ok (.aload_n 0, 1) := by decide +kernel
theorem dX4_written_6 : decode cX4_written 6 = .ok (.getfield 77, 3) := by decide +kernel
theorem dX4_written_9 : decode cX4_written 9 = .ok (.ireturn, 1) := by decide +kernel
theorem dX4_isDown_0 : decode cX4_isDown 0 = .ok (.aload_n 0, 1) := by decide +kernel
theorem dX4_isDown_1 : decode cX4_isDown 1 = .ok (.iconst 0, 1) := by decide +kernel
theorem dX4_isDown_2 : decode cX4_isDown 2 = .ok (.putfield 30, 3) := by decide +kernel
theorem dX4_isDown_5 : decode cX4_isDown 5 = .ok (.aload_n 0, 1) := by decide +kernel
theorem dX4_isDown_6 : decode cX4_isDown 6 = .ok (.getfield 83, 3) := by decide +kernel
theorem dX4_isDown_9 : decode cX4_isDown 9 = .ok (.ireturn, 1) := by decide +kernel
theorem dJ9_max_7cf53_0 : decode cJ9_max_7cf53 0 = .ok (.iload_n 0, 1) := by decide +kernel
theorem dJ9_max_7cf53_1 : decode cJ9_max_7cf53 1 = .ok (.iload_n 1, 1) := by decide +kernel
theorem dJ9_max_7cf53_2 : decode cJ9_max_7cf53 2 = .ok (.if_icmp .lt 7, 3) := by decide +kernel
theorem dJ9_max_7cf53_5 : decode cJ9_max_7cf53 5 = .ok (.iload_n 0, 1) := by decide +kernel
theorem dJ9_max_7cf53_6 : decode cJ9_max_7cf53 6 = .ok (.goto 4, 3) := by decide +kernel
theorem dJ9_max_7cf53_9 : decode cJ9_max_7cf53 9 = .ok (.iload_n 1, 1) := by decide +kernel
theorem dJ9_max_7cf53_10 : decode cJ9_max_7cf53 10 = .ok (.ireturn, 1) := by decide +kernel
theorem dJ9_min_7cf53_0 : decode cJ9_min_7cf53 0 = .ok (.iload_n 0, 1) := by decide +kernel
theorem dJ9_min_7cf53_1 : decode cJ9_min_7cf53 1 = .ok (.iload_n 1, 1) := by decide +kernel
theorem dJ9_min_7cf53_2 : decode cJ9_min_7cf53 2 = .ok (.if_icmp .gt 7, 3) := by decide +kernel
theorem dJ9_min_7cf53_5 : decode cJ9_min_7cf53 5 = .ok (.iload_n 0, 1) := by decide +kernel
theorem dJ9_min_7cf53_6 : decode cJ9_min_7cf53 6 = .ok (.goto 4, 3) := by decide +kernel
theorem dJ9_min_7cf53_9 : decode cJ9_min_7cf53 9 = .ok (.iload_n 1, 1) := by decide +kernel
theorem dJ9_min_7cf53_10 : decode cJ9_min_7cf53 10 = .ok (.ireturn, 1) := by decide +kernel
theorem dJ7_rangeCheck_23922_0 : decode cJ7_rangeCheck_23922 0 = .ok (.iload_n 1, 1) := by decide +kernel
theorem dJ7_rangeCheck_23922_1 : decode cJ7_rangeCheck_23922 1 = .ok (.iload_n 2, 1) := by decide +kernel
theorem dJ7_rangeCheck_23922_2 : decode cJ7_rangeCheck_23922 2 = .ok (.if_icmp .le 44, 3) := by decide +kernel
theorem dJ7_rangeCheck_23922_5 : decode cJ7_rangeCheck_23922 5 = .ok (.new 43, 3) := by decide +kernel
theorem dJ7_rangeCheck_23922_8 : decode cJ7_rangeCheck_23922 8 = .ok (.dup, 1) := by decide +kernel
theorem dJ7_rangeCheck_23922_9 : decode cJ7_rangeCheck_23922 9 = .ok (.new 45, 3) := by decide +kernel
theorem dJ7_rangeCheck_23922_12 : decode cJ7_rangeCheck_23922 12 = .ok (.dup, 1) := by decide +kernel
theorem dJ7_rangeCheck_23922_13 : decode cJ7_rangeCheck_23922 13 = .ok (.invokespecial 47, 3) := by decide +kernel
theorem dJ7_rangeCheck_23922_16 : decode cJ7_rangeCheck_23922 16 = .ok (.ldc 48, 2) := by decide +kernel
theorem dJ7_rangeCheck_23922_18 : decode cJ7_rangeCheck_23922 18 = .ok (.invokevirtual 50, 3) := by decide +kernel
theorem dJ7_rangeCheck_23922_21 : decode cJ7_rangeCheck_23922 21 = .ok (.iload_n 1, 1) := by decide +kernel
theorem dJ7_rangeCheck_23922_22 : decode cJ7_rangeCheck_23922 22 = .ok (.invokevirtual 54, 3) := by decide +kernel
theorem dJ7_rangeCheck_23922_25 : decode cJ7_rangeCheck_23922 25 = .ok (.ldc 57, 2) := by decide +kernel
theorem dJ7_rangeCheck_23922_27 : decode cJ7_rangeCheck_23922 27 = .ok (.invokevirtual 50, 3) := by decide +kernel
theorem dJ7_rangeCheck_23922_30 : decode cJ7_rangeCheck_23922 30 = .ok (.iload_n 2, 1) := by decide +kernel
theorem dJ7_rangeCheck_23922_31 : decode cJ7_rangeCheck_23922 31 = .ok (.invokevirtual 54, 3) := by decide +kernel
theorem dJ7_rangeCheck_23922_34 : decode cJ7_rangeCheck_23922 34 = .ok (.ldc 59, 2) := by decide +kernel
theorem dJ7_rangeCheck_23922_36 : decode cJ7_rangeCheck_23922 36 = .ok (.invokevirtual 50, 3) := by decide +kernel
theorem dJ7_rangeCheck_23922_39 : decode cJ7_rangeCheck_23922 39 = .ok (.invokevirtual 61, 3) := by decide +kernel
theorem dJ7_rangeCheck_23922_42 : decode cJ7_rangeCheck_23922 42 = .ok (.invokespecial 65, 3) := by decide +kernel
theorem dJ7_rangeCheck_23922_45 : decode cJ7_rangeCheck_23922 45 = .ok (.athrow, 1) := by decide +kernel
theorem dJ7_rangeCheck_23922_46 : decode cJ7_rangeCheck_23922 46 = .ok (.iload_n 1, 1) := by decide +kernel
theorem dJ7_rangeCheck_23922_47 : decode cJ7_rangeCheck_23922 47 = .ok (.ifCond .ge 12, 3) := by decide +kernel
theorem dJ7_rangeCheck_23922_50 : decode cJ7_rangeCheck_23922 50 = .ok (.new 68, 3) := by decide +kernel
theorem dJ7_rangeCheck_23922_53 : decode cJ7_rangeCheck_23922 53 = .ok (.dup, 1) := by decide +kernel
theorem dJ7_rangeCheck_23922_54 : decode cJ7_rangeCheck_23922 54 = .ok (.iload_n 1, 1) := by decide +kernel
theorem dJ7_rangeCheck_23922_55 : decode cJ7_rangeCheck_23922 55 = .ok (.invokespecial 70, 3) := by decide +kernel
theorem dJ7_rangeCheck_23922_58 : decode cJ7_rangeCheck_23922 58 = .ok (.athrow, 1) := by decide +kernel
theorem dJ7_rangeCheck_23922_59 : decode cJ7_rangeCheck_23922 59 = .ok (.iload_n 2, 1) := by decide +kernel
theorem dJ7_rangeCheck_23922_60 : decode cJ7_rangeCheck_23922 60 = .ok (.iload_n 0, 1) := by decide +kernel
theorem dJ7_rangeCheck_23922_61 : decode cJ7_rangeCheck_23922 61 = .ok (.if_icmp .le 12, 3) := by decide +kernel
theorem dJ7_rangeCheck_23922_64 : decode cJ7_rangeCheck_23922 64 = .ok (.new 68, 3) := by decide +kernel
theorem dJ7_rangeCheck_23922_67 : decode cJ7_rangeCheck_23922 67 = .ok (.dup, 1) := by decide +kernel
theorem dJ7_rangeCheck_23922_68 : decode cJ7_rangeCheck_23922 68 = .ok (.iload_n 2, 1) := by decide +kernel
theorem dJ7_rangeCheck_23922_69 : decode cJ7_rangeCheck_23922 69 = .ok (.invokespecial 70, 3) := by decide +kernel
theorem dJ7_rangeCheck_23922_72 : decode cJ7_rangeCheck_23922 72 = .ok (.athrow, 1) := by decide +kernel
theorem dJ7_rangeCheck_23922_73 : decode cJ7_rangeCheck_23922 73 = .ok (.return_, 1) := by decide +kernel
theorem dJ7_fill_53178_0 : decode cJ7_fill_53178 0 = .ok (.iconst 0, 1) := by decide +kernel
theorem dJ7_fill_53178_1 : decode cJ7_fill_53178 1 = .ok (.istore_n 2, 1) := by decide +kernel
theorem dJ7_fill_53178_2 : decode cJ7_fill_53178 2 = .ok (.aload_n 0, 1) := by decide +kernel
theorem dJ7_fill_53178_3 : decode cJ7_fill_53178 3 = .ok (.arraylength, 1) := by decide +kernel
theorem dJ7_fill_53178_4 : decode cJ7_fill_53178 4 = .ok (.istore_n 3, 1) := by decide +kernel
theorem dJ7_fill_53178_5 : decode cJ7_fill_53178 5 = .ok (.iload_n 2, 1) := by decide +kernel
theorem dJ7_fill_53178_6 : decode cJ7_fill_53178 6 = .ok (.iload_n 3, 1) := by decide +kernel
theorem dJ7_fill_53178_7 : decode cJ7_fill_53178 7 = .ok (.if_icmp .ge 13, 3) := by decide +kernel
theorem dJ7_fill_53178_10 : decode cJ7_fill_53178 10 = .ok (.aload_n 0, 1) := by decide +kernel
theorem dJ7_fill_53178_11 : decode cJ7_fill_53178 11 = .ok (.iload_n 2, 1) := by decide +kernel
theorem dJ7_fill_53178_12 : decode cJ7_fill_53178 12 = .ok (.iload_n 1, 1) := by decide +kernel
theorem dJ7_fill_53178_13 : decode cJ7_fill_53178 13 = .ok (.iastore, 1) := by decide +kernel
theorem dJ7_fill_53178_14 : decode cJ7_fill_53178 14 = .ok (.iinc 2 1, 3) := by decide +kernel
theorem dJ7_fill_53178_17 : decode cJ7_fill_53178 17 = .ok (.goto (-12), 3) := by decide +kernel
theorem dJ7_fill_53178_20 : decode cJ7_fill_53178 20 = .ok (.return_, 1) := by decide +kernel
set_option maxRecDepth 20000 in
theorem ggJ7_fill_fda19_J7_rangeCheck_23922 : GoodIn wsJ7_fill_fda19 wsJ7_rangeCheck_23922 := goodIn_r _ [4] (by decide +kernel) (by decide +kernel)
set_option maxRecDepth 20000 in
theorem gJ7_fill_fda19_J7_rangeCheck_23922 : GoodIn wsJ7_fill_fda19 (va_wsS RJ7 13 yJ7_rangeCheck_23922 wsJ7_rangeCheck_23922) := goodIn_app (goodIn_of _ (by decide +kernel)) ggJ7_fill_fda19_J7_rangeCheck_23922
theorem dJ7_fill_fda19_0 : decode cJ7_fill_fda19 0 = .ok (.aload_n 0, 1) := by decide +kernel
theorem dJ7_fill_fda19_1 : decode cJ7_fill_fda19 1 = .ok (.arraylength, 1) := by decide +kernel
theorem dJ7_fill_fda19_2 : decode cJ7_fill_fda19 2 = .ok (.iload_n 1, 1) := by decide +kernel
theorem dJ7_fill_fda19_3 : decode cJ7_fill_fda19 3 = .ok (.iload_n 2, 1) := by decide +kernel
theorem dJ7_fill_fda19_4 : decode cJ7_fill_fda19 4 = .ok (.invokestatic 13, 3) := by decide +kernel
theorem dJ7_fill_fda19_7 : decode cJ7_fill_fda19 7 = .ok (.iload_n 1, 1) := by decide +kernel
theorem dJ7_fill_fda19_8 : decode cJ7_fill_fda19 8 = .ok (.istore 4, 2) := by decide +kernel
