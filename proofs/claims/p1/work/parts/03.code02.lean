theorem dX2_lookAtAll_70 : decode cX2_lookAtAll 70 = .ok (.iconst 2, 1) := by decide +kernel
theorem dX2_lookAtAll_71 : decode cX2_lookAtAll 71 = .ok (.if_icmp .ne 13, 3) := by decide +kernel
theorem dX2_lookAtAll_74 : decode cX2_lookAtAll 74 = .ok (.aload_n 0, 1) := by decide +kernel
theorem dX2_lookAtAll_75 : decode cX2_lookAtAll 75 = .ok (.aload_n 1, 1) := by decide +kernel
theorem dX2_lookAtAll_76 : decode cX2_lookAtAll 76 = .ok (.iload_n 3, 1) := by decide +kernel
theorem dX2_lookAtAll_77 : decode cX2_lookAtAll 77 = .ok (.iconst 2, 1) := by decide +kernel
theorem dX2_lookAtAll_78 : decode cX2_lookAtAll 78 = .ok (.bipush 32, 2) := by decide +kernel
theorem dX2_lookAtAll_80 : decode cX2_lookAtAll 80 = .ok (.iconst 3, 1) := by decide +kernel
theorem dX2_lookAtAll_81 : decode cX2_lookAtAll 81 = .ok (.invokevirtual 38, 3) := by decide +kernel
theorem dX2_lookAtAll_84 : decode cX2_lookAtAll 84 = .ok (.iinc 3 1, 3) := by decide +kernel
theorem dX2_lookAtAll_87 : decode cX2_lookAtAll 87 = .ok (.goto (-85), 3) := by decide +kernel
theorem dX2_lookAtAll_90 : decode cX2_lookAtAll 90 = .ok (.return_, 1) := by decide +kernel
set_option maxRecDepth 20000 in
theorem ggX2_markTold_X0_at : GoodIn wsX2_markTold wsX0_at := goodIn_r _ [6, 7, 13, 14] (by decide +kernel) (by decide +kernel)
set_option maxRecDepth 20000 in
theorem gX2_markTold_X0_at : GoodIn wsX2_markTold (wsV RX2 42 RX0 yX0_at wsX0_at) := goodIn_app (goodIn_of _ (by decide +kernel)) ggX2_markTold_X0_at
set_option maxRecDepth 20000 in
theorem ggX2_markTold_X2_markOf : GoodIn wsX2_markTold wsX2_markOf := goodIn_r _ [11] (by decide +kernel) (by decide +kernel)
set_option maxRecDepth 20000 in
theorem gX2_markTold_X2_markOf : GoodIn wsX2_markTold (va_wsS RX2 25 yX2_markOf wsX2_markOf) := goodIn_app (goodIn_of _ (by decide +kernel)) ggX2_markTold_X2_markOf
theorem dX2_markTold_0 : decode cX2_markTold 0 = .ok (.iconst 0, 1) := by decide +kernel
theorem dX2_markTold_1 : decode cX2_markTold 1 = .ok (.istore 6, 2) := by decide +kernel
theorem dX2_markTold_3 : decode cX2_markTold 3 = .ok (.iload 6, 2) := by decide +kernel
theorem dX2_markTold_5 : decode cX2_markTold 5 = .ok (.iload 4, 2) := by decide +kernel
theorem dX2_markTold_7 : decode cX2_markTold 7 = .ok (.if_icmp .ge 40, 3) := by decide +kernel
theorem dX2_markTold_10 : decode cX2_markTold 10 = .ok (.aload_n 1, 1) := by decide +kernel
theorem dX2_markTold_11 : decode cX2_markTold 11 = .ok (.iload_n 2, 1) := by decide +kernel
theorem dX2_markTold_12 : decode cX2_markTold 12 = .ok (.iload_n 3, 1) := by decide +kernel
theorem dX2_markTold_13 : decode cX2_markTold 13 = .ok (.iload 6, 2) := by decide +kernel
theorem dX2_markTold_15 : decode cX2_markTold 15 = .ok (.iadd, 1) := by decide +kernel
theorem dX2_markTold_16 : decode cX2_markTold 16 = .ok (.invokevirtual 42, 3) := by decide +kernel
theorem dX2_markTold_19 : decode cX2_markTold 19 = .ok (.istore 7, 2) := by decide +kernel
theorem dX2_markTold_21 : decode cX2_markTold 21 = .ok (.iload 7, 2) := by decide +kernel
theorem dX2_markTold_23 : decode cX2_markTold 23 = .ok (.ifCond .eq 18, 3) := by decide +kernel
theorem dX2_markTold_26 : decode cX2_markTold 26 = .ok (.aload_n 0, 1) := by decide +kernel
theorem dX2_markTold_27 : decode cX2_markTold 27 = .ok (.getfield 9, 3) := by decide +kernel
theorem dX2_markTold_30 : decode cX2_markTold 30 = .ok (.iload 7, 2) := by decide +kernel
theorem dX2_markTold_32 : decode cX2_markTold 32 = .ok (.dup2, 1) := by decide +kernel
theorem dX2_markTold_33 : decode cX2_markTold 33 = .ok (.iaload, 1) := by decide +kernel
theorem dX2_markTold_34 : decode cX2_markTold 34 = .ok (.iload 5, 2) := by decide +kernel
theorem dX2_markTold_36 : decode cX2_markTold 36 = .ok (.invokestatic 25, 3) := by decide +kernel
theorem dX2_markTold_39 : decode cX2_markTold 39 = .ok (.ior, 1) := by decide +kernel
theorem dX2_markTold_40 : decode cX2_markTold 40 = .ok (.iastore, 1) := by decide +kernel
theorem dX2_markTold_41 : decode cX2_markTold 41 = .ok (.iinc 6 1, 3) := by decide +kernel
theorem dX2_markTold_44 : decode cX2_markTold 44 = .ok (.goto (-41), 3) := by decide +kernel
theorem dX2_markTold_47 : decode cX2_markTold 47 = .ok (.return_, 1) := by decide +kernel
set_option maxRecDepth 20000 in
theorem ggX3_init_X0_init : GoodIn wsX3_init wsX0_init := goodIn_r _ [31, 32, 2, 3, 33, 23, 34, 47, 48] (by decide +kernel) (by decide +kernel)
set_option maxRecDepth 20000 in
theorem gX3_init_X0_init : GoodIn wsX3_init (wsX0_init) := ggX3_init_X0_init
set_option maxRecDepth 20000 in
theorem ggX3_init_X2_init : GoodIn wsX3_init wsX2_init := goodIn_r _ [37, 38, 2, 3, 23, 39, 57] (by decide +kernel) (by decide +kernel)
set_option maxRecDepth 20000 in
theorem gX3_init_X2_init : GoodIn wsX3_init (wsX2_init) := ggX3_init_X2_init
set_option maxRecDepth 20000 in
theorem ggX3_init_X1_init : GoodIn wsX3_init wsX1_init := goodIn_r _ [42, 43, 2, 3, 44, 45, 46, 58, 59, 60] (by decide +kernel) (by decide +kernel)
set_option maxRecDepth 20000 in
theorem gX3_init_X1_init : GoodIn wsX3_init (wsX1_init) := ggX3_init_X1_init
theorem dX3_init_0 : decode cX3_init 0 = .ok (.aload_n 0, 1) := by decide +kernel
theorem dX3_init_1 : decode cX3_init 1 = .ok (.invokespecial 3, 3) := by decide +kernel
theorem dX3_init_4 : decode cX3_init 4 = .ok (.bipush 12, 2) := by decide +kernel
theorem dX3_init_6 : decode cX3_init 6 = .ok (.bipush 120, 2) := by decide +kernel
theorem dX3_init_8 : decode cX3_init 8 = .ok (.iload_n 1, 1) := by decide +kernel
theorem dX3_init_9 : decode cX3_init 9 = .ok (.invokestatic 9, 3) := by decide +kernel
theorem dX3_init_12 : decode cX3_init 12 = .ok (.invokestatic 15, 3) := by decide +kernel
theorem dX3_init_15 : decode cX3_init 15 = .ok (.istore_n 2, 1) := by decide +kernel
theorem dX3_init_16 : decode cX3_init 16 = .ok (.aload_n 0, 1) := by decide +kernel
theorem dX3_init_17 : decode cX3_init 17 = .ok (.new 18, 3) := by decide +kernel
theorem dX3_init_20 : decode cX3_init 20 = .ok (.dup, 1) := by decide +kernel
theorem dX3_init_21 : decode cX3_init 21 = .ok (.iload_n 2, 1) := by decide +kernel
theorem dX3_init_22 : decode cX3_init 22 = .ok (.invokespecial 20, 3) := by decide +kernel
theorem dX3_init_25 : decode cX3_init 25 = .ok (.putfield 23, 3) := by decide +kernel
theorem dX3_init_28 : decode cX3_init 28 = .ok (.aload_n 0, 1) := by decide +kernel
theorem dX3_init_29 : decode cX3_init 29 = .ok (.new 27, 3) := by decide +kernel
theorem dX3_init_32 : decode cX3_init 32 = .ok (.dup, 1) := by decide +kernel
theorem dX3_init_33 : decode cX3_init 33 = .ok (.iload_n 2, 1) := by decide +kernel
theorem dX3_init_34 : decode cX3_init 34 = .ok (.invokespecial 29, 3) := by decide +kernel
theorem dX3_init_37 : decode cX3_init 37 = .ok (.putfield 30, 3) := by decide +kernel
theorem dX3_init_40 : decode cX3_init 40 = .ok (.aload_n 0, 1) := by decide +kernel
theorem dX3_init_41 : decode cX3_init 41 = .ok (.new 34, 3) := by decide +kernel
theorem dX3_init_44 : decode cX3_init 44 = .ok (.dup, 1) := by decide +kernel
theorem dX3_init_45 : decode cX3_init 45 = .ok (.invokespecial 36, 3) := by decide +kernel
theorem dX3_init_48 : decode cX3_init 48 = .ok (.putfield 37, 3) := by decide +kernel
theorem dX3_init_51 : decode cX3_init 51 = .ok (.aload_n 0, 1) := by decide +kernel
theorem dX3_init_52 : decode cX3_init 52 = .ok (.bipush 32, 2) := by decide +kernel
theorem dX3_init_54 : decode cX3_init 54 = .ok (.newarray .int, 2) := by decide +kernel
theorem dX3_init_56 : decode cX3_init 56 = .ok (.putfield 41, 3) := by decide +kernel
theorem dX3_init_59 : decode cX3_init 59 = .ok (.aload_n 0, 1) := by decide +kernel
theorem dX3_init_60 : decode cX3_init 60 = .ok (.bipush 32, 2) := by decide +kernel
theorem dX3_init_62 : decode cX3_init 62 = .ok (.newarray .int, 2) := by decide +kernel
theorem dX3_init_64 : decode cX3_init 64 = .ok (.putfield 45, 3) := by decide +kernel
theorem dX3_init_67 : decode cX3_init 67 = .ok (.aload_n 0, 1) := by decide +kernel
theorem dX3_init_68 : decode cX3_init 68 = .ok (.iconst 0, 1) := by decide +kernel
theorem dX3_init_69 : decode cX3_init 69 = .ok (.putfield 48, 3) := by decide +kernel
theorem dX3_init_72 : decode cX3_init 72 = .ok (.aload_n 0, 1) := by decide +kernel
theorem dX3_init_73 : decode cX3_init 73 = .ok (.iconst 0, 1) := by decide +kernel
theorem dX3_init_74 : decode cX3_init 74 = .ok (.putfield 52, 3) := by decide +kernel
theorem dX3_init_77 : decode cX3_init 77 = .ok (.aload_n 0, 1) := by decide +kernel
theorem dX3_init_78 : decode cX3_init 78 = .ok (.iconst 1, 1) := by decide +kernel
theorem dX3_init_79 : decode cX3_init 79 = .ok (.putfield 55, 3) := by decide +kernel
theorem dX3_init_82 : decode cX3_init 82 = .ok (.return_, 1) := by decide +kernel
set_option maxRecDepth 20000 in
theorem ggX3_type_X1_isOff : GoodIn wsX3_type wsX1_isOff := goodIn_r _ [8, 9, 18, 19, 20] (by decide +kernel) (by decide +kernel)
set_option maxRecDepth 20000 in
theorem gX3_type_X1_isOff : GoodIn wsX3_type (wsV RX3 58 RX1 yX1_isOff wsX1_isOff) := goodIn_app (goodIn_of _ (by decide +kernel)) ggX3_type_X1_isOff
theorem dX3_type_0 : decode cX3_type 0 = .ok (.aload_n 0, 1) := by decide +kernel
theorem dX3_type_1 : decode cX3_type 1 = .ok (.getfield 37, 3) := by decide +kernel
theorem dX3_type_4 : decode cX3_type 4 = .ok (.invokevirtual 58, 3) := by decide +kernel
theorem dX3_type_7 : decode cX3_type 7 = .ok (.ifCond .eq 6, 3) := by decide +kernel
theorem dX3_type_10 : decode cX3_type 10 = .ok (.bipush (-5), 2) := by decide +kernel
theorem dX3_type_12 : decode cX3_type 12 = .ok (.ireturn, 1) := by decide +kernel
theorem dX3_type_13 : decode cX3_type 13 = .ok (.iload_n 1, 1) := by decide +kernel
theorem dX3_type_14 : decode cX3_type 14 = .ok (.ifCond .lt 10, 3) := by decide +kernel
theorem dX3_type_17 : decode cX3_type 17 = .ok (.iload_n 1, 1) := by decide +kernel
theorem dX3_type_18 : decode cX3_type 18 = .ok (.sipush 255, 3) := by decide +kernel
theorem dX3_type_21 : decode cX3_type 21 = .ok (.if_icmp .le 6, 3) := by decide +kernel
theorem dX3_type_24 : decode cX3_type 24 = .ok (.bipush (-2), 2) := by decide +kernel
theorem dX3_type_26 : decode cX3_type 26 = .ok (.ireturn, 1) := by decide +kernel
theorem dX3_type_27 : decode cX3_type 27 = .ok (.aload_n 0, 1) := by decide +kernel
theorem dX3_type_28 : decode cX3_type 28 = .ok (.getfield 48, 3) := by decide +kernel
theorem dX3_type_31 : decode cX3_type 31 = .ok (.bipush 32, 2) := by decide +kernel
theorem dX3_type_33 : decode cX3_type 33 = .ok (.if_icmp .lt 6, 3) := by decide +kernel
theorem dX3_type_36 : decode cX3_type 36 = .ok (.bipush (-6), 2) := by decide +kernel
theorem dX3_type_38 : decode cX3_type 38 = .ok (.ireturn, 1) := by decide +kernel
theorem dX3_type_39 : decode cX3_type 39 = .ok (.aload_n 0, 1) := by decide +kernel
theorem dX3_type_40 : decode cX3_type 40 = .ok (.getfield 41, 3) := by decide +kernel
theorem dX3_type_43 : decode cX3_type 43 = .ok (.aload_n 0, 1) := by decide +kernel
theorem dX3_type_44 : decode cX3_type 44 = .ok (.getfield 48, 3) := by decide +kernel
theorem dX3_type_47 : decode cX3_type 47 = .ok (.iload_n 1, 1) := by decide +kernel
theorem dX3_type_48 : decode cX3_type 48 = .ok (.iastore, 1) := by decide +kernel
theorem dX3_type_49 : decode cX3_type 49 = .ok (.aload_n 0, 1) := by decide +kernel
theorem dX3_type_50 : decode cX3_type 50 = .ok (.dup, 1) := by decide +kernel
theorem dX3_type_51 : decode cX3_type 51 = .ok (.getfield 48, 3) := by decide +kernel
theorem dX3_type_54 : decode cX3_type 54 = .ok (.iconst 1, 1) := by decide +kernel
theorem dX3_type_55 : decode cX3_type 55 = .ok (.iadd, 1) := by decide +kernel
theorem dX3_type_56 : decode cX3_type 56 = .ok (.putfield 48, 3) := by decide +kernel
theorem dX3_type_59 : decode cX3_type 59 = .ok (.aload_n 0, 1) := by decide +kernel
theorem dX3_type_60 : decode cX3_type 60 = .ok (.getfield 48, 3) := by decide +kernel
theorem dX3_type_63 : decode cX3_type 63 = .ok (.ireturn, 1) := by decide +kernel
set_option maxRecDepth 20000 in
theorem ggX3_put_X3_isKey : GoodIn wsX3_put wsX3_isKey := goodIn_r _ [7] (by decide +kernel) (by decide +kernel)
set_option maxRecDepth 20000 in
theorem gX3_put_X3_isKey : GoodIn wsX3_put (va_wsS RX3 62 yX3_isKey wsX3_isKey) := goodIn_app (goodIn_of _ (by decide +kernel)) ggX3_put_X3_isKey
set_option maxRecDepth 20000 in
theorem ggX3_put_X3_refusalOfWriting : GoodIn wsX3_put wsX3_refusalOfWriting := goodIn_r _ [11, 12, 1, 13, 14, 2, 15, 16, 17, 18, 19, 20, 21, 22, 23, 24, 25, 26, 27, 28, 29, 30, 31, 6, 32, 33, 34, 35, 36, 37, 38, 39, 40, 41, 42, 43, 44, 45, 46, 47, 48, 49, 50, 51, 52, 53, 54, 55, 56, 57, 58, 59, 60, 61, 62, 63, 64, 65, 66, 67, 68, 69, 70, 71, 72, 73, 74, 75, 76, 77, 166, 167, 168, 169, 170, 171, 172, 173, 174, 175, 176, 177, 178, 179] (by decide +kernel) (by decide +kernel)
set_option maxRecDepth 20000 in
theorem gX3_put_X3_refusalOfWriting : GoodIn wsX3_put (wsV RX3 66 RX3 yX3_refusalOfWriting wsX3_refusalOfWriting) := goodIn_app (goodIn_of _ (by decide +kernel)) ggX3_put_X3_refusalOfWriting
set_option maxRecDepth 20000 in
theorem ggX3_put_X2_freeFrom : GoodIn wsX3_put wsX2_freeFrom := goodIn_r _ [81, 26, 177] (by decide +kernel) (by decide +kernel)
set_option maxRecDepth 20000 in
theorem gX3_put_X2_freeFrom : GoodIn wsX3_put (wsV RX3 70 RX2 yX2_freeFrom wsX2_freeFrom) := goodIn_app (goodIn_of _ (by decide +kernel)) ggX3_put_X2_freeFrom
set_option maxRecDepth 20000 in
theorem ggX3_put_X3_writeThing : GoodIn wsX3_put wsX3_writeThing := goodIn_r _ [85, 13, 86, 87, 88, 89, 90, 43, 91, 49, 92, 93, 29, 94, 95, 96, 97, 98, 99, 100, 101, 102, 103, 104, 105, 6, 106, 12, 107, 108, 109, 110, 54, 55, 56, 57, 58, 45, 46, 47, 48, 111, 112, 113, 114, 115, 116, 117, 18, 118, 119, 120, 20, 15, 16, 17, 19, 166, 167, 168, 169, 170, 171, 172, 173, 178, 179, 174, 175, 176] (by decide +kernel) (by decide +kernel)
set_option maxRecDepth 20000 in
theorem gX3_put_X3_writeThing : GoodIn wsX3_put (wsV RX3 75 RX3 yX3_writeThing wsX3_writeThing) := goodIn_app (goodIn_of _ (by decide +kernel)) ggX3_put_X3_writeThing
set_option maxRecDepth 20000 in
theorem ggX3_put_X3_writeVersion : GoodIn wsX3_put wsX3_writeVersion := goodIn_r _ [124, 2, 14, 125, 126, 127, 128, 129, 130, 131, 132, 6, 133, 13, 134, 135, 136, 137, 138, 31, 32, 139, 46, 47, 43, 48, 49, 140, 141, 142, 143, 144, 28, 29, 30, 145, 146, 147, 148, 149, 150, 151, 152, 88, 89, 90, 91, 92, 93, 94, 95, 96, 97, 98, 99, 100, 101, 102, 153, 154, 155, 156, 103, 104, 105, 106, 12, 107, 108, 109, 110, 54, 55, 56, 57, 58, 45, 111, 112, 113, 114, 115, 116, 117, 18, 118, 119, 120, 20, 15, 16, 17, 19, 157, 158, 159, 160, 161, 162, 163, 164, 165, 166, 167, 168, 169, 170, 171, 172, 173, 178, 179, 174, 175, 176] (by decide +kernel) (by decide +kernel)
set_option maxRecDepth 20000 in
theorem gX3_put_X3_writeVersion : GoodIn wsX3_put (wsV RX3 79 RX3 yX3_writeVersion wsX3_writeVersion) := goodIn_app (goodIn_of _ (by decide +kernel)) ggX3_put_X3_writeVersion
theorem dX3_put_0 : decode cX3_put 0 = .ok (.aload_n 0, 1) := by decide +kernel
theorem dX3_put_1 : decode cX3_put 1 = .ok (.iload_n 1, 1) := by decide +kernel
theorem dX3_put_2 : decode cX3_put 2 = .ok (.invokestatic 62, 3) := by decide +kernel
theorem dX3_put_5 : decode cX3_put 5 = .ok (.invokevirtual 66, 3) := by decide +kernel
theorem dX3_put_8 : decode cX3_put 8 = .ok (.istore_n 2, 1) := by decide +kernel
theorem dX3_put_9 : decode cX3_put 9 = .ok (.iload_n 2, 1) := by decide +kernel
theorem dX3_put_10 : decode cX3_put 10 = .ok (.ifCond .eq 5, 3) := by decide +kernel
theorem dX3_put_13 : decode cX3_put 13 = .ok (.iload_n 2, 1) := by decide +kernel
theorem dX3_put_14 : decode cX3_put 14 = .ok (.ireturn, 1) := by decide +kernel
theorem dX3_put_15 : decode cX3_put 15 = .ok (.aload_n 0, 1) := by decide +kernel
theorem dX3_put_16 : decode cX3_put 16 = .ok (.getfield 30, 3) := by decide +kernel
theorem dX3_put_19 : decode cX3_put 19 = .ok (.bipush 8, 2) := by decide +kernel
theorem dX3_put_21 : decode cX3_put 21 = .ok (.invokevirtual 70, 3) := by decide +kernel
theorem dX3_put_24 : decode cX3_put 24 = .ok (.istore_n 3, 1) := by decide +kernel
theorem dX3_put_25 : decode cX3_put 25 = .ok (.iload_n 3, 1) := by decide +kernel
theorem dX3_put_26 : decode cX3_put 26 = .ok (.iconst (-1), 1) := by decide +kernel
theorem dX3_put_27 : decode cX3_put 27 = .ok (.if_icmp .ne 7, 3) := by decide +kernel
theorem dX3_put_30 : decode cX3_put 30 = .ok (.iconst (-1), 1) := by decide +kernel
theorem dX3_put_31 : decode cX3_put 31 = .ok (.goto 13, 3) := by decide +kernel
theorem dX3_put_34 : decode cX3_put 34 = .ok (.aload_n 0, 1) := by decide +kernel
theorem dX3_put_35 : decode cX3_put 35 = .ok (.getfield 30, 3) := by decide +kernel
theorem dX3_put_38 : decode cX3_put 38 = .ok (.iload_n 3, 1) := by decide +kernel
theorem dX3_put_39 : decode cX3_put 39 = .ok (.iconst 1, 1) := by decide +kernel
theorem dX3_put_40 : decode cX3_put 40 = .ok (.iadd, 1) := by decide +kernel
theorem dX3_put_41 : decode cX3_put 41 = .ok (.invokevirtual 70, 3) := by decide +kernel
theorem dX3_put_44 : decode cX3_put 44 = .ok (.istore 4, 2) := by decide +kernel
theorem dX3_put_46 : decode cX3_put 46 = .ok (.iload 4, 2) := by decide +kernel
theorem dX3_put_48 : decode cX3_put 48 = .ok (.iconst (-1), 1) := by decide +kernel
theorem dX3_put_49 : decode cX3_put 49 = .ok (.if_icmp .eq 12, 3) := by decide +kernel
theorem dX3_put_52 : decode cX3_put 52 = .ok (.aload_n 0, 1) := by decide +kernel
theorem dX3_put_53 : decode cX3_put 53 = .ok (.getfield 52, 3) := by decide +kernel
theorem dX3_put_56 : decode cX3_put 56 = .ok (.ldc 74, 2) := by decide +kernel
theorem dX3_put_58 : decode cX3_put 58 = .ok (.if_icmp .lt 6, 3) := by decide +kernel
theorem dX3_put_61 : decode cX3_put 61 = .ok (.bipush (-6), 2) := by decide +kernel
theorem dX3_put_63 : decode cX3_put 63 = .ok (.ireturn, 1) := by decide +kernel
theorem dX3_put_64 : decode cX3_put 64 = .ok (.aload_n 0, 1) := by decide +kernel
theorem dX3_put_65 : decode cX3_put 65 = .ok (.iload_n 3, 1) := by decide +kernel
theorem dX3_put_66 : decode cX3_put 66 = .ok (.iload_n 1, 1) := by decide +kernel
theorem dX3_put_67 : decode cX3_put 67 = .ok (.invokevirtual 75, 3) := by decide +kernel
theorem dX3_put_70 : decode cX3_put 70 = .ok (.ifCond .ne 6, 3) := by decide +kernel
theorem dX3_put_73 : decode cX3_put 73 = .ok (.bipush (-3), 2) := by decide +kernel
theorem dX3_put_75 : decode cX3_put 75 = .ok (.ireturn, 1) := by decide +kernel
theorem dX3_put_76 : decode cX3_put 76 = .ok (.aload_n 0, 1) := by decide +kernel
theorem dX3_put_77 : decode cX3_put 77 = .ok (.iload 4, 2) := by decide +kernel
theorem dX3_put_79 : decode cX3_put 79 = .ok (.iload_n 1, 1) := by decide +kernel
theorem dX3_put_80 : decode cX3_put 80 = .ok (.iload_n 3, 1) := by decide +kernel
theorem dX3_put_81 : decode cX3_put 81 = .ok (.invokevirtual 79, 3) := by decide +kernel
theorem dX3_put_84 : decode cX3_put 84 = .ok (.ireturn, 1) := by decide +kernel
set_option maxRecDepth 20000 in
theorem ggX3_remove_X3_isKey : GoodIn wsX3_remove wsX3_isKey := goodIn_r _ [7] (by decide +kernel) (by decide +kernel)
set_option maxRecDepth 20000 in
theorem gX3_remove_X3_isKey : GoodIn wsX3_remove (va_wsS RX3 62 yX3_isKey wsX3_isKey) := goodIn_app (goodIn_of _ (by decide +kernel)) ggX3_remove_X3_isKey
set_option maxRecDepth 20000 in
theorem ggX3_remove_X3_refusalOfWriting : GoodIn wsX3_remove wsX3_refusalOfWriting := goodIn_r _ [11, 12, 2, 13, 14, 1, 15, 16, 17, 18, 19, 20, 21, 22, 23, 24, 25, 26, 27, 28, 29, 30, 31, 6, 32, 33, 34, 35, 36, 37, 38, 39, 40, 41, 42, 43, 44, 45, 46, 47, 48, 49, 50, 51, 52, 53, 54, 55, 56, 57, 58, 59, 60, 61, 62, 63, 64, 65, 66, 67, 68, 69, 70, 71, 72, 73, 74, 75, 76, 77, 165, 166, 167, 168, 169, 170, 171, 172, 173, 174, 175, 176, 177, 178] (by decide +kernel) (by decide +kernel)
set_option maxRecDepth 20000 in
theorem gX3_remove_X3_refusalOfWriting : GoodIn wsX3_remove (wsV RX3 66 RX3 yX3_refusalOfWriting wsX3_refusalOfWriting) := goodIn_app (goodIn_of _ (by decide +kernel)) ggX3_remove_X3_refusalOfWriting
set_option maxRecDepth 20000 in
theorem ggX3_remove_X3_pageOfThing : GoodIn wsX3_remove wsX3_pageOfThing := goodIn_r _ [81, 13, 82, 31, 6, 32, 83, 41, 42, 43, 44, 45, 46, 47, 48, 49, 50, 51, 52, 53, 54, 55, 56, 57, 58, 59, 60, 61, 62, 63, 64, 65, 66, 67, 68, 84, 165, 166, 167, 168, 169, 170, 171, 172, 177, 178] (by decide +kernel) (by decide +kernel)
set_option maxRecDepth 20000 in
theorem gX3_remove_X3_pageOfThing : GoodIn wsX3_remove (wsV RX3 83 RX3 yX3_pageOfThing wsX3_pageOfThing) := goodIn_app (goodIn_of _ (by decide +kernel)) ggX3_remove_X3_pageOfThing
set_option maxRecDepth 20000 in
theorem ggX3_remove_X2_freeFrom : GoodIn wsX3_remove wsX2_freeFrom := goodIn_r _ [88, 26, 176] (by decide +kernel) (by decide +kernel)
set_option maxRecDepth 20000 in
theorem gX3_remove_X2_freeFrom : GoodIn wsX3_remove (wsV RX3 70 RX2 yX2_freeFrom wsX2_freeFrom) := goodIn_app (goodIn_of _ (by decide +kernel)) ggX3_remove_X2_freeFrom
set_option maxRecDepth 20000 in
theorem ggX3_remove_X3_writeVersion : GoodIn wsX3_remove wsX3_writeVersion := goodIn_r _ [92, 1, 14, 93, 94, 95, 96, 97, 98, 99, 100, 6, 101, 13, 102, 103, 104, 105, 82, 31, 32, 84, 46, 47, 43, 48, 49, 106, 107, 108, 109, 110, 28, 29, 30, 111, 112, 113, 114, 115, 116, 117, 118, 119, 120, 121, 122, 123, 124, 125, 126, 127, 128, 129, 130, 131, 132, 133, 134, 135, 136, 137, 138, 139, 140, 141, 12, 142, 143, 144, 145, 54, 55, 56, 57, 58, 45, 146, 147, 148, 149, 150, 151, 152, 18, 153, 154, 155, 20, 15, 16, 17, 19, 156, 157, 158, 159, 160, 161, 162, 163, 164, 165, 166, 167, 168, 169, 170, 171, 172, 177, 178, 173, 174, 175] (by decide +kernel) (by decide +kernel)
set_option maxRecDepth 20000 in
theorem gX3_remove_X3_writeVersion : GoodIn wsX3_remove (wsV RX3 79 RX3 yX3_writeVersion wsX3_writeVersion) := goodIn_app (goodIn_of _ (by decide +kernel)) ggX3_remove_X3_writeVersion
theorem dX3_remove_0 : decode cX3_remove 0 = .ok (.aload_n 0, 1) := by decide +kernel
theorem dX3_remove_1 : decode cX3_remove 1 = .ok (.iload_n 1, 1) := by decide +kernel
theorem dX3_remove_2 : decode cX3_remove 2 = .ok (.invokestatic 62, 3) := by decide +kernel
theorem dX3_remove_5 : decode cX3_remove 5 = .ok (.invokevirtual 66, 3) := by decide +kernel
theorem dX3_remove_8 : decode cX3_remove 8 = .ok (.istore_n 2, 1) := by decide +kernel
theorem dX3_remove_9 : decode cX3_remove 9 = .ok (.iload_n 2, 1) := by decide +kernel
theorem dX3_remove_10 : decode cX3_remove 10 = .ok (.ifCond .eq 5, 3) := by decide +kernel
theorem dX3_remove_13 : decode cX3_remove 13 = .ok (.iload_n 2, 1) := by decide +kernel
theorem dX3_remove_14 : decode cX3_remove 14 = .ok (.ireturn, 1) := by decide +kernel
theorem dX3_remove_15 : decode cX3_remove 15 = .ok (.aload_n 0, 1) := by decide +kernel
theorem dX3_remove_16 : decode cX3_remove 16 = .ok (.getfield 52, 3) := by decide +kernel
theorem dX3_remove_19 : decode cX3_remove 19 = .ok (.ifCond .eq 16, 3) := by decide +kernel
theorem dX3_remove_22 : decode cX3_remove 22 = .ok (.aload_n 0, 1) := by decide +kernel
theorem dX3_remove_23 : decode cX3_remove 23 = .ok (.aload_n 0, 1) := by decide +kernel
theorem dX3_remove_24 : decode cX3_remove 24 = .ok (.getfield 52, 3) := by decide +kernel
theorem dX3_remove_27 : decode cX3_remove 27 = .ok (.iload_n 1, 1) := by decide +kernel
theorem dX3_remove_28 : decode cX3_remove 28 = .ok (.invokevirtual 83, 3) := by decide +kernel
theorem dX3_remove_31 : decode cX3_remove 31 = .ok (.iconst (-1), 1) := by decide +kernel
theorem dX3_remove_32 : decode cX3_remove 32 = .ok (.if_icmp .ne 5, 3) := by decide +kernel
theorem dX3_remove_35 : decode cX3_remove 35 = .ok (.iconst 0, 1) := by decide +kernel
theorem dX3_remove_36 : decode cX3_remove 36 = .ok (.ireturn, 1) := by decide +kernel
theorem dX3_remove_37 : decode cX3_remove 37 = .ok (.aload_n 0, 1) := by decide +kernel
theorem dX3_remove_38 : decode cX3_remove 38 = .ok (.getfield 30, 3) := by decide +kernel
theorem dX3_remove_41 : decode cX3_remove 41 = .ok (.bipush 8, 2) := by decide +kernel
theorem dX3_remove_43 : decode cX3_remove 43 = .ok (.invokevirtual 70, 3) := by decide +kernel
theorem dX3_remove_46 : decode cX3_remove 46 = .ok (.istore_n 3, 1) := by decide +kernel
theorem dX3_remove_47 : decode cX3_remove 47 = .ok (.iload_n 3, 1) := by decide +kernel
theorem dX3_remove_48 : decode cX3_remove 48 = .ok (.iconst (-1), 1) := by decide +kernel
theorem dX3_remove_49 : decode cX3_remove 49 = .ok (.if_icmp .eq 12, 3) := by decide +kernel
theorem dX3_remove_52 : decode cX3_remove 52 = .ok (.aload_n 0, 1) := by decide +kernel
theorem dX3_remove_53 : decode cX3_remove 53 = .ok (.getfield 52, 3) := by decide +kernel
theorem dX3_remove_56 : decode cX3_remove 56 = .ok (.ldc 74, 2) := by decide +kernel
theorem dX3_remove_58 : decode cX3_remove 58 = .ok (.if_icmp .lt 6, 3) := by decide +kernel
theorem dX3_remove_61 : decode cX3_remove 61 = .ok (.bipush (-6), 2) := by decide +kernel
theorem dX3_remove_63 : decode cX3_remove 63 = .ok (.ireturn, 1) := by decide +kernel
theorem dX3_remove_64 : decode cX3_remove 64 = .ok (.aload_n 0, 1) := by decide +kernel
theorem dX3_remove_65 : decode cX3_remove 65 = .ok (.iload_n 3, 1) := by decide +kernel
theorem dX3_remove_66 : decode cX3_remove 66 = .ok (.iload_n 1, 1) := by decide +kernel
theorem dX3_remove_67 : decode cX3_remove 67 = .ok (.iconst 0, 1) := by decide +kernel
theorem dX3_remove_68 : decode cX3_remove 68 = .ok (.invokevirtual 79, 3) := by decide +kernel
theorem dX3_remove_71 : decode cX3_remove 71 = .ok (.ireturn, 1) := by decide +kernel
set_option maxRecDepth 20000 in
theorem ggX3_drop_X3_isKept : GoodIn wsX3_drop wsX3_isKept := goodIn_r _ [7, 2, 1, 134, 135, 136, 137, 138, 139, 140, 141] (by decide +kernel) (by decide +kernel)
set_option maxRecDepth 20000 in
theorem gX3_drop_X3_isKept : GoodIn wsX3_drop (wsV RX3 86 RX3 yX3_isKept wsX3_isKept) := goodIn_app (goodIn_of _ (by decide +kernel)) ggX3_drop_X3_isKept
set_option maxRecDepth 20000 in
theorem ggX3_drop_X3_refusalOfWriting : GoodIn wsX3_drop wsX3_refusalOfWriting := goodIn_r _ [11, 12, 13, 14, 2, 1, 15, 16, 17, 18, 19, 20, 21, 22, 23, 24, 25, 26, 27, 28, 29, 30, 31, 6, 32, 33, 34, 35, 36, 37, 38, 39, 40, 41, 42, 43, 44, 45, 46, 47, 48, 49, 50, 51, 52, 53, 54, 55, 56, 57, 58, 59, 60, 61, 62, 63, 64, 65, 66, 67, 68, 69, 70, 71, 72, 73, 74, 75, 76, 77, 134, 135, 136, 137, 138, 139, 140, 141, 142, 143, 144, 145, 146, 147] (by decide +kernel) (by decide +kernel)
set_option maxRecDepth 20000 in
theorem gX3_drop_X3_refusalOfWriting : GoodIn wsX3_drop (wsV RX3 66 RX3 yX3_refusalOfWriting wsX3_refusalOfWriting) := goodIn_app (goodIn_of _ (by decide +kernel)) ggX3_drop_X3_refusalOfWriting
set_option maxRecDepth 20000 in
theorem ggX3_drop_X3_takePlacesOfNewestRoot : GoodIn wsX3_drop wsX3_takePlacesOfNewestRoot := goodIn_r _ [81, 1, 82, 14, 83, 28, 29, 30, 84, 31, 6, 32, 85, 86, 87, 43, 88, 49, 89, 90, 91, 92, 134, 135, 136, 137, 138, 139, 140, 141, 146, 147] (by decide +kernel) (by decide +kernel)
set_option maxRecDepth 20000 in
theorem gX3_drop_X3_takePlacesOfNewestRoot : GoodIn wsX3_drop (wsV RX3 89 RX3 yX3_takePlacesOfNewestRoot wsX3_takePlacesOfNewestRoot) := goodIn_app (goodIn_of _ (by decide +kernel)) ggX3_drop_X3_takePlacesOfNewestRoot
set_option maxRecDepth 20000 in
theorem ggX3_drop_X3_writeRoot : GoodIn wsX3_drop wsX3_writeRoot := goodIn_r _ [96, 14, 82, 84, 31, 6, 32, 97, 98, 99, 43, 100, 49, 101, 102, 29, 103, 104, 105, 106, 107, 108, 109, 110, 111, 112, 113, 114, 115, 116, 117, 118, 89, 90, 91, 92, 119, 120, 121, 122, 12, 123, 124, 125, 126, 54, 55, 56, 57, 58, 45, 46, 47, 48, 127, 128, 129, 130, 18, 131, 132, 133, 20, 15, 16, 17, 19, 134, 135, 136, 137, 138, 139, 140, 141, 146, 147, 142, 143, 144] (by decide +kernel) (by decide +kernel)
set_option maxRecDepth 20000 in
theorem gX3_drop_X3_writeRoot : GoodIn wsX3_drop (wsV RX3 92 RX3 yX3_writeRoot wsX3_writeRoot) := goodIn_app (goodIn_of _ (by decide +kernel)) ggX3_drop_X3_writeRoot
theorem dX3_drop_0 : decode cX3_drop 0 = .ok (.aload_n 0, 1) := by decide +kernel
theorem dX3_drop_1 : decode cX3_drop 1 = .ok (.aload_n 0, 1) := by decide +kernel
theorem dX3_drop_2 : decode cX3_drop 2 = .ok (.iload_n 1, 1) := by decide +kernel
theorem dX3_drop_3 : decode cX3_drop 3 = .ok (.invokevirtual 86, 3) := by decide +kernel
theorem dX3_drop_6 : decode cX3_drop 6 = .ok (.ifCond .eq 15, 3) := by decide +kernel
theorem dX3_drop_9 : decode cX3_drop 9 = .ok (.iload_n 1, 1) := by decide +kernel
theorem dX3_drop_10 : decode cX3_drop 10 = .ok (.aload_n 0, 1) := by decide +kernel
theorem dX3_drop_11 : decode cX3_drop 11 = .ok (.getfield 52, 3) := by decide +kernel
theorem dX3_drop_14 : decode cX3_drop 14 = .ok (.if_icmp .eq 7, 3) := by decide +kernel
theorem dX3_drop_17 : decode cX3_drop 17 = .ok (.iconst 1, 1) := by decide +kernel
theorem dX3_drop_18 : decode cX3_drop 18 = .ok (.goto 4, 3) := by decide +kernel
theorem dX3_drop_21 : decode cX3_drop 21 = .ok (.iconst 0, 1) := by decide +kernel
theorem dX3_drop_22 : decode cX3_drop 22 = .ok (.invokevirtual 66, 3) := by decide +kernel
theorem dX3_drop_25 : decode cX3_drop 25 = .ok (.istore_n 2, 1) := by decide +kernel
theorem dX3_drop_26 : decode cX3_drop 26 = .ok (.iload_n 2, 1) := by decide +kernel
theorem dX3_drop_27 : decode cX3_drop 27 = .ok (.ifCond .eq 5, 3) := by decide +kernel
theorem dX3_drop_30 : decode cX3_drop 30 = .ok (.iload_n 2, 1) := by decide +kernel
theorem dX3_drop_31 : decode cX3_drop 31 = .ok (.ireturn, 1) := by decide +kernel
theorem dX3_drop_32 : decode cX3_drop 32 = .ok (.aload_n 0, 1) := by decide +kernel
theorem dX3_drop_33 : decode cX3_drop 33 = .ok (.invokevirtual 89, 3) := by decide +kernel
theorem dX3_drop_36 : decode cX3_drop 36 = .ok (.aload_n 0, 1) := by decide +kernel
theorem dX3_drop_37 : decode cX3_drop 37 = .ok (.aload_n 0, 1) := by decide +kernel
theorem dX3_drop_38 : decode cX3_drop 38 = .ok (.getfield 52, 3) := by decide +kernel
theorem dX3_drop_41 : decode cX3_drop 41 = .ok (.iload_n 1, 1) := by decide +kernel
theorem dX3_drop_42 : decode cX3_drop 42 = .ok (.iconst 1, 1) := by decide +kernel
theorem dX3_drop_43 : decode cX3_drop 43 = .ok (.iadd, 1) := by decide +kernel
theorem dX3_drop_44 : decode cX3_drop 44 = .ok (.invokevirtual 92, 3) := by decide +kernel
theorem dX3_drop_47 : decode cX3_drop 47 = .ok (.ifCond .ne 6, 3) := by decide +kernel
theorem dX3_drop_50 : decode cX3_drop 50 = .ok (.bipush (-3), 2) := by decide +kernel
theorem dX3_drop_52 : decode cX3_drop 52 = .ok (.ireturn, 1) := by decide +kernel
theorem dX3_drop_53 : decode cX3_drop 53 = .ok (.aload_n 0, 1) := by decide +kernel
theorem dX3_drop_54 : decode cX3_drop 54 = .ok (.iload_n 1, 1) := by decide +kernel
theorem dX3_drop_55 : decode cX3_drop 55 = .ok (.iconst 1, 1) := by decide +kernel
theorem dX3_drop_56 : decode cX3_drop 56 = .ok (.iadd, 1) := by decide +kernel
theorem dX3_drop_57 : decode cX3_drop 57 = .ok (.putfield 55, 3) := by decide +kernel
theorem dX3_drop_60 : decode cX3_drop 60 = .ok (.aload_n 0, 1) := by decide +kernel
theorem dX3_drop_61 : decode cX3_drop 61 = .ok (.getfield 52, 3) := by decide +kernel
theorem dX3_drop_64 : decode cX3_drop 64 = .ok (.iload_n 1, 1) := by decide +kernel
theorem dX3_drop_65 : decode cX3_drop 65 = .ok (.isub, 1) := by decide +kernel
theorem dX3_drop_66 : decode cX3_drop 66 = .ok (.ireturn, 1) := by decide +kernel
set_option maxRecDepth 20000 in
theorem ggX3_length_X3_lookUp : GoodIn wsX3_length wsX3_lookUp := goodIn_r _ [6, 7, 8, 9, 5, 10, 11, 12, 13, 14, 15, 16, 17, 18, 19, 20, 21, 22, 23, 24, 25, 26, 27, 28, 29, 30, 1, 31, 32, 33, 34, 35, 36, 37, 38, 39, 40, 41, 42, 43, 44, 45, 46, 47, 48, 49, 50, 51, 52, 53, 54, 55, 56, 57, 58, 59, 60, 61, 62, 63, 64, 65, 66, 67, 68, 69, 70, 71, 72, 73, 74, 75, 76] (by decide +kernel) (by decide +kernel)
set_option maxRecDepth 20000 in
theorem gX3_length_X3_lookUp : GoodIn wsX3_length (wsV RX3 95 RX3 yX3_lookUp wsX3_lookUp) := goodIn_app (goodIn_of _ (by decide +kernel)) ggX3_length_X3_lookUp
set_option maxRecDepth 20000 in
theorem ggX3_length_X0_at : GoodIn wsX3_length wsX0_at := goodIn_r _ [42, 43, 75, 76] (by decide +kernel) (by decide +kernel)
set_option maxRecDepth 20000 in
theorem gX3_length_X0_at : GoodIn wsX3_length (wsV RX3 98 RX0 yX0_at wsX0_at) := goodIn_app (goodIn_of _ (by decide +kernel)) ggX3_length_X0_at
theorem dX3_length_0 : decode cX3_length 0 = .ok (.aload_n 0, 1) := by decide +kernel
theorem dX3_length_1 : decode cX3_length 1 = .ok (.iload_n 1, 1) := by decide +kernel
theorem dX3_length_2 : decode cX3_length 2 = .ok (.iload_n 2, 1) := by decide +kernel
theorem dX3_length_3 : decode cX3_length 3 = .ok (.invokevirtual 95, 3) := by decide +kernel
theorem dX3_length_6 : decode cX3_length 6 = .ok (.istore_n 3, 1) := by decide +kernel
theorem dX3_length_7 : decode cX3_length 7 = .ok (.iload_n 3, 1) := by decide +kernel
theorem dX3_length_8 : decode cX3_length 8 = .ok (.ifCond .ge 7, 3) := by decide +kernel
theorem dX3_length_11 : decode cX3_length 11 = .ok (.iload_n 3, 1) := by decide +kernel
theorem dX3_length_12 : decode cX3_length 12 = .ok (.goto 12, 3) := by decide +kernel
theorem dX3_length_15 : decode cX3_length 15 = .ok (.aload_n 0, 1) := by decide +kernel
theorem dX3_length_16 : decode cX3_length 16 = .ok (.getfield 23, 3) := by decide +kernel
theorem dX3_length_19 : decode cX3_length 19 = .ok (.iload_n 3, 1) := by decide +kernel
theorem dX3_length_20 : decode cX3_length 20 = .ok (.iconst 3, 1) := by decide +kernel
theorem dX3_length_21 : decode cX3_length 21 = .ok (.invokevirtual 98, 3) := by decide +kernel
theorem dX3_length_24 : decode cX3_length 24 = .ok (.ireturn, 1) := by decide +kernel
set_option maxRecDepth 20000 in
theorem ggX3_find_X3_lookUp : GoodIn wsX3_find wsX3_lookUp := goodIn_r _ [6, 7, 8, 9, 5, 10, 11, 12, 13, 14, 15, 16, 17, 18, 19, 20, 21, 22, 23, 24, 25, 26, 27, 28, 29, 30, 1, 31, 32, 33, 34, 35, 36, 37, 38, 39, 40, 41, 42, 43, 44, 45, 46, 47, 48, 49, 50, 51, 52, 53, 54, 55, 56, 57, 58, 59, 60, 61, 62, 63, 64, 65, 66, 67, 68, 69, 70, 71, 72, 73, 74, 75, 76] (by decide +kernel) (by decide +kernel)
set_option maxRecDepth 20000 in
theorem gX3_find_X3_lookUp : GoodIn wsX3_find (wsV RX3 95 RX3 yX3_lookUp wsX3_lookUp) := goodIn_app (goodIn_of _ (by decide +kernel)) ggX3_find_X3_lookUp
set_option maxRecDepth 20000 in
theorem ggX3_find_X0_at : GoodIn wsX3_find wsX0_at := goodIn_r _ [42, 43, 75, 76] (by decide +kernel) (by decide +kernel)
set_option maxRecDepth 20000 in
theorem gX3_find_X0_at : GoodIn wsX3_find (wsV RX3 98 RX0 yX0_at wsX0_at) := goodIn_app (goodIn_of _ (by decide +kernel)) ggX3_find_X0_at
theorem dX3_find_0 : decode cX3_find 0 = .ok (.aload_n 0, 1) := by decide +kernel
theorem dX3_find_1 : decode cX3_find 1 = .ok (.iload_n 1, 1) := by decide +kernel
theorem dX3_find_2 : decode cX3_find 2 = .ok (.iload_n 2, 1) := by decide +kernel
theorem dX3_find_3 : decode cX3_find 3 = .ok (.invokevirtual 95, 3) := by decide +kernel
theorem dX3_find_6 : decode cX3_find 6 = .ok (.istore 4, 2) := by decide +kernel
theorem dX3_find_8 : decode cX3_find 8 = .ok (.iload 4, 2) := by decide +kernel
theorem dX3_find_10 : decode cX3_find 10 = .ok (.ifCond .ge 6, 3) := by decide +kernel
theorem dX3_find_13 : decode cX3_find 13 = .ok (.iload 4, 2) := by decide +kernel
theorem dX3_find_15 : decode cX3_find 15 = .ok (.ireturn, 1) := by decide +kernel
theorem dX3_find_16 : decode cX3_find 16 = .ok (.iload_n 3, 1) := by decide +kernel
theorem dX3_find_17 : decode cX3_find 17 = .ok (.ifCond .lt 17, 3) := by decide +kernel
theorem dX3_find_20 : decode cX3_find 20 = .ok (.iload_n 3, 1) := by decide +kernel
theorem dX3_find_21 : decode cX3_find 21 = .ok (.aload_n 0, 1) := by decide +kernel
theorem dX3_find_22 : decode cX3_find 22 = .ok (.getfield 23, 3) := by decide +kernel
theorem dX3_find_25 : decode cX3_find 25 = .ok (.iload 4, 2) := by decide +kernel
theorem dX3_find_27 : decode cX3_find 27 = .ok (.iconst 3, 1) := by decide +kernel
theorem dX3_find_28 : decode cX3_find 28 = .ok (.invokevirtual 98, 3) := by decide +kernel
theorem dX3_find_31 : decode cX3_find 31 = .ok (.if_icmp .lt 5, 3) := by decide +kernel
theorem dX3_find_34 : decode cX3_find 34 = .ok (.iconst (-1), 1) := by decide +kernel
theorem dX3_find_35 : decode cX3_find 35 = .ok (.ireturn, 1) := by decide +kernel
theorem dX3_find_36 : decode cX3_find 36 = .ok (.aload_n 0, 1) := by decide +kernel
theorem dX3_find_37 : decode cX3_find 37 = .ok (.getfield 23, 3) := by decide +kernel
theorem dX3_find_40 : decode cX3_find 40 = .ok (.iload 4, 2) := by decide +kernel
theorem dX3_find_42 : decode cX3_find 42 = .ok (.iconst 4, 1) := by decide +kernel
theorem dX3_find_43 : decode cX3_find 43 = .ok (.iload_n 3, 1) := by decide +kernel
theorem dX3_find_44 : decode cX3_find 44 = .ok (.iadd, 1) := by decide +kernel
theorem dX3_find_45 : decode cX3_find 45 = .ok (.invokevirtual 98, 3) := by decide +kernel
theorem dX3_find_48 : decode cX3_find 48 = .ok (.ireturn, 1) := by decide +kernel
set_option maxRecDepth 20000 in
theorem ggX3_next_X3_refusalOfReading : GoodIn wsX3_next wsX3_refusalOfReading := goodIn_r _ [6, 7, 8, 9, 10, 11, 12, 13, 14, 15, 16, 5, 17, 18, 19, 20, 21, 22, 60, 61, 62, 63, 64, 65, 66, 67, 68, 69, 70] (by decide +kernel) (by decide +kernel)
set_option maxRecDepth 20000 in
theorem gX3_next_X3_refusalOfReading : GoodIn wsX3_next (wsV RX3 101 RX3 yX3_refusalOfReading wsX3_refusalOfReading) := goodIn_app (goodIn_of _ (by decide +kernel)) ggX3_next_X3_refusalOfReading
set_option maxRecDepth 20000 in
theorem ggX3_next_X3_pageOfRoot : GoodIn wsX3_next wsX3_pageOfRoot := goodIn_r _ [25] (by decide +kernel) (by decide +kernel)
set_option maxRecDepth 20000 in
theorem gX3_next_X3_pageOfRoot : GoodIn wsX3_next (va_wsS RX3 104 yX3_pageOfRoot wsX3_pageOfRoot) := goodIn_app (goodIn_of _ (by decide +kernel)) ggX3_next_X3_pageOfRoot
set_option maxRecDepth 20000 in
theorem ggX3_next_X0_isRight : GoodIn wsX3_next wsX0_isRight := goodIn_r _ [30, 31, 32, 33, 29, 34, 35, 36, 37, 38, 39, 40, 41, 42, 43, 44, 45, 46, 47, 48, 49, 24, 5, 25, 50, 51, 52, 53, 54, 71, 72] (by decide +kernel) (by decide +kernel)
set_option maxRecDepth 20000 in
theorem gX3_next_X0_isRight : GoodIn wsX3_next (wsV RX3 107 RX0 yX0_isRight wsX0_isRight) := goodIn_app (goodIn_of _ (by decide +kernel)) ggX3_next_X0_isRight
set_option maxRecDepth 20000 in
theorem ggX3_next_X0_at : GoodIn wsX3_next wsX0_at := goodIn_r _ [34, 35, 71, 72] (by decide +kernel) (by decide +kernel)
set_option maxRecDepth 20000 in
theorem gX3_next_X0_at : GoodIn wsX3_next (wsV RX3 98 RX0 yX0_at wsX0_at) := goodIn_app (goodIn_of _ (by decide +kernel)) ggX3_next_X0_at
set_option maxRecDepth 20000 in
theorem ggX3_next_X3_nextThing : GoodIn wsX3_next wsX3_nextThing := goodIn_r _ [59, 1, 26, 27, 28, 29, 30, 31, 32, 33, 34, 35, 36, 37, 38, 39, 40, 41, 42, 43, 44, 45, 46, 47, 48, 49, 24, 5, 25, 50, 51, 52, 53, 54, 55, 60, 61, 62, 63, 64, 65, 66, 67, 71, 72] (by decide +kernel) (by decide +kernel)
set_option maxRecDepth 20000 in
theorem gX3_next_X3_nextThing : GoodIn wsX3_next (wsV RX3 110 RX3 yX3_nextThing wsX3_nextThing) := goodIn_app (goodIn_of _ (by decide +kernel)) ggX3_next_X3_nextThing
theorem dX3_next_0 : decode cX3_next 0 = .ok (.aload_n 0, 1) := by decide +kernel
theorem dX3_next_1 : decode cX3_next 1 = .ok (.iload_n 1, 1) := by decide +kernel
theorem dX3_next_2 : decode cX3_next 2 = .ok (.iload_n 2, 1) := by decide +kernel
theorem dX3_next_3 : decode cX3_next 3 = .ok (.invokevirtual 101, 3) := by decide +kernel
theorem dX3_next_6 : decode cX3_next 6 = .ok (.istore_n 3, 1) := by decide +kernel
theorem dX3_next_7 : decode cX3_next 7 = .ok (.iload_n 3, 1) := by decide +kernel
theorem dX3_next_8 : decode cX3_next 8 = .ok (.ifCond .eq 5, 3) := by decide +kernel
theorem dX3_next_11 : decode cX3_next 11 = .ok (.iload_n 3, 1) := by decide +kernel
theorem dX3_next_12 : decode cX3_next 12 = .ok (.ireturn, 1) := by decide +kernel
theorem dX3_next_13 : decode cX3_next 13 = .ok (.iload_n 1, 1) := by decide +kernel
theorem dX3_next_14 : decode cX3_next 14 = .ok (.invokestatic 104, 3) := by decide +kernel
theorem dX3_next_17 : decode cX3_next 17 = .ok (.istore 4, 2) := by decide +kernel
theorem dX3_next_19 : decode cX3_next 19 = .ok (.aload_n 0, 1) := by decide +kernel
theorem dX3_next_20 : decode cX3_next 20 = .ok (.getfield 23, 3) := by decide +kernel
theorem dX3_next_23 : decode cX3_next 23 = .ok (.iload 4, 2) := by decide +kernel
theorem dX3_next_25 : decode cX3_next 25 = .ok (.iconst 1, 1) := by decide +kernel
theorem dX3_next_26 : decode cX3_next 26 = .ok (.invokevirtual 107, 3) := by decide +kernel
theorem dX3_next_29 : decode cX3_next 29 = .ok (.ifCond .ne 6, 3) := by decide +kernel
theorem dX3_next_32 : decode cX3_next 32 = .ok (.bipush (-4), 2) := by decide +kernel
theorem dX3_next_34 : decode cX3_next 34 = .ok (.ireturn, 1) := by decide +kernel
theorem dX3_next_35 : decode cX3_next 35 = .ok (.iload_n 2, 1) := by decide +kernel
theorem dX3_next_36 : decode cX3_next 36 = .ok (.bipush 32, 2) := by decide +kernel
theorem dX3_next_38 : decode cX3_next 38 = .ok (.irem, 1) := by decide +kernel
theorem dX3_next_39 : decode cX3_next 39 = .ok (.istore 5, 2) := by decide +kernel
theorem dX3_next_41 : decode cX3_next 41 = .ok (.iload_n 2, 1) := by decide +kernel
theorem dX3_next_42 : decode cX3_next 42 = .ok (.bipush 32, 2) := by decide +kernel
theorem dX3_next_44 : decode cX3_next 44 = .ok (.idiv, 1) := by decide +kernel
theorem dX3_next_45 : decode cX3_next 45 = .ok (.istore 6, 2) := by decide +kernel
theorem dX3_next_47 : decode cX3_next 47 = .ok (.iload 6, 2) := by decide +kernel
theorem dX3_next_49 : decode cX3_next 49 = .ok (.bipush 32, 2) := by decide +kernel
theorem dX3_next_51 : decode cX3_next 51 = .ok (.if_icmp .ge 61, 3) := by decide +kernel
theorem dX3_next_54 : decode cX3_next 54 = .ok (.aload_n 0, 1) := by decide +kernel
theorem dX3_next_55 : decode cX3_next 55 = .ok (.aload_n 0, 1) := by decide +kernel
theorem dX3_next_56 : decode cX3_next 56 = .ok (.getfield 23, 3) := by decide +kernel
theorem dX3_next_59 : decode cX3_next 59 = .ok (.iload 4, 2) := by decide +kernel
theorem dX3_next_61 : decode cX3_next 61 = .ok (.bipush 9, 2) := by decide +kernel
theorem dX3_next_63 : decode cX3_next 63 = .ok (.iload 6, 2) := by decide +kernel
theorem dX3_next_65 : decode cX3_next 65 = .ok (.iadd, 1) := by decide +kernel
theorem dX3_next_66 : decode cX3_next 66 = .ok (.invokevirtual 98, 3) := by decide +kernel
theorem dX3_next_69 : decode cX3_next 69 = .ok (.iload 5, 2) := by decide +kernel
theorem dX3_next_71 : decode cX3_next 71 = .ok (.invokevirtual 110, 3) := by decide +kernel
theorem dX3_next_74 : decode cX3_next 74 = .ok (.istore 7, 2) := by decide +kernel
theorem dX3_next_76 : decode cX3_next 76 = .ok (.iload 7, 2) := by decide +kernel
theorem dX3_next_78 : decode cX3_next 78 = .ok (.iconst (-1), 1) := by decide +kernel
theorem dX3_next_79 : decode cX3_next 79 = .ok (.if_icmp .eq 24, 3) := by decide +kernel
theorem dX3_next_82 : decode cX3_next 82 = .ok (.iload 7, 2) := by decide +kernel
theorem dX3_next_84 : decode cX3_next 84 = .ok (.bipush (-4), 2) := by decide +kernel
theorem dX3_next_86 : decode cX3_next 86 = .ok (.if_icmp .ne 8, 3) := by decide +kernel
theorem dX3_next_89 : decode cX3_next 89 = .ok (.bipush (-4), 2) := by decide +kernel
theorem dX3_next_91 : decode cX3_next 91 = .ok (.goto 11, 3) := by decide +kernel
theorem dX3_next_94 : decode cX3_next 94 = .ok (.iload 6, 2) := by decide +kernel
theorem dX3_next_96 : decode cX3_next 96 = .ok (.bipush 32, 2) := by decide +kernel
theorem dX3_next_98 : decode cX3_next 98 = .ok (.imul, 1) := by decide +kernel
theorem dX3_next_99 : decode cX3_next 99 = .ok (.iload 7, 2) := by decide +kernel
theorem dX3_next_101 : decode cX3_next 101 = .ok (.iadd, 1) := by decide +kernel
theorem dX3_next_102 : decode cX3_next 102 = .ok (.ireturn, 1) := by decide +kernel
theorem dX3_next_103 : decode cX3_next 103 = .ok (.iconst 0, 1) := by decide +kernel
theorem dX3_next_104 : decode cX3_next 104 = .ok (.istore 5, 2) := by decide +kernel
theorem dX3_next_106 : decode cX3_next 106 = .ok (.iinc 6 1, 3) := by decide +kernel
theorem dX3_next_109 : decode cX3_next 109 = .ok (.goto (-62), 3) := by decide +kernel
theorem dX3_next_112 : decode cX3_next 112 = .ok (.iconst (-1), 1) := by decide +kernel
theorem dX3_next_113 : decode cX3_next 113 = .ok (.ireturn, 1) := by decide +kernel
set_option maxRecDepth 20000 in
theorem ggX3_crash_X1_isOff : GoodIn wsX3_crash wsX1_isOff := goodIn_r _ [6, 7, 21, 22, 23] (by decide +kernel) (by decide +kernel)
set_option maxRecDepth 20000 in
theorem gX3_crash_X1_isOff : GoodIn wsX3_crash (wsV RX3 58 RX1 yX1_isOff wsX1_isOff) := goodIn_app (goodIn_of _ (by decide +kernel)) ggX3_crash_X1_isOff
set_option maxRecDepth 20000 in
theorem ggX3_crash_X1_failAfter : GoodIn wsX3_crash wsX1_failAfter := goodIn_r _ [11, 12, 7, 21, 22, 23] (by decide +kernel) (by decide +kernel)
set_option maxRecDepth 20000 in
theorem gX3_crash_X1_failAfter : GoodIn wsX3_crash (wsV RX3 113 RX1 yX1_failAfter wsX1_failAfter) := goodIn_app (goodIn_of _ (by decide +kernel)) ggX3_crash_X1_failAfter
theorem dX3_crash_0 : decode cX3_crash 0 = .ok (.aload_n 0, 1) := by decide +kernel
theorem dX3_crash_1 : decode cX3_crash 1 = .ok (.getfield 37, 3) := by decide +kernel
theorem dX3_crash_4 : decode cX3_crash 4 = .ok (.invokevirtual 58, 3) := by decide +kernel
theorem dX3_crash_7 : decode cX3_crash 7 = .ok (.ifCond .eq 6, 3) := by decide +kernel
theorem dX3_crash_10 : decode cX3_crash 10 = .ok (.bipush (-5), 2) := by decide +kernel
theorem dX3_crash_12 : decode cX3_crash 12 = .ok (.ireturn, 1) := by decide +kernel
theorem dX3_crash_13 : decode cX3_crash 13 = .ok (.iload_n 1, 1) := by decide +kernel
theorem dX3_crash_14 : decode cX3_crash 14 = .ok (.iconst (-1), 1) := by decide +kernel
theorem dX3_crash_15 : decode cX3_crash 15 = .ok (.if_icmp .lt 10, 3) := by decide +kernel
theorem dX3_crash_18 : decode cX3_crash 18 = .ok (.iload_n 1, 1) := by decide +kernel
theorem dX3_crash_19 : decode cX3_crash 19 = .ok (.sipush 1000, 3) := by decide +kernel
theorem dX3_crash_22 : decode cX3_crash 22 = .ok (.if_icmp .le 6, 3) := by decide +kernel
theorem dX3_crash_25 : decode cX3_crash 25 = .ok (.bipush (-2), 2) := by decide +kernel
theorem dX3_crash_27 : decode cX3_crash 27 = .ok (.ireturn, 1) := by decide +kernel
theorem dX3_crash_28 : decode cX3_crash 28 = .ok (.aload_n 0, 1) := by decide +kernel
theorem dX3_crash_29 : decode cX3_crash 29 = .ok (.getfield 37, 3) := by decide +kernel
theorem dX3_crash_32 : decode cX3_crash 32 = .ok (.iload_n 1, 1) := by decide +kernel
theorem dX3_crash_33 : decode cX3_crash 33 = .ok (.invokevirtual 113, 3) := by decide +kernel
theorem dX3_crash_36 : decode cX3_crash 36 = .ok (.iconst 1, 1) := by decide +kernel
theorem dX3_crash_37 : decode cX3_crash 37 = .ok (.ireturn, 1) := by decide +kernel
set_option maxRecDepth 20000 in
theorem ggX3_reopen_X1_restore : GoodIn wsX3_reopen wsX1_restore := goodIn_r _ [10, 11, 12, 54, 55, 56] (by decide +kernel) (by decide +kernel)
set_option maxRecDepth 20000 in
theorem gX3_reopen_X1_restore : GoodIn wsX3_reopen (wsV RX3 116 RX1 yX1_restore wsX1_restore) := goodIn_app (goodIn_of _ (by decide +kernel)) ggX3_reopen_X1_restore
set_option maxRecDepth 20000 in
theorem ggX3_reopen_X0_isRight : GoodIn wsX3_reopen wsX0_isRight := goodIn_r _ [17, 18, 19, 20, 16, 21, 22, 23, 24, 25, 26, 27, 28, 29, 30, 31, 32, 33, 34, 35, 36, 37, 38, 39, 40, 41, 42, 43, 44, 57, 58] (by decide +kernel) (by decide +kernel)
set_option maxRecDepth 20000 in
theorem gX3_reopen_X0_isRight : GoodIn wsX3_reopen (wsV RX3 107 RX0 yX0_isRight wsX0_isRight) := goodIn_app (goodIn_of _ (by decide +kernel)) ggX3_reopen_X0_isRight
set_option maxRecDepth 20000 in
theorem ggX3_reopen_X0_numberAt : GoodIn wsX3_reopen wsX0_numberAt := goodIn_r _ [26, 22, 57, 58] (by decide +kernel) (by decide +kernel)
set_option maxRecDepth 20000 in
theorem gX3_reopen_X0_numberAt : GoodIn wsX3_reopen (wsV RX3 119 RX0 yX0_numberAt wsX0_numberAt) := goodIn_app (goodIn_of _ (by decide +kernel)) ggX3_reopen_X0_numberAt
theorem dX3_reopen_0 : decode cX3_reopen 0 = .ok (.aload_n 0, 1) := by decide +kernel
theorem dX3_reopen_1 : decode cX3_reopen 1 = .ok (.getfield 37, 3) := by decide +kernel
theorem dX3_reopen_4 : decode cX3_reopen 4 = .ok (.invokevirtual 116, 3) := by decide +kernel
theorem dX3_reopen_7 : decode cX3_reopen 7 = .ok (.aload_n 0, 1) := by decide +kernel
theorem dX3_reopen_8 : decode cX3_reopen 8 = .ok (.iconst 0, 1) := by decide +kernel
theorem dX3_reopen_9 : decode cX3_reopen 9 = .ok (.putfield 48, 3) := by decide +kernel
theorem dX3_reopen_12 : decode cX3_reopen 12 = .ok (.aload_n 0, 1) := by decide +kernel
theorem dX3_reopen_13 : decode cX3_reopen 13 = .ok (.iconst 0, 1) := by decide +kernel
theorem dX3_reopen_14 : decode cX3_reopen 14 = .ok (.putfield 52, 3) := by decide +kernel
theorem dX3_reopen_17 : decode cX3_reopen 17 = .ok (.aload_n 0, 1) := by decide +kernel
theorem dX3_reopen_18 : decode cX3_reopen 18 = .ok (.iconst 1, 1) := by decide +kernel
theorem dX3_reopen_19 : decode cX3_reopen 19 = .ok (.putfield 55, 3) := by decide +kernel
theorem dX3_reopen_22 : decode cX3_reopen 22 = .ok (.iconst 0, 1) := by decide +kernel
theorem dX3_reopen_23 : decode cX3_reopen 23 = .ok (.istore_n 1, 1) := by decide +kernel
theorem dX3_reopen_24 : decode cX3_reopen 24 = .ok (.iload_n 1, 1) := by decide +kernel
theorem dX3_reopen_25 : decode cX3_reopen 25 = .ok (.bipush 8, 2) := by decide +kernel
theorem dX3_reopen_27 : decode cX3_reopen 27 = .ok (.if_icmp .ge 63, 3) := by decide +kernel
theorem dX3_reopen_30 : decode cX3_reopen 30 = .ok (.aload_n 0, 1) := by decide +kernel
theorem dX3_reopen_31 : decode cX3_reopen 31 = .ok (.getfield 23, 3) := by decide +kernel
theorem dX3_reopen_34 : decode cX3_reopen 34 = .ok (.iload_n 1, 1) := by decide +kernel
theorem dX3_reopen_35 : decode cX3_reopen 35 = .ok (.iconst 1, 1) := by decide +kernel
theorem dX3_reopen_36 : decode cX3_reopen 36 = .ok (.invokevirtual 107, 3) := by decide +kernel
theorem dX3_reopen_39 : decode cX3_reopen 39 = .ok (.ifCond .eq 45, 3) := by decide +kernel
theorem dX3_reopen_42 : decode cX3_reopen 42 = .ok (.aload_n 0, 1) := by decide +kernel
theorem dX3_reopen_43 : decode cX3_reopen 43 = .ok (.getfield 23, 3) := by decide +kernel
theorem dX3_reopen_46 : decode cX3_reopen 46 = .ok (.iload_n 1, 1) := by decide +kernel
theorem dX3_reopen_47 : decode cX3_reopen 47 = .ok (.iconst 1, 1) := by decide +kernel
theorem dX3_reopen_48 : decode cX3_reopen 48 = .ok (.invokevirtual 119, 3) := by decide +kernel
theorem dX3_reopen_51 : decode cX3_reopen 51 = .ok (.aload_n 0, 1) := by decide +kernel
theorem dX3_reopen_52 : decode cX3_reopen 52 = .ok (.getfield 52, 3) := by decide +kernel
theorem dX3_reopen_55 : decode cX3_reopen 55 = .ok (.if_icmp .le 29, 3) := by decide +kernel
theorem dX3_reopen_58 : decode cX3_reopen 58 = .ok (.aload_n 0, 1) := by decide +kernel
theorem dX3_reopen_59 : decode cX3_reopen 59 = .ok (.aload_n 0, 1) := by decide +kernel
theorem dX3_reopen_60 : decode cX3_reopen 60 = .ok (.getfield 23, 3) := by decide +kernel
theorem dX3_reopen_63 : decode cX3_reopen 63 = .ok (.iload_n 1, 1) := by decide +kernel
theorem dX3_reopen_64 : decode cX3_reopen 64 = .ok (.iconst 1, 1) := by decide +kernel
theorem dX3_reopen_65 : decode cX3_reopen 65 = .ok (.invokevirtual 119, 3) := by decide +kernel
theorem dX3_reopen_68 : decode cX3_reopen 68 = .ok (.putfield 52, 3) := by decide +kernel
theorem dX3_reopen_71 : decode cX3_reopen 71 = .ok (.aload_n 0, 1) := by decide +kernel
theorem dX3_reopen_72 : decode cX3_reopen 72 = .ok (.aload_n 0, 1) := by decide +kernel
theorem dX3_reopen_73 : decode cX3_reopen 73 = .ok (.getfield 23, 3) := by decide +kernel
theorem dX3_reopen_76 : decode cX3_reopen 76 = .ok (.iload_n 1, 1) := by decide +kernel
theorem dX3_reopen_77 : decode cX3_reopen 77 = .ok (.iconst 5, 1) := by decide +kernel
theorem dX3_reopen_78 : decode cX3_reopen 78 = .ok (.invokevirtual 119, 3) := by decide +kernel
theorem dX3_reopen_81 : decode cX3_reopen 81 = .ok (.putfield 55, 3) := by decide +kernel
theorem dX3_reopen_84 : decode cX3_reopen 84 = .ok (.iinc 1 1, 3) := by decide +kernel
theorem dX3_reopen_87 : decode cX3_reopen 87 = .ok (.goto (-63), 3) := by decide +kernel
theorem dX3_reopen_90 : decode cX3_reopen 90 = .ok (.aload_n 0, 1) := by decide +kernel
theorem dX3_reopen_91 : decode cX3_reopen 91 = .ok (.getfield 52, 3) := by decide +kernel
theorem dX3_reopen_94 : decode cX3_reopen 94 = .ok (.ireturn, 1) := by decide +kernel
set_option maxRecDepth 20000 in
theorem ggX3_poke_X0_has : GoodIn wsX3_poke wsX0_has := goodIn_r _ [6, 7, 25, 26] (by decide +kernel) (by decide +kernel)
set_option maxRecDepth 20000 in
theorem gX3_poke_X0_has : GoodIn wsX3_poke (wsV RX3 122 RX0 yX0_has wsX0_has) := goodIn_app (goodIn_of _ (by decide +kernel)) ggX3_poke_X0_has
set_option maxRecDepth 20000 in
theorem ggX3_poke_X0_at : GoodIn wsX3_poke wsX0_at := goodIn_r _ [11, 12, 25, 26] (by decide +kernel) (by decide +kernel)
set_option maxRecDepth 20000 in
theorem gX3_poke_X0_at : GoodIn wsX3_poke (wsV RX3 98 RX0 yX0_at wsX0_at) := goodIn_app (goodIn_of _ (by decide +kernel)) ggX3_poke_X0_at
set_option maxRecDepth 20000 in
theorem ggX3_poke_X0_set : GoodIn wsX3_poke wsX0_set := goodIn_r _ [16, 12, 25, 26] (by decide +kernel) (by decide +kernel)
set_option maxRecDepth 20000 in
theorem gX3_poke_X0_set : GoodIn wsX3_poke (wsV RX3 125 RX0 yX0_set wsX0_set) := goodIn_app (goodIn_of _ (by decide +kernel)) ggX3_poke_X0_set
theorem dX3_poke_0 : decode cX3_poke 0 = .ok (.aload_n 0, 1) := by decide +kernel
theorem dX3_poke_1 : decode cX3_poke 1 = .ok (.getfield 23, 3) := by decide +kernel
theorem dX3_poke_4 : decode cX3_poke 4 = .ok (.iload_n 1, 1) := by decide +kernel
theorem dX3_poke_5 : decode cX3_poke 5 = .ok (.iload_n 2, 1) := by decide +kernel
theorem dX3_poke_6 : decode cX3_poke 6 = .ok (.invokevirtual 122, 3) := by decide +kernel
theorem dX3_poke_9 : decode cX3_poke 9 = .ok (.ifCond .eq 15, 3) := by decide +kernel
theorem dX3_poke_12 : decode cX3_poke 12 = .ok (.iload_n 3, 1) := by decide +kernel
theorem dX3_poke_13 : decode cX3_poke 13 = .ok (.iconst 1, 1) := by decide +kernel
theorem dX3_poke_14 : decode cX3_poke 14 = .ok (.if_icmp .lt 10, 3) := by decide +kernel
theorem dX3_poke_17 : decode cX3_poke 17 = .ok (.iload_n 3, 1) := by decide +kernel
theorem dX3_poke_18 : decode cX3_poke 18 = .ok (.sipush 255, 3) := by decide +kernel
theorem dX3_poke_21 : decode cX3_poke 21 = .ok (.if_icmp .le 6, 3) := by decide +kernel
theorem dX3_poke_24 : decode cX3_poke 24 = .ok (.bipush (-2), 2) := by decide +kernel
theorem dX3_poke_26 : decode cX3_poke 26 = .ok (.ireturn, 1) := by decide +kernel
theorem dX3_poke_27 : decode cX3_poke 27 = .ok (.aload_n 0, 1) := by decide +kernel
theorem dX3_poke_28 : decode cX3_poke 28 = .ok (.getfield 23, 3) := by decide +kernel
theorem dX3_poke_31 : decode cX3_poke 31 = .ok (.iload_n 1, 1) := by decide +kernel
theorem dX3_poke_32 : decode cX3_poke 32 = .ok (.iload_n 2, 1) := by decide +kernel
theorem dX3_poke_33 : decode cX3_poke 33 = .ok (.aload_n 0, 1) := by decide +kernel
theorem dX3_poke_34 : decode cX3_poke 34 = .ok (.getfield 23, 3) := by decide +kernel
theorem dX3_poke_37 : decode cX3_poke 37 = .ok (.iload_n 1, 1) := by decide +kernel
theorem dX3_poke_38 : decode cX3_poke 38 = .ok (.iload_n 2, 1) := by decide +kernel
theorem dX3_poke_39 : decode cX3_poke 39 = .ok (.invokevirtual 98, 3) := by decide +kernel
theorem dX3_poke_42 : decode cX3_poke 42 = .ok (.iload_n 3, 1) := by decide +kernel
theorem dX3_poke_43 : decode cX3_poke 43 = .ok (.ixor, 1) := by decide +kernel
theorem dX3_poke_44 : decode cX3_poke 44 = .ok (.invokevirtual 125, 3) := by decide +kernel
theorem dX3_poke_47 : decode cX3_poke 47 = .ok (.aload_n 0, 1) := by decide +kernel
theorem dX3_poke_48 : decode cX3_poke 48 = .ok (.getfield 23, 3) := by decide +kernel
theorem dX3_poke_51 : decode cX3_poke 51 = .ok (.iload_n 1, 1) := by decide +kernel
theorem dX3_poke_52 : decode cX3_poke 52 = .ok (.iload_n 2, 1) := by decide +kernel
theorem dX3_poke_53 : decode cX3_poke 53 = .ok (.invokevirtual 98, 3) := by decide +kernel
theorem dX3_poke_56 : decode cX3_poke 56 = .ok (.ireturn, 1) := by decide +kernel
set_option maxRecDepth 20000 in
theorem ggX3_byteAt_X0_has : GoodIn wsX3_byteAt wsX0_has := goodIn_r _ [6, 7, 21, 22] (by decide +kernel) (by decide +kernel)
set_option maxRecDepth 20000 in
theorem gX3_byteAt_X0_has : GoodIn wsX3_byteAt (wsV RX3 122 RX0 yX0_has wsX0_has) := goodIn_app (goodIn_of _ (by decide +kernel)) ggX3_byteAt_X0_has
set_option maxRecDepth 20000 in
theorem ggX3_byteAt_X0_at : GoodIn wsX3_byteAt wsX0_at := goodIn_r _ [11, 12, 21, 22] (by decide +kernel) (by decide +kernel)
set_option maxRecDepth 20000 in
theorem gX3_byteAt_X0_at : GoodIn wsX3_byteAt (wsV RX3 98 RX0 yX0_at wsX0_at) := goodIn_app (goodIn_of _ (by decide +kernel)) ggX3_byteAt_X0_at
theorem dX3_byteAt_0 : decode cX3_byteAt 0 = .ok (.aload_n 0, 1) := by decide +kernel
theorem dX3_byteAt_1 : decode cX3_byteAt 1 = .ok (.getfield 23, 3) := by decide +kernel
theorem dX3_byteAt_4 : decode cX3_byteAt 4 = .ok (.iload_n 1, 1) := by decide +kernel
theorem dX3_byteAt_5 : decode cX3_byteAt 5 = .ok (.iload_n 2, 1) := by decide +kernel
theorem dX3_byteAt_6 : decode cX3_byteAt 6 = .ok (.invokevirtual 122, 3) := by decide +kernel
theorem dX3_byteAt_9 : decode cX3_byteAt 9 = .ok (.ifCond .eq 15, 3) := by decide +kernel
theorem dX3_byteAt_12 : decode cX3_byteAt 12 = .ok (.aload_n 0, 1) := by decide +kernel
theorem dX3_byteAt_13 : decode cX3_byteAt 13 = .ok (.getfield 23, 3) := by decide +kernel
theorem dX3_byteAt_16 : decode cX3_byteAt 16 = .ok (.iload_n 1, 1) := by decide +kernel
theorem dX3_byteAt_17 : decode cX3_byteAt 17 = .ok (.iload_n 2, 1) := by decide +kernel
theorem dX3_byteAt_18 : decode cX3_byteAt 18 = .ok (.invokevirtual 98, 3) := by decide +kernel
theorem dX3_byteAt_21 : decode cX3_byteAt 21 = .ok (.goto 5, 3) := by decide +kernel
theorem dX3_byteAt_24 : decode cX3_byteAt 24 = .ok (.bipush (-2), 2) := by decide +kernel
