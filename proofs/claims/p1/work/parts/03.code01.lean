theorem dX0_init_11 : decode cX0_init 11 = .ok (.bipush 48, 2) := by decide +kernel
theorem dX0_init_13 : decode cX0_init 13 = .ok (.imul, 1) := by decide +kernel
theorem dX0_init_14 : decode cX0_init 14 = .ok (.newarray .int, 2) := by decide +kernel
theorem dX0_init_16 : decode cX0_init 16 = .ok (.putfield 15, 3) := by decide +kernel
theorem dX0_init_19 : decode cX0_init 19 = .ok (.return_, 1) := by decide +kernel
theorem dX0_has_0 : decode cX0_has 0 = .ok (.iload_n 1, 1) := by decide +kernel
theorem dX0_has_1 : decode cX0_has 1 = .ok (.ifCond .lt 25, 3) := by decide +kernel
theorem dX0_has_4 : decode cX0_has 4 = .ok (.iload_n 1, 1) := by decide +kernel
theorem dX0_has_5 : decode cX0_has 5 = .ok (.aload_n 0, 1) := by decide +kernel
theorem dX0_has_6 : decode cX0_has 6 = .ok (.getfield 9, 3) := by decide +kernel
theorem dX0_has_9 : decode cX0_has 9 = .ok (.if_icmp .ge 17, 3) := by decide +kernel
theorem dX0_has_12 : decode cX0_has 12 = .ok (.iload_n 2, 1) := by decide +kernel
theorem dX0_has_13 : decode cX0_has 13 = .ok (.ifCond .lt 13, 3) := by decide +kernel
theorem dX0_has_16 : decode cX0_has 16 = .ok (.iload_n 2, 1) := by decide +kernel
theorem dX0_has_17 : decode cX0_has 17 = .ok (.bipush 48, 2) := by decide +kernel
theorem dX0_has_19 : decode cX0_has 19 = .ok (.if_icmp .ge 7, 3) := by decide +kernel
theorem dX0_has_22 : decode cX0_has 22 = .ok (.iconst 1, 1) := by decide +kernel
theorem dX0_has_23 : decode cX0_has 23 = .ok (.goto 4, 3) := by decide +kernel
theorem dX0_has_26 : decode cX0_has 26 = .ok (.iconst 0, 1) := by decide +kernel
theorem dX0_has_27 : decode cX0_has 27 = .ok (.ireturn, 1) := by decide +kernel
theorem dX0_at_0 : decode cX0_at 0 = .ok (.aload_n 0, 1) := by decide +kernel
theorem dX0_at_1 : decode cX0_at 1 = .ok (.getfield 15, 3) := by decide +kernel
theorem dX0_at_4 : decode cX0_at 4 = .ok (.iload_n 1, 1) := by decide +kernel
theorem dX0_at_5 : decode cX0_at 5 = .ok (.bipush 48, 2) := by decide +kernel
theorem dX0_at_7 : decode cX0_at 7 = .ok (.imul, 1) := by decide +kernel
theorem dX0_at_8 : decode cX0_at 8 = .ok (.iload_n 2, 1) := by decide +kernel
theorem dX0_at_9 : decode cX0_at 9 = .ok (.iadd, 1) := by decide +kernel
theorem dX0_at_10 : decode cX0_at 10 = .ok (.iaload, 1) := by decide +kernel
theorem dX0_at_11 : decode cX0_at 11 = .ok (.ireturn, 1) := by decide +kernel
theorem dX0_set_0 : decode cX0_set 0 = .ok (.aload_n 0, 1) := by decide +kernel
theorem dX0_set_1 : decode cX0_set 1 = .ok (.getfield 15, 3) := by decide +kernel
theorem dX0_set_4 : decode cX0_set 4 = .ok (.iload_n 1, 1) := by decide +kernel
theorem dX0_set_5 : decode cX0_set 5 = .ok (.bipush 48, 2) := by decide +kernel
theorem dX0_set_7 : decode cX0_set 7 = .ok (.imul, 1) := by decide +kernel
theorem dX0_set_8 : decode cX0_set 8 = .ok (.iload_n 2, 1) := by decide +kernel
theorem dX0_set_9 : decode cX0_set 9 = .ok (.iadd, 1) := by decide +kernel
theorem dX0_set_10 : decode cX0_set 10 = .ok (.iload_n 3, 1) := by decide +kernel
theorem dX0_set_11 : decode cX0_set 11 = .ok (.iastore, 1) := by decide +kernel
theorem dX0_set_12 : decode cX0_set 12 = .ok (.return_, 1) := by decide +kernel
theorem dX0_numberAt_0 : decode cX0_numberAt 0 = .ok (.iload_n 1, 1) := by decide +kernel
theorem dX0_numberAt_1 : decode cX0_numberAt 1 = .ok (.bipush 48, 2) := by decide +kernel
theorem dX0_numberAt_3 : decode cX0_numberAt 3 = .ok (.imul, 1) := by decide +kernel
theorem dX0_numberAt_4 : decode cX0_numberAt 4 = .ok (.iload_n 2, 1) := by decide +kernel
theorem dX0_numberAt_5 : decode cX0_numberAt 5 = .ok (.iadd, 1) := by decide +kernel
theorem dX0_numberAt_6 : decode cX0_numberAt 6 = .ok (.istore_n 3, 1) := by decide +kernel
theorem dX0_numberAt_7 : decode cX0_numberAt 7 = .ok (.aload_n 0, 1) := by decide +kernel
theorem dX0_numberAt_8 : decode cX0_numberAt 8 = .ok (.getfield 15, 3) := by decide +kernel
theorem dX0_numberAt_11 : decode cX0_numberAt 11 = .ok (.iload_n 3, 1) := by decide +kernel
theorem dX0_numberAt_12 : decode cX0_numberAt 12 = .ok (.iaload, 1) := by decide +kernel
theorem dX0_numberAt_13 : decode cX0_numberAt 13 = .ok (.bipush 24, 2) := by decide +kernel
theorem dX0_numberAt_15 : decode cX0_numberAt 15 = .ok (.ishl, 1) := by decide +kernel
theorem dX0_numberAt_16 : decode cX0_numberAt 16 = .ok (.aload_n 0, 1) := by decide +kernel
theorem dX0_numberAt_17 : decode cX0_numberAt 17 = .ok (.getfield 15, 3) := by decide +kernel
theorem dX0_numberAt_20 : decode cX0_numberAt 20 = .ok (.iload_n 3, 1) := by decide +kernel
theorem dX0_numberAt_21 : decode cX0_numberAt 21 = .ok (.iconst 1, 1) := by decide +kernel
theorem dX0_numberAt_22 : decode cX0_numberAt 22 = .ok (.iadd, 1) := by decide +kernel
theorem dX0_numberAt_23 : decode cX0_numberAt 23 = .ok (.iaload, 1) := by decide +kernel
theorem dX0_numberAt_24 : decode cX0_numberAt 24 = .ok (.bipush 16, 2) := by decide +kernel
theorem dX0_numberAt_26 : decode cX0_numberAt 26 = .ok (.ishl, 1) := by decide +kernel
theorem dX0_numberAt_27 : decode cX0_numberAt 27 = .ok (.ior, 1) := by decide +kernel
theorem dX0_numberAt_28 : decode cX0_numberAt 28 = .ok (.aload_n 0, 1) := by decide +kernel
theorem dX0_numberAt_29 : decode cX0_numberAt 29 = .ok (.getfield 15, 3) := by decide +kernel
theorem dX0_numberAt_32 : decode cX0_numberAt 32 = .ok (.iload_n 3, 1) := by decide +kernel
theorem dX0_numberAt_33 : decode cX0_numberAt 33 = .ok (.iconst 2, 1) := by decide +kernel
theorem dX0_numberAt_34 : decode cX0_numberAt 34 = .ok (.iadd, 1) := by decide +kernel
theorem dX0_numberAt_35 : decode cX0_numberAt 35 = .ok (.iaload, 1) := by decide +kernel
theorem dX0_numberAt_36 : decode cX0_numberAt 36 = .ok (.bipush 8, 2) := by decide +kernel
theorem dX0_numberAt_38 : decode cX0_numberAt 38 = .ok (.ishl, 1) := by decide +kernel
theorem dX0_numberAt_39 : decode cX0_numberAt 39 = .ok (.ior, 1) := by decide +kernel
theorem dX0_numberAt_40 : decode cX0_numberAt 40 = .ok (.aload_n 0, 1) := by decide +kernel
theorem dX0_numberAt_41 : decode cX0_numberAt 41 = .ok (.getfield 15, 3) := by decide +kernel
theorem dX0_numberAt_44 : decode cX0_numberAt 44 = .ok (.iload_n 3, 1) := by decide +kernel
theorem dX0_numberAt_45 : decode cX0_numberAt 45 = .ok (.iconst 3, 1) := by decide +kernel
theorem dX0_numberAt_46 : decode cX0_numberAt 46 = .ok (.iadd, 1) := by decide +kernel
theorem dX0_numberAt_47 : decode cX0_numberAt 47 = .ok (.iaload, 1) := by decide +kernel
theorem dX0_numberAt_48 : decode cX0_numberAt 48 = .ok (.ior, 1) := by decide +kernel
theorem dX0_numberAt_49 : decode cX0_numberAt 49 = .ok (.ireturn, 1) := by decide +kernel
theorem dX0_setNumber_0 : decode cX0_setNumber 0 = .ok (.iload_n 1, 1) := by decide +kernel
theorem dX0_setNumber_1 : decode cX0_setNumber 1 = .ok (.bipush 48, 2) := by decide +kernel
theorem dX0_setNumber_3 : decode cX0_setNumber 3 = .ok (.imul, 1) := by decide +kernel
theorem dX0_setNumber_4 : decode cX0_setNumber 4 = .ok (.iload_n 2, 1) := by decide +kernel
theorem dX0_setNumber_5 : decode cX0_setNumber 5 = .ok (.iadd, 1) := by decide +kernel
theorem dX0_setNumber_6 : decode cX0_setNumber 6 = .ok (.istore 4, 2) := by decide +kernel
theorem dX0_setNumber_8 : decode cX0_setNumber 8 = .ok (.aload_n 0, 1) := by decide +kernel
theorem dX0_setNumber_9 : decode cX0_setNumber 9 = .ok (.getfield 15, 3) := by decide +kernel
theorem dX0_setNumber_12 : decode cX0_setNumber 12 = .ok (.iload 4, 2) := by decide +kernel
theorem dX0_setNumber_14 : decode cX0_setNumber 14 = .ok (.iload_n 3, 1) := by decide +kernel
theorem dX0_setNumber_15 : decode cX0_setNumber 15 = .ok (.bipush 24, 2) := by decide +kernel
theorem dX0_setNumber_17 : decode cX0_setNumber 17 = .ok (.iushr, 1) := by decide +kernel
theorem dX0_setNumber_18 : decode cX0_setNumber 18 = .ok (.iastore, 1) := by decide +kernel
theorem dX0_setNumber_19 : decode cX0_setNumber 19 = .ok (.aload_n 0, 1) := by decide +kernel
theorem dX0_setNumber_20 : decode cX0_setNumber 20 = .ok (.getfield 15, 3) := by decide +kernel
theorem dX0_setNumber_23 : decode cX0_setNumber 23 = .ok (.iload 4, 2) := by decide +kernel
theorem dX0_setNumber_25 : decode cX0_setNumber 25 = .ok (.iconst 1, 1) := by decide +kernel
theorem dX0_setNumber_26 : decode cX0_setNumber 26 = .ok (.iadd, 1) := by decide +kernel
theorem dX0_setNumber_27 : decode cX0_setNumber 27 = .ok (.iload_n 3, 1) := by decide +kernel
theorem dX0_setNumber_28 : decode cX0_setNumber 28 = .ok (.bipush 16, 2) := by decide +kernel
theorem dX0_setNumber_30 : decode cX0_setNumber 30 = .ok (.iushr, 1) := by decide +kernel
theorem dX0_setNumber_31 : decode cX0_setNumber 31 = .ok (.sipush 255, 3) := by decide +kernel
theorem dX0_setNumber_34 : decode cX0_setNumber 34 = .ok (.iand, 1) := by decide +kernel
theorem dX0_setNumber_35 : decode cX0_setNumber 35 = .ok (.iastore, 1) := by decide +kernel
theorem dX0_setNumber_36 : decode cX0_setNumber 36 = .ok (.aload_n 0, 1) := by decide +kernel
theorem dX0_setNumber_37 : decode cX0_setNumber 37 = .ok (.getfield 15, 3) := by decide +kernel
theorem dX0_setNumber_40 : decode cX0_setNumber 40 = .ok (.iload 4, 2) := by decide +kernel
theorem dX0_setNumber_42 : decode cX0_setNumber 42 = .ok (.iconst 2, 1) := by decide +kernel
theorem dX0_setNumber_43 : decode cX0_setNumber 43 = .ok (.iadd, 1) := by decide +kernel
theorem dX0_setNumber_44 : decode cX0_setNumber 44 = .ok (.iload_n 3, 1) := by decide +kernel
theorem dX0_setNumber_45 : decode cX0_setNumber 45 = .ok (.bipush 8, 2) := by decide +kernel
theorem dX0_setNumber_47 : decode cX0_setNumber 47 = .ok (.iushr, 1) := by decide +kernel
theorem dX0_setNumber_48 : decode cX0_setNumber 48 = .ok (.sipush 255, 3) := by decide +kernel
theorem dX0_setNumber_51 : decode cX0_setNumber 51 = .ok (.iand, 1) := by decide +kernel
theorem dX0_setNumber_52 : decode cX0_setNumber 52 = .ok (.iastore, 1) := by decide +kernel
theorem dX0_setNumber_53 : decode cX0_setNumber 53 = .ok (.aload_n 0, 1) := by decide +kernel
theorem dX0_setNumber_54 : decode cX0_setNumber 54 = .ok (.getfield 15, 3) := by decide +kernel
theorem dX0_setNumber_57 : decode cX0_setNumber 57 = .ok (.iload 4, 2) := by decide +kernel
theorem dX0_setNumber_59 : decode cX0_setNumber 59 = .ok (.iconst 3, 1) := by decide +kernel
theorem dX0_setNumber_60 : decode cX0_setNumber 60 = .ok (.iadd, 1) := by decide +kernel
theorem dX0_setNumber_61 : decode cX0_setNumber 61 = .ok (.iload_n 3, 1) := by decide +kernel
theorem dX0_setNumber_62 : decode cX0_setNumber 62 = .ok (.sipush 255, 3) := by decide +kernel
theorem dX0_setNumber_65 : decode cX0_setNumber 65 = .ok (.iand, 1) := by decide +kernel
theorem dX0_setNumber_66 : decode cX0_setNumber 66 = .ok (.iastore, 1) := by decide +kernel
theorem dX0_setNumber_67 : decode cX0_setNumber 67 = .ok (.return_, 1) := by decide +kernel
set_option maxRecDepth 20000 in
theorem ggX0_begin_J7_fill_fda19 : GoodIn wsX0_begin wsJ7_fill_fda19 := goodIn_r _ [5, 6, 7, 4, 8] (by decide +kernel) (by decide +kernel)
set_option maxRecDepth 20000 in
theorem gX0_begin_J7_fill_fda19 : GoodIn wsX0_begin (va_wsS RX0 19 yJ7_fill_fda19 wsJ7_fill_fda19) := goodIn_app (goodIn_of _ (by decide +kernel)) ggX0_begin_J7_fill_fda19
set_option maxRecDepth 20000 in
theorem ggX0_begin_X0_set : GoodIn wsX0_begin wsX0_set := goodIn_r _ [13, 1, 14, 15] (by decide +kernel) (by decide +kernel)
set_option maxRecDepth 20000 in
theorem gX0_begin_X0_set : GoodIn wsX0_begin (wsV RX0 25 RX0 yX0_set wsX0_set) := goodIn_app (goodIn_of _ (by decide +kernel)) ggX0_begin_X0_set
theorem dX0_begin_0 : decode cX0_begin 0 = .ok (.iload_n 1, 1) := by decide +kernel
theorem dX0_begin_1 : decode cX0_begin 1 = .ok (.bipush 48, 2) := by decide +kernel
theorem dX0_begin_3 : decode cX0_begin 3 = .ok (.imul, 1) := by decide +kernel
theorem dX0_begin_4 : decode cX0_begin 4 = .ok (.istore_n 3, 1) := by decide +kernel
theorem dX0_begin_5 : decode cX0_begin 5 = .ok (.aload_n 0, 1) := by decide +kernel
theorem dX0_begin_6 : decode cX0_begin 6 = .ok (.getfield 15, 3) := by decide +kernel
theorem dX0_begin_9 : decode cX0_begin 9 = .ok (.iload_n 3, 1) := by decide +kernel
theorem dX0_begin_10 : decode cX0_begin 10 = .ok (.iload_n 3, 1) := by decide +kernel
theorem dX0_begin_11 : decode cX0_begin 11 = .ok (.bipush 48, 2) := by decide +kernel
theorem dX0_begin_13 : decode cX0_begin 13 = .ok (.iadd, 1) := by decide +kernel
theorem dX0_begin_14 : decode cX0_begin 14 = .ok (.iconst 0, 1) := by decide +kernel
theorem dX0_begin_15 : decode cX0_begin 15 = .ok (.invokestatic 19, 3) := by decide +kernel
theorem dX0_begin_18 : decode cX0_begin 18 = .ok (.aload_n 0, 1) := by decide +kernel
theorem dX0_begin_19 : decode cX0_begin 19 = .ok (.iload_n 1, 1) := by decide +kernel
theorem dX0_begin_20 : decode cX0_begin 20 = .ok (.iconst 0, 1) := by decide +kernel
theorem dX0_begin_21 : decode cX0_begin 21 = .ok (.iload_n 2, 1) := by decide +kernel
theorem dX0_begin_22 : decode cX0_begin 22 = .ok (.invokevirtual 25, 3) := by decide +kernel
theorem dX0_begin_25 : decode cX0_begin 25 = .ok (.return_, 1) := by decide +kernel
theorem dX0_takePlaces_0 : decode cX0_takePlaces 0 = .ok (.aload_n 0, 1) := by decide +kernel
theorem dX0_takePlaces_1 : decode cX0_takePlaces 1 = .ok (.getfield 15, 3) := by decide +kernel
theorem dX0_takePlaces_4 : decode cX0_takePlaces 4 = .ok (.iload_n 1, 1) := by decide +kernel
theorem dX0_takePlaces_5 : decode cX0_takePlaces 5 = .ok (.bipush 48, 2) := by decide +kernel
theorem dX0_takePlaces_7 : decode cX0_takePlaces 7 = .ok (.imul, 1) := by decide +kernel
theorem dX0_takePlaces_8 : decode cX0_takePlaces 8 = .ok (.iload_n 2, 1) := by decide +kernel
theorem dX0_takePlaces_9 : decode cX0_takePlaces 9 = .ok (.iadd, 1) := by decide +kernel
theorem dX0_takePlaces_10 : decode cX0_takePlaces 10 = .ok (.aload_n 3, 1) := by decide +kernel
theorem dX0_takePlaces_11 : decode cX0_takePlaces 11 = .ok (.iconst 0, 1) := by decide +kernel
theorem dX0_takePlaces_12 : decode cX0_takePlaces 12 = .ok (.bipush 32, 2) := by decide +kernel
theorem dX0_takePlaces_14 : decode cX0_takePlaces 14 = .ok (.invokestatic 29, 3) := by decide +kernel
theorem dX0_takePlaces_17 : decode cX0_takePlaces 17 = .ok (.return_, 1) := by decide +kernel
theorem dX0_setPlaces_0 : decode cX0_setPlaces 0 = .ok (.aload_n 3, 1) := by decide +kernel
theorem dX0_setPlaces_1 : decode cX0_setPlaces 1 = .ok (.iconst 0, 1) := by decide +kernel
theorem dX0_setPlaces_2 : decode cX0_setPlaces 2 = .ok (.aload_n 0, 1) := by decide +kernel
theorem dX0_setPlaces_3 : decode cX0_setPlaces 3 = .ok (.getfield 15, 3) := by decide +kernel
theorem dX0_setPlaces_6 : decode cX0_setPlaces 6 = .ok (.iload_n 1, 1) := by decide +kernel
theorem dX0_setPlaces_7 : decode cX0_setPlaces 7 = .ok (.bipush 48, 2) := by decide +kernel
theorem dX0_setPlaces_9 : decode cX0_setPlaces 9 = .ok (.imul, 1) := by decide +kernel
theorem dX0_setPlaces_10 : decode cX0_setPlaces 10 = .ok (.iload_n 2, 1) := by decide +kernel
theorem dX0_setPlaces_11 : decode cX0_setPlaces 11 = .ok (.iadd, 1) := by decide +kernel
theorem dX0_setPlaces_12 : decode cX0_setPlaces 12 = .ok (.bipush 32, 2) := by decide +kernel
theorem dX0_setPlaces_14 : decode cX0_setPlaces 14 = .ok (.invokestatic 29, 3) := by decide +kernel
theorem dX0_setPlaces_17 : decode cX0_setPlaces 17 = .ok (.return_, 1) := by decide +kernel
set_option maxRecDepth 20000 in
theorem ggX0_seal_X0_sumOf : GoodIn wsX0_seal wsX0_sumOf := goodIn_r _ [5, 6, 7, 8, 9, 4, 10, 11, 16, 17] (by decide +kernel) (by decide +kernel)
set_option maxRecDepth 20000 in
theorem gX0_seal_X0_sumOf : GoodIn wsX0_seal (wsV RX0 35 RX0 yX0_sumOf wsX0_sumOf) := goodIn_app (goodIn_of _ (by decide +kernel)) ggX0_seal_X0_sumOf
set_option maxRecDepth 20000 in
theorem ggX0_seal_X0_setNumber : GoodIn wsX0_seal wsX0_setNumber := goodIn_r _ [15, 11, 16, 17] (by decide +kernel) (by decide +kernel)
set_option maxRecDepth 20000 in
theorem gX0_seal_X0_setNumber : GoodIn wsX0_seal (wsV RX0 39 RX0 yX0_setNumber wsX0_setNumber) := goodIn_app (goodIn_of _ (by decide +kernel)) ggX0_seal_X0_setNumber
theorem dX0_seal_0 : decode cX0_seal 0 = .ok (.aload_n 0, 1) := by decide +kernel
theorem dX0_seal_1 : decode cX0_seal 1 = .ok (.iload_n 1, 1) := by decide +kernel
theorem dX0_seal_2 : decode cX0_seal 2 = .ok (.bipush 44, 2) := by decide +kernel
theorem dX0_seal_4 : decode cX0_seal 4 = .ok (.aload_n 0, 1) := by decide +kernel
theorem dX0_seal_5 : decode cX0_seal 5 = .ok (.iload_n 1, 1) := by decide +kernel
theorem dX0_seal_6 : decode cX0_seal 6 = .ok (.invokevirtual 35, 3) := by decide +kernel
theorem dX0_seal_9 : decode cX0_seal 9 = .ok (.invokevirtual 39, 3) := by decide +kernel
theorem dX0_seal_12 : decode cX0_seal 12 = .ok (.return_, 1) := by decide +kernel
set_option maxRecDepth 20000 in
theorem ggX0_isRight_X0_at : GoodIn wsX0_isRight wsX0_at := goodIn_r _ [5, 6, 29, 30] (by decide +kernel) (by decide +kernel)
set_option maxRecDepth 20000 in
theorem gX0_isRight_X0_at : GoodIn wsX0_isRight (wsV RX0 42 RX0 yX0_at wsX0_at) := goodIn_app (goodIn_of _ (by decide +kernel)) ggX0_isRight_X0_at
set_option maxRecDepth 20000 in
theorem ggX0_isRight_X0_numberAt : GoodIn wsX0_isRight wsX0_numberAt := goodIn_r _ [10, 6, 29, 30] (by decide +kernel) (by decide +kernel)
set_option maxRecDepth 20000 in
theorem gX0_isRight_X0_numberAt : GoodIn wsX0_isRight (wsV RX0 46 RX0 yX0_numberAt wsX0_numberAt) := goodIn_app (goodIn_of _ (by decide +kernel)) ggX0_isRight_X0_numberAt
set_option maxRecDepth 20000 in
theorem ggX0_isRight_X0_sumOf : GoodIn wsX0_isRight wsX0_sumOf := goodIn_r _ [14, 15, 1, 2, 3, 4, 5, 6, 29, 30] (by decide +kernel) (by decide +kernel)
set_option maxRecDepth 20000 in
theorem gX0_isRight_X0_sumOf : GoodIn wsX0_isRight (wsV RX0 35 RX0 yX0_sumOf wsX0_sumOf) := goodIn_app (goodIn_of _ (by decide +kernel)) ggX0_isRight_X0_sumOf
set_option maxRecDepth 20000 in
theorem ggX0_isRight_X0_tellsVersions : GoodIn wsX0_isRight wsX0_tellsVersions := goodIn_r _ [19, 20, 7, 8, 9, 4, 10, 6, 21, 22, 23, 29, 30] (by decide +kernel) (by decide +kernel)
set_option maxRecDepth 20000 in
theorem gX0_isRight_X0_tellsVersions : GoodIn wsX0_isRight (wsV RX0 49 RX0 yX0_tellsVersions wsX0_tellsVersions) := goodIn_app (goodIn_of _ (by decide +kernel)) ggX0_isRight_X0_tellsVersions
set_option maxRecDepth 20000 in
theorem ggX0_isRight_X0_tellsRightPages : GoodIn wsX0_isRight wsX0_tellsRightPages := goodIn_r _ [27, 28, 1, 2, 3, 4, 5, 6, 29, 30] (by decide +kernel) (by decide +kernel)
set_option maxRecDepth 20000 in
theorem gX0_isRight_X0_tellsRightPages : GoodIn wsX0_isRight (wsV RX0 53 RX0 yX0_tellsRightPages wsX0_tellsRightPages) := goodIn_app (goodIn_of _ (by decide +kernel)) ggX0_isRight_X0_tellsRightPages
theorem dX0_isRight_0 : decode cX0_isRight 0 = .ok (.aload_n 0, 1) := by decide +kernel
theorem dX0_isRight_1 : decode cX0_isRight 1 = .ok (.iload_n 1, 1) := by decide +kernel
theorem dX0_isRight_2 : decode cX0_isRight 2 = .ok (.iconst 0, 1) := by decide +kernel
theorem dX0_isRight_3 : decode cX0_isRight 3 = .ok (.invokevirtual 42, 3) := by decide +kernel
theorem dX0_isRight_6 : decode cX0_isRight 6 = .ok (.iload_n 2, 1) := by decide +kernel
theorem dX0_isRight_7 : decode cX0_isRight 7 = .ok (.if_icmp .ne 18, 3) := by decide +kernel
theorem dX0_isRight_10 : decode cX0_isRight 10 = .ok (.aload_n 0, 1) := by decide +kernel
theorem dX0_isRight_11 : decode cX0_isRight 11 = .ok (.iload_n 1, 1) := by decide +kernel
theorem dX0_isRight_12 : decode cX0_isRight 12 = .ok (.bipush 44, 2) := by decide +kernel
theorem dX0_isRight_14 : decode cX0_isRight 14 = .ok (.invokevirtual 46, 3) := by decide +kernel
theorem dX0_isRight_17 : decode cX0_isRight 17 = .ok (.aload_n 0, 1) := by decide +kernel
theorem dX0_isRight_18 : decode cX0_isRight 18 = .ok (.iload_n 1, 1) := by decide +kernel
theorem dX0_isRight_19 : decode cX0_isRight 19 = .ok (.invokevirtual 35, 3) := by decide +kernel
theorem dX0_isRight_22 : decode cX0_isRight 22 = .ok (.if_icmp .eq 5, 3) := by decide +kernel
theorem dX0_isRight_25 : decode cX0_isRight 25 = .ok (.iconst 0, 1) := by decide +kernel
theorem dX0_isRight_26 : decode cX0_isRight 26 = .ok (.ireturn, 1) := by decide +kernel
theorem dX0_isRight_27 : decode cX0_isRight 27 = .ok (.iload_n 2, 1) := by decide +kernel
theorem dX0_isRight_28 : decode cX0_isRight 28 = .ok (.iconst 1, 1) := by decide +kernel
theorem dX0_isRight_29 : decode cX0_isRight 29 = .ok (.if_icmp .ne 29, 3) := by decide +kernel
theorem dX0_isRight_32 : decode cX0_isRight 32 = .ok (.aload_n 0, 1) := by decide +kernel
theorem dX0_isRight_33 : decode cX0_isRight 33 = .ok (.iload_n 1, 1) := by decide +kernel
theorem dX0_isRight_34 : decode cX0_isRight 34 = .ok (.invokevirtual 49, 3) := by decide +kernel
theorem dX0_isRight_37 : decode cX0_isRight 37 = .ok (.ifCond .eq 19, 3) := by decide +kernel
theorem dX0_isRight_40 : decode cX0_isRight 40 = .ok (.aload_n 0, 1) := by decide +kernel
theorem dX0_isRight_41 : decode cX0_isRight 41 = .ok (.iload_n 1, 1) := by decide +kernel
theorem dX0_isRight_42 : decode cX0_isRight 42 = .ok (.bipush 9, 2) := by decide +kernel
theorem dX0_isRight_44 : decode cX0_isRight 44 = .ok (.bipush 32, 2) := by decide +kernel
theorem dX0_isRight_46 : decode cX0_isRight 46 = .ok (.invokevirtual 53, 3) := by decide +kernel
theorem dX0_isRight_49 : decode cX0_isRight 49 = .ok (.ifCond .eq 7, 3) := by decide +kernel
theorem dX0_isRight_52 : decode cX0_isRight 52 = .ok (.iconst 1, 1) := by decide +kernel
theorem dX0_isRight_53 : decode cX0_isRight 53 = .ok (.goto 4, 3) := by decide +kernel
theorem dX0_isRight_56 : decode cX0_isRight 56 = .ok (.iconst 0, 1) := by decide +kernel
theorem dX0_isRight_57 : decode cX0_isRight 57 = .ok (.ireturn, 1) := by decide +kernel
theorem dX0_isRight_58 : decode cX0_isRight 58 = .ok (.iload_n 2, 1) := by decide +kernel
theorem dX0_isRight_59 : decode cX0_isRight 59 = .ok (.iconst 2, 1) := by decide +kernel
theorem dX0_isRight_60 : decode cX0_isRight 60 = .ok (.if_icmp .ne 12, 3) := by decide +kernel
theorem dX0_isRight_63 : decode cX0_isRight 63 = .ok (.aload_n 0, 1) := by decide +kernel
theorem dX0_isRight_64 : decode cX0_isRight 64 = .ok (.iload_n 1, 1) := by decide +kernel
theorem dX0_isRight_65 : decode cX0_isRight 65 = .ok (.iconst 2, 1) := by decide +kernel
theorem dX0_isRight_66 : decode cX0_isRight 66 = .ok (.bipush 32, 2) := by decide +kernel
theorem dX0_isRight_68 : decode cX0_isRight 68 = .ok (.invokevirtual 53, 3) := by decide +kernel
theorem dX0_isRight_71 : decode cX0_isRight 71 = .ok (.ireturn, 1) := by decide +kernel
theorem dX0_isRight_72 : decode cX0_isRight 72 = .ok (.aload_n 0, 1) := by decide +kernel
theorem dX0_isRight_73 : decode cX0_isRight 73 = .ok (.iload_n 1, 1) := by decide +kernel
theorem dX0_isRight_74 : decode cX0_isRight 74 = .ok (.iconst 3, 1) := by decide +kernel
theorem dX0_isRight_75 : decode cX0_isRight 75 = .ok (.invokevirtual 42, 3) := by decide +kernel
theorem dX0_isRight_78 : decode cX0_isRight 78 = .ok (.bipush 32, 2) := by decide +kernel
theorem dX0_isRight_80 : decode cX0_isRight 80 = .ok (.if_icmp .gt 7, 3) := by decide +kernel
theorem dX0_isRight_83 : decode cX0_isRight 83 = .ok (.iconst 1, 1) := by decide +kernel
theorem dX0_isRight_84 : decode cX0_isRight 84 = .ok (.goto 4, 3) := by decide +kernel
theorem dX0_isRight_87 : decode cX0_isRight 87 = .ok (.iconst 0, 1) := by decide +kernel
theorem dX0_isRight_88 : decode cX0_isRight 88 = .ok (.ireturn, 1) := by decide +kernel
set_option maxRecDepth 20000 in
theorem ggX0_pagesTold_X0_at : GoodIn wsX0_pagesTold wsX0_at := goodIn_r _ [5, 6, 7, 8] (by decide +kernel) (by decide +kernel)
set_option maxRecDepth 20000 in
theorem gX0_pagesTold_X0_at : GoodIn wsX0_pagesTold (wsV RX0 42 RX0 yX0_at wsX0_at) := goodIn_app (goodIn_of _ (by decide +kernel)) ggX0_pagesTold_X0_at
theorem dX0_pagesTold_0 : decode cX0_pagesTold 0 = .ok (.iconst 0, 1) := by decide +kernel
theorem dX0_pagesTold_1 : decode cX0_pagesTold 1 = .ok (.istore 4, 2) := by decide +kernel
theorem dX0_pagesTold_3 : decode cX0_pagesTold 3 = .ok (.iconst 0, 1) := by decide +kernel
theorem dX0_pagesTold_4 : decode cX0_pagesTold 4 = .ok (.istore 5, 2) := by decide +kernel
theorem dX0_pagesTold_6 : decode cX0_pagesTold 6 = .ok (.iload 5, 2) := by decide +kernel
theorem dX0_pagesTold_8 : decode cX0_pagesTold 8 = .ok (.iload_n 3, 1) := by decide +kernel
theorem dX0_pagesTold_9 : decode cX0_pagesTold 9 = .ok (.if_icmp .ge 24, 3) := by decide +kernel
theorem dX0_pagesTold_12 : decode cX0_pagesTold 12 = .ok (.aload_n 0, 1) := by decide +kernel
theorem dX0_pagesTold_13 : decode cX0_pagesTold 13 = .ok (.iload_n 1, 1) := by decide +kernel
theorem dX0_pagesTold_14 : decode cX0_pagesTold 14 = .ok (.iload_n 2, 1) := by decide +kernel
theorem dX0_pagesTold_15 : decode cX0_pagesTold 15 = .ok (.iload 5, 2) := by decide +kernel
theorem dX0_pagesTold_17 : decode cX0_pagesTold 17 = .ok (.iadd, 1) := by decide +kernel
theorem dX0_pagesTold_18 : decode cX0_pagesTold 18 = .ok (.invokevirtual 42, 3) := by decide +kernel
theorem dX0_pagesTold_21 : decode cX0_pagesTold 21 = .ok (.ifCond .eq 6, 3) := by decide +kernel
theorem dX0_pagesTold_24 : decode cX0_pagesTold 24 = .ok (.iinc 4 1, 3) := by decide +kernel
theorem dX0_pagesTold_27 : decode cX0_pagesTold 27 = .ok (.iinc 5 1, 3) := by decide +kernel
theorem dX0_pagesTold_30 : decode cX0_pagesTold 30 = .ok (.goto (-24), 3) := by decide +kernel
theorem dX0_pagesTold_33 : decode cX0_pagesTold 33 = .ok (.iload 4, 2) := by decide +kernel
theorem dX0_pagesTold_35 : decode cX0_pagesTold 35 = .ok (.ireturn, 1) := by decide +kernel
set_option maxRecDepth 20000 in
theorem ggX0_sumOf_X0_at : GoodIn wsX0_sumOf wsX0_at := goodIn_r _ [6, 7, 8, 9] (by decide +kernel) (by decide +kernel)
set_option maxRecDepth 20000 in
theorem gX0_sumOf_X0_at : GoodIn wsX0_sumOf (wsV RX0 42 RX0 yX0_at wsX0_at) := goodIn_app (goodIn_of _ (by decide +kernel)) ggX0_sumOf_X0_at
theorem dX0_sumOf_0 : decode cX0_sumOf 0 = .ok (.iconst 0, 1) := by decide +kernel
theorem dX0_sumOf_1 : decode cX0_sumOf 1 = .ok (.istore_n 2, 1) := by decide +kernel
theorem dX0_sumOf_2 : decode cX0_sumOf 2 = .ok (.iconst 0, 1) := by decide +kernel
theorem dX0_sumOf_3 : decode cX0_sumOf 3 = .ok (.istore_n 3, 1) := by decide +kernel
theorem dX0_sumOf_4 : decode cX0_sumOf 4 = .ok (.iload_n 3, 1) := by decide +kernel
theorem dX0_sumOf_5 : decode cX0_sumOf 5 = .ok (.bipush 44, 2) := by decide +kernel
theorem dX0_sumOf_7 : decode cX0_sumOf 7 = .ok (.if_icmp .ge 34, 3) := by decide +kernel
theorem dX0_sumOf_10 : decode cX0_sumOf 10 = .ok (.iload_n 2, 1) := by decide +kernel
theorem dX0_sumOf_11 : decode cX0_sumOf 11 = .ok (.aload_n 0, 1) := by decide +kernel
theorem dX0_sumOf_12 : decode cX0_sumOf 12 = .ok (.iload_n 1, 1) := by decide +kernel
theorem dX0_sumOf_13 : decode cX0_sumOf 13 = .ok (.iload_n 3, 1) := by decide +kernel
theorem dX0_sumOf_14 : decode cX0_sumOf 14 = .ok (.invokevirtual 42, 3) := by decide +kernel
theorem dX0_sumOf_17 : decode cX0_sumOf 17 = .ok (.ixor, 1) := by decide +kernel
theorem dX0_sumOf_18 : decode cX0_sumOf 18 = .ok (.istore 4, 2) := by decide +kernel
theorem dX0_sumOf_20 : decode cX0_sumOf 20 = .ok (.iload 4, 2) := by decide +kernel
theorem dX0_sumOf_22 : decode cX0_sumOf 22 = .ok (.bipush 9, 2) := by decide +kernel
theorem dX0_sumOf_24 : decode cX0_sumOf 24 = .ok (.ishl, 1) := by decide +kernel
theorem dX0_sumOf_25 : decode cX0_sumOf 25 = .ok (.iload 4, 2) := by decide +kernel
theorem dX0_sumOf_27 : decode cX0_sumOf 27 = .ok (.bipush 23, 2) := by decide +kernel
theorem dX0_sumOf_29 : decode cX0_sumOf 29 = .ok (.iushr, 1) := by decide +kernel
theorem dX0_sumOf_30 : decode cX0_sumOf 30 = .ok (.ior, 1) := by decide +kernel
theorem dX0_sumOf_31 : decode cX0_sumOf 31 = .ok (.ldc 57, 2) := by decide +kernel
theorem dX0_sumOf_33 : decode cX0_sumOf 33 = .ok (.imul, 1) := by decide +kernel
theorem dX0_sumOf_34 : decode cX0_sumOf 34 = .ok (.istore_n 2, 1) := by decide +kernel
theorem dX0_sumOf_35 : decode cX0_sumOf 35 = .ok (.iinc 3 1, 3) := by decide +kernel
theorem dX0_sumOf_38 : decode cX0_sumOf 38 = .ok (.goto (-34), 3) := by decide +kernel
theorem dX0_sumOf_41 : decode cX0_sumOf 41 = .ok (.iload_n 2, 1) := by decide +kernel
theorem dX0_sumOf_42 : decode cX0_sumOf 42 = .ok (.ireturn, 1) := by decide +kernel
set_option maxRecDepth 20000 in
theorem ggX0_tellsVersions_X0_numberAt : GoodIn wsX0_tellsVersions wsX0_numberAt := goodIn_r _ [6, 7, 11, 12] (by decide +kernel) (by decide +kernel)
set_option maxRecDepth 20000 in
theorem gX0_tellsVersions_X0_numberAt : GoodIn wsX0_tellsVersions (wsV RX0 46 RX0 yX0_numberAt wsX0_numberAt) := goodIn_app (goodIn_of _ (by decide +kernel)) ggX0_tellsVersions_X0_numberAt
set_option maxRecDepth 20000 in
theorem ggX0_tellsVersions_X3_pageOfRoot : GoodIn wsX0_tellsVersions wsX3_pageOfRoot := goodIn_r _ [10] (by decide +kernel) (by decide +kernel)
set_option maxRecDepth 20000 in
theorem gX0_tellsVersions_X3_pageOfRoot_n59 : GoodIn wsX0_tellsVersions (wsX3_pageOfRoot) := ggX0_tellsVersions_X3_pageOfRoot
theorem dX0_tellsVersions_0 : decode cX0_tellsVersions 0 = .ok (.aload_n 0, 1) := by decide +kernel
theorem dX0_tellsVersions_1 : decode cX0_tellsVersions 1 = .ok (.iload_n 1, 1) := by decide +kernel
theorem dX0_tellsVersions_2 : decode cX0_tellsVersions 2 = .ok (.iconst 1, 1) := by decide +kernel
theorem dX0_tellsVersions_3 : decode cX0_tellsVersions 3 = .ok (.invokevirtual 46, 3) := by decide +kernel
theorem dX0_tellsVersions_6 : decode cX0_tellsVersions 6 = .ok (.istore_n 2, 1) := by decide +kernel
theorem dX0_tellsVersions_7 : decode cX0_tellsVersions 7 = .ok (.aload_n 0, 1) := by decide +kernel
theorem dX0_tellsVersions_8 : decode cX0_tellsVersions 8 = .ok (.iload_n 1, 1) := by decide +kernel
theorem dX0_tellsVersions_9 : decode cX0_tellsVersions 9 = .ok (.iconst 5, 1) := by decide +kernel
theorem dX0_tellsVersions_10 : decode cX0_tellsVersions 10 = .ok (.invokevirtual 46, 3) := by decide +kernel
theorem dX0_tellsVersions_13 : decode cX0_tellsVersions 13 = .ok (.istore_n 3, 1) := by decide +kernel
theorem dX0_tellsVersions_14 : decode cX0_tellsVersions 14 = .ok (.iload_n 2, 1) := by decide +kernel
theorem dX0_tellsVersions_15 : decode cX0_tellsVersions 15 = .ok (.iconst 1, 1) := by decide +kernel
theorem dX0_tellsVersions_16 : decode cX0_tellsVersions 16 = .ok (.if_icmp .lt 39, 3) := by decide +kernel
theorem dX0_tellsVersions_19 : decode cX0_tellsVersions 19 = .ok (.iload_n 2, 1) := by decide +kernel
theorem dX0_tellsVersions_20 : decode cX0_tellsVersions 20 = .ok (.ldc 58, 2) := by decide +kernel
theorem dX0_tellsVersions_22 : decode cX0_tellsVersions 22 = .ok (.if_icmp .gt 33, 3) := by decide +kernel
theorem dX0_tellsVersions_25 : decode cX0_tellsVersions 25 = .ok (.iload_n 2, 1) := by decide +kernel
theorem dX0_tellsVersions_26 : decode cX0_tellsVersions 26 = .ok (.invokestatic 59, 3) := by decide +kernel
theorem dX0_tellsVersions_29 : decode cX0_tellsVersions 29 = .ok (.iload_n 1, 1) := by decide +kernel
theorem dX0_tellsVersions_30 : decode cX0_tellsVersions 30 = .ok (.if_icmp .ne 25, 3) := by decide +kernel
theorem dX0_tellsVersions_33 : decode cX0_tellsVersions 33 = .ok (.iload_n 3, 1) := by decide +kernel
theorem dX0_tellsVersions_34 : decode cX0_tellsVersions 34 = .ok (.iconst 1, 1) := by decide +kernel
theorem dX0_tellsVersions_35 : decode cX0_tellsVersions 35 = .ok (.if_icmp .lt 20, 3) := by decide +kernel
theorem dX0_tellsVersions_38 : decode cX0_tellsVersions 38 = .ok (.iload_n 3, 1) := by decide +kernel
theorem dX0_tellsVersions_39 : decode cX0_tellsVersions 39 = .ok (.iload_n 2, 1) := by decide +kernel
theorem dX0_tellsVersions_40 : decode cX0_tellsVersions 40 = .ok (.if_icmp .gt 15, 3) := by decide +kernel
theorem dX0_tellsVersions_43 : decode cX0_tellsVersions 43 = .ok (.iload_n 3, 1) := by decide +kernel
theorem dX0_tellsVersions_44 : decode cX0_tellsVersions 44 = .ok (.iload_n 2, 1) := by decide +kernel
theorem dX0_tellsVersions_45 : decode cX0_tellsVersions 45 = .ok (.bipush 7, 2) := by decide +kernel
theorem dX0_tellsVersions_47 : decode cX0_tellsVersions 47 = .ok (.isub, 1) := by decide +kernel
theorem dX0_tellsVersions_48 : decode cX0_tellsVersions 48 = .ok (.if_icmp .lt 7, 3) := by decide +kernel
theorem dX0_tellsVersions_51 : decode cX0_tellsVersions 51 = .ok (.iconst 1, 1) := by decide +kernel
theorem dX0_tellsVersions_52 : decode cX0_tellsVersions 52 = .ok (.goto 4, 3) := by decide +kernel
theorem dX0_tellsVersions_55 : decode cX0_tellsVersions 55 = .ok (.iconst 0, 1) := by decide +kernel
theorem dX0_tellsVersions_56 : decode cX0_tellsVersions 56 = .ok (.ireturn, 1) := by decide +kernel
set_option maxRecDepth 20000 in
theorem ggX0_tellsRightPages_X0_at : GoodIn wsX0_tellsRightPages wsX0_at := goodIn_r _ [6, 7, 8, 9] (by decide +kernel) (by decide +kernel)
set_option maxRecDepth 20000 in
theorem gX0_tellsRightPages_X0_at : GoodIn wsX0_tellsRightPages (wsV RX0 42 RX0 yX0_at wsX0_at) := goodIn_app (goodIn_of _ (by decide +kernel)) ggX0_tellsRightPages_X0_at
theorem dX0_tellsRightPages_0 : decode cX0_tellsRightPages 0 = .ok (.iconst 0, 1) := by decide +kernel
theorem dX0_tellsRightPages_1 : decode cX0_tellsRightPages 1 = .ok (.istore 4, 2) := by decide +kernel
theorem dX0_tellsRightPages_3 : decode cX0_tellsRightPages 3 = .ok (.iload 4, 2) := by decide +kernel
theorem dX0_tellsRightPages_5 : decode cX0_tellsRightPages 5 = .ok (.iload_n 3, 1) := by decide +kernel
theorem dX0_tellsRightPages_6 : decode cX0_tellsRightPages 6 = .ok (.if_icmp .ge 43, 3) := by decide +kernel
theorem dX0_tellsRightPages_9 : decode cX0_tellsRightPages 9 = .ok (.aload_n 0, 1) := by decide +kernel
theorem dX0_tellsRightPages_10 : decode cX0_tellsRightPages 10 = .ok (.iload_n 1, 1) := by decide +kernel
theorem dX0_tellsRightPages_11 : decode cX0_tellsRightPages 11 = .ok (.iload_n 2, 1) := by decide +kernel
theorem dX0_tellsRightPages_12 : decode cX0_tellsRightPages 12 = .ok (.iload 4, 2) := by decide +kernel
theorem dX0_tellsRightPages_14 : decode cX0_tellsRightPages 14 = .ok (.iadd, 1) := by decide +kernel
theorem dX0_tellsRightPages_15 : decode cX0_tellsRightPages 15 = .ok (.invokevirtual 42, 3) := by decide +kernel
theorem dX0_tellsRightPages_18 : decode cX0_tellsRightPages 18 = .ok (.istore 5, 2) := by decide +kernel
theorem dX0_tellsRightPages_20 : decode cX0_tellsRightPages 20 = .ok (.iload 5, 2) := by decide +kernel
theorem dX0_tellsRightPages_22 : decode cX0_tellsRightPages 22 = .ok (.ifCond .eq 21, 3) := by decide +kernel
theorem dX0_tellsRightPages_25 : decode cX0_tellsRightPages 25 = .ok (.iload 5, 2) := by decide +kernel
theorem dX0_tellsRightPages_27 : decode cX0_tellsRightPages 27 = .ok (.bipush 8, 2) := by decide +kernel
theorem dX0_tellsRightPages_29 : decode cX0_tellsRightPages 29 = .ok (.if_icmp .lt 12, 3) := by decide +kernel
theorem dX0_tellsRightPages_32 : decode cX0_tellsRightPages 32 = .ok (.iload 5, 2) := by decide +kernel
theorem dX0_tellsRightPages_34 : decode cX0_tellsRightPages 34 = .ok (.aload_n 0, 1) := by decide +kernel
theorem dX0_tellsRightPages_35 : decode cX0_tellsRightPages 35 = .ok (.getfield 9, 3) := by decide +kernel
theorem dX0_tellsRightPages_38 : decode cX0_tellsRightPages 38 = .ok (.if_icmp .lt 5, 3) := by decide +kernel
theorem dX0_tellsRightPages_41 : decode cX0_tellsRightPages 41 = .ok (.iconst 0, 1) := by decide +kernel
theorem dX0_tellsRightPages_42 : decode cX0_tellsRightPages 42 = .ok (.ireturn, 1) := by decide +kernel
theorem dX0_tellsRightPages_43 : decode cX0_tellsRightPages 43 = .ok (.iinc 4 1, 3) := by decide +kernel
theorem dX0_tellsRightPages_46 : decode cX0_tellsRightPages 46 = .ok (.goto (-43), 3) := by decide +kernel
theorem dX0_tellsRightPages_49 : decode cX0_tellsRightPages 49 = .ok (.iconst 1, 1) := by decide +kernel
theorem dX0_tellsRightPages_50 : decode cX0_tellsRightPages 50 = .ok (.ireturn, 1) := by decide +kernel
theorem dX1_init_0 : decode cX1_init 0 = .ok (.aload_n 0, 1) := by decide +kernel
theorem dX1_init_1 : decode cX1_init 1 = .ok (.invokespecial 3, 3) := by decide +kernel
theorem dX1_init_4 : decode cX1_init 4 = .ok (.aload_n 0, 1) := by decide +kernel
theorem dX1_init_5 : decode cX1_init 5 = .ok (.iconst 0, 1) := by decide +kernel
theorem dX1_init_6 : decode cX1_init 6 = .ok (.putfield 9, 3) := by decide +kernel
theorem dX1_init_9 : decode cX1_init 9 = .ok (.aload_n 0, 1) := by decide +kernel
theorem dX1_init_10 : decode cX1_init 10 = .ok (.iconst (-1), 1) := by decide +kernel
theorem dX1_init_11 : decode cX1_init 11 = .ok (.putfield 15, 3) := by decide +kernel
theorem dX1_init_14 : decode cX1_init 14 = .ok (.aload_n 0, 1) := by decide +kernel
theorem dX1_init_15 : decode cX1_init 15 = .ok (.iconst 0, 1) := by decide +kernel
theorem dX1_init_16 : decode cX1_init 16 = .ok (.putfield 19, 3) := by decide +kernel
theorem dX1_init_19 : decode cX1_init 19 = .ok (.return_, 1) := by decide +kernel
theorem dX1_isOff_0 : decode cX1_isOff 0 = .ok (.aload_n 0, 1) := by decide +kernel
theorem dX1_isOff_1 : decode cX1_isOff 1 = .ok (.getfield 9, 3) := by decide +kernel
theorem dX1_isOff_4 : decode cX1_isOff 4 = .ok (.ireturn, 1) := by decide +kernel
theorem dX1_pagesWritten_0 : decode cX1_pagesWritten 0 = .ok (.aload_n 0, 1) := by decide +kernel
theorem dX1_pagesWritten_1 : decode cX1_pagesWritten 1 = .ok (.getfield 19, 3) := by decide +kernel
theorem dX1_pagesWritten_4 : decode cX1_pagesWritten 4 = .ok (.ireturn, 1) := by decide +kernel
theorem dX1_failAfter_0 : decode cX1_failAfter 0 = .ok (.aload_n 0, 1) := by decide +kernel
theorem dX1_failAfter_1 : decode cX1_failAfter 1 = .ok (.iload_n 1, 1) := by decide +kernel
theorem dX1_failAfter_2 : decode cX1_failAfter 2 = .ok (.putfield 15, 3) := by decide +kernel
theorem dX1_failAfter_5 : decode cX1_failAfter 5 = .ok (.aload_n 0, 1) := by decide +kernel
theorem dX1_failAfter_6 : decode cX1_failAfter 6 = .ok (.iload_n 1, 1) := by decide +kernel
theorem dX1_failAfter_7 : decode cX1_failAfter 7 = .ok (.ifCond .ne 7, 3) := by decide +kernel
theorem dX1_failAfter_10 : decode cX1_failAfter 10 = .ok (.iconst 1, 1) := by decide +kernel
theorem dX1_failAfter_11 : decode cX1_failAfter 11 = .ok (.goto 4, 3) := by decide +kernel
theorem dX1_failAfter_14 : decode cX1_failAfter 14 = .ok (.iconst 0, 1) := by decide +kernel
theorem dX1_failAfter_15 : decode cX1_failAfter 15 = .ok (.putfield 9, 3) := by decide +kernel
theorem dX1_failAfter_18 : decode cX1_failAfter 18 = .ok (.return_, 1) := by decide +kernel
theorem dX1_usePage_0 : decode cX1_usePage 0 = .ok (.aload_n 0, 1) := by decide +kernel
theorem dX1_usePage_1 : decode cX1_usePage 1 = .ok (.dup, 1) := by decide +kernel
theorem dX1_usePage_2 : decode cX1_usePage 2 = .ok (.getfield 19, 3) := by decide +kernel
theorem dX1_usePage_5 : decode cX1_usePage 5 = .ok (.iconst 1, 1) := by decide +kernel
theorem dX1_usePage_6 : decode cX1_usePage 6 = .ok (.iadd, 1) := by decide +kernel
theorem dX1_usePage_7 : decode cX1_usePage 7 = .ok (.putfield 19, 3) := by decide +kernel
theorem dX1_usePage_10 : decode cX1_usePage 10 = .ok (.aload_n 0, 1) := by decide +kernel
theorem dX1_usePage_11 : decode cX1_usePage 11 = .ok (.getfield 15, 3) := by decide +kernel
theorem dX1_usePage_14 : decode cX1_usePage 14 = .ok (.ifCond .le 29, 3) := by decide +kernel
theorem dX1_usePage_17 : decode cX1_usePage 17 = .ok (.aload_n 0, 1) := by decide +kernel
theorem dX1_usePage_18 : decode cX1_usePage 18 = .ok (.dup, 1) := by decide +kernel
theorem dX1_usePage_19 : decode cX1_usePage 19 = .ok (.getfield 15, 3) := by decide +kernel
theorem dX1_usePage_22 : decode cX1_usePage 22 = .ok (.iconst 1, 1) := by decide +kernel
theorem dX1_usePage_23 : decode cX1_usePage 23 = .ok (.isub, 1) := by decide +kernel
theorem dX1_usePage_24 : decode cX1_usePage 24 = .ok (.putfield 15, 3) := by decide +kernel
theorem dX1_usePage_27 : decode cX1_usePage 27 = .ok (.aload_n 0, 1) := by decide +kernel
theorem dX1_usePage_28 : decode cX1_usePage 28 = .ok (.aload_n 0, 1) := by decide +kernel
theorem dX1_usePage_29 : decode cX1_usePage 29 = .ok (.getfield 15, 3) := by decide +kernel
theorem dX1_usePage_32 : decode cX1_usePage 32 = .ok (.ifCond .ne 7, 3) := by decide +kernel
theorem dX1_usePage_35 : decode cX1_usePage 35 = .ok (.iconst 1, 1) := by decide +kernel
theorem dX1_usePage_36 : decode cX1_usePage 36 = .ok (.goto 4, 3) := by decide +kernel
theorem dX1_usePage_39 : decode cX1_usePage 39 = .ok (.iconst 0, 1) := by decide +kernel
theorem dX1_usePage_40 : decode cX1_usePage 40 = .ok (.putfield 9, 3) := by decide +kernel
theorem dX1_usePage_43 : decode cX1_usePage 43 = .ok (.return_, 1) := by decide +kernel
theorem dX1_restore_0 : decode cX1_restore 0 = .ok (.aload_n 0, 1) := by decide +kernel
theorem dX1_restore_1 : decode cX1_restore 1 = .ok (.iconst 0, 1) := by decide +kernel
theorem dX1_restore_2 : decode cX1_restore 2 = .ok (.putfield 9, 3) := by decide +kernel
theorem dX1_restore_5 : decode cX1_restore 5 = .ok (.aload_n 0, 1) := by decide +kernel
theorem dX1_restore_6 : decode cX1_restore 6 = .ok (.iconst (-1), 1) := by decide +kernel
theorem dX1_restore_7 : decode cX1_restore 7 = .ok (.putfield 15, 3) := by decide +kernel
theorem dX1_restore_10 : decode cX1_restore 10 = .ok (.return_, 1) := by decide +kernel
theorem dX2_init_0 : decode cX2_init 0 = .ok (.aload_n 0, 1) := by decide +kernel
theorem dX2_init_1 : decode cX2_init 1 = .ok (.invokespecial 3, 3) := by decide +kernel
theorem dX2_init_4 : decode cX2_init 4 = .ok (.aload_n 0, 1) := by decide +kernel
theorem dX2_init_5 : decode cX2_init 5 = .ok (.iload_n 1, 1) := by decide +kernel
theorem dX2_init_6 : decode cX2_init 6 = .ok (.newarray .int, 2) := by decide +kernel
theorem dX2_init_8 : decode cX2_init 8 = .ok (.putfield 9, 3) := by decide +kernel
theorem dX2_init_11 : decode cX2_init 11 = .ok (.return_, 1) := by decide +kernel
set_option maxRecDepth 20000 in
theorem ggX2_walk_J7_fill_53178 : GoodIn wsX2_walk wsJ7_fill_53178 := goodIn_r _ [5] (by decide +kernel) (by decide +kernel)
set_option maxRecDepth 20000 in
theorem gX2_walk_J7_fill_53178 : GoodIn wsX2_walk (va_wsS RX2 15 yJ7_fill_53178 wsJ7_fill_53178) := goodIn_app (goodIn_of _ (by decide +kernel)) ggX2_walk_J7_fill_53178
set_option maxRecDepth 20000 in
theorem ggX2_walk_X3_pageOfRoot : GoodIn wsX2_walk wsX3_pageOfRoot := goodIn_r _ [8] (by decide +kernel) (by decide +kernel)
set_option maxRecDepth 20000 in
theorem gX2_walk_X3_pageOfRoot_n21 : GoodIn wsX2_walk (wsX3_pageOfRoot) := ggX2_walk_X3_pageOfRoot
set_option maxRecDepth 20000 in
theorem ggX2_walk_X2_markOf : GoodIn wsX2_walk wsX2_markOf := goodIn_r _ [12] (by decide +kernel) (by decide +kernel)
set_option maxRecDepth 20000 in
theorem gX2_walk_X2_markOf : GoodIn wsX2_walk (va_wsS RX2 25 yX2_markOf wsX2_markOf) := goodIn_app (goodIn_of _ (by decide +kernel)) ggX2_walk_X2_markOf
set_option maxRecDepth 20000 in
theorem ggX2_walk_X2_lookAtAll : GoodIn wsX2_walk wsX2_lookAtAll := goodIn_r _ [16, 1, 9, 10, 11, 12, 17, 18, 19, 20, 21, 22, 23, 24, 25, 26, 27, 28, 29, 30, 31, 32, 33, 34, 35, 36, 37, 38, 39, 40, 6, 7, 8, 41, 42, 43, 44, 45, 46, 47, 48, 49, 50, 51, 52, 53] (by decide +kernel) (by decide +kernel)
set_option maxRecDepth 20000 in
theorem gX2_walk_X2_lookAtAll : GoodIn wsX2_walk (wsV RX2 28 RX2 yX2_lookAtAll wsX2_lookAtAll) := goodIn_app (goodIn_of _ (by decide +kernel)) ggX2_walk_X2_lookAtAll
theorem dX2_walk_0 : decode cX2_walk 0 = .ok (.aload_n 0, 1) := by decide +kernel
theorem dX2_walk_1 : decode cX2_walk 1 = .ok (.getfield 9, 3) := by decide +kernel
theorem dX2_walk_4 : decode cX2_walk 4 = .ok (.iconst 0, 1) := by decide +kernel
theorem dX2_walk_5 : decode cX2_walk 5 = .ok (.invokestatic 15, 3) := by decide +kernel
theorem dX2_walk_8 : decode cX2_walk 8 = .ok (.iload_n 2, 1) := by decide +kernel
theorem dX2_walk_9 : decode cX2_walk 9 = .ok (.istore 4, 2) := by decide +kernel
theorem dX2_walk_11 : decode cX2_walk 11 = .ok (.iload 4, 2) := by decide +kernel
theorem dX2_walk_13 : decode cX2_walk 13 = .ok (.iload_n 3, 1) := by decide +kernel
theorem dX2_walk_14 : decode cX2_walk 14 = .ok (.if_icmp .gt 26, 3) := by decide +kernel
theorem dX2_walk_17 : decode cX2_walk 17 = .ok (.aload_n 0, 1) := by decide +kernel
theorem dX2_walk_18 : decode cX2_walk 18 = .ok (.getfield 9, 3) := by decide +kernel
theorem dX2_walk_21 : decode cX2_walk 21 = .ok (.iload 4, 2) := by decide +kernel
theorem dX2_walk_23 : decode cX2_walk 23 = .ok (.invokestatic 21, 3) := by decide +kernel
theorem dX2_walk_26 : decode cX2_walk 26 = .ok (.dup2, 1) := by decide +kernel
theorem dX2_walk_27 : decode cX2_walk 27 = .ok (.iaload, 1) := by decide +kernel
theorem dX2_walk_28 : decode cX2_walk 28 = .ok (.iconst 1, 1) := by decide +kernel
theorem dX2_walk_29 : decode cX2_walk 29 = .ok (.invokestatic 25, 3) := by decide +kernel
theorem dX2_walk_32 : decode cX2_walk 32 = .ok (.ior, 1) := by decide +kernel
theorem dX2_walk_33 : decode cX2_walk 33 = .ok (.iastore, 1) := by decide +kernel
theorem dX2_walk_34 : decode cX2_walk 34 = .ok (.iinc 4 1, 3) := by decide +kernel
theorem dX2_walk_37 : decode cX2_walk 37 = .ok (.goto (-26), 3) := by decide +kernel
theorem dX2_walk_40 : decode cX2_walk 40 = .ok (.iconst 1, 1) := by decide +kernel
theorem dX2_walk_41 : decode cX2_walk 41 = .ok (.istore 4, 2) := by decide +kernel
theorem dX2_walk_43 : decode cX2_walk 43 = .ok (.iload 4, 2) := by decide +kernel
theorem dX2_walk_45 : decode cX2_walk 45 = .ok (.iconst 3, 1) := by decide +kernel
theorem dX2_walk_46 : decode cX2_walk 46 = .ok (.if_icmp .gt 16, 3) := by decide +kernel
theorem dX2_walk_49 : decode cX2_walk 49 = .ok (.aload_n 0, 1) := by decide +kernel
theorem dX2_walk_50 : decode cX2_walk 50 = .ok (.aload_n 1, 1) := by decide +kernel
theorem dX2_walk_51 : decode cX2_walk 51 = .ok (.iload 4, 2) := by decide +kernel
theorem dX2_walk_53 : decode cX2_walk 53 = .ok (.invokevirtual 28, 3) := by decide +kernel
theorem dX2_walk_56 : decode cX2_walk 56 = .ok (.iinc 4 1, 3) := by decide +kernel
theorem dX2_walk_59 : decode cX2_walk 59 = .ok (.goto (-16), 3) := by decide +kernel
theorem dX2_walk_62 : decode cX2_walk 62 = .ok (.return_, 1) := by decide +kernel
theorem dX2_leastBad_0 : decode cX2_leastBad 0 = .ok (.iconst 0, 1) := by decide +kernel
theorem dX2_leastBad_1 : decode cX2_leastBad 1 = .ok (.istore_n 1, 1) := by decide +kernel
theorem dX2_leastBad_2 : decode cX2_leastBad 2 = .ok (.iload_n 1, 1) := by decide +kernel
theorem dX2_leastBad_3 : decode cX2_leastBad 3 = .ok (.aload_n 0, 1) := by decide +kernel
theorem dX2_leastBad_4 : decode cX2_leastBad 4 = .ok (.getfield 9, 3) := by decide +kernel
theorem dX2_leastBad_7 : decode cX2_leastBad 7 = .ok (.arraylength, 1) := by decide +kernel
theorem dX2_leastBad_8 : decode cX2_leastBad 8 = .ok (.if_icmp .ge 22, 3) := by decide +kernel
theorem dX2_leastBad_11 : decode cX2_leastBad 11 = .ok (.aload_n 0, 1) := by decide +kernel
theorem dX2_leastBad_12 : decode cX2_leastBad 12 = .ok (.getfield 9, 3) := by decide +kernel
theorem dX2_leastBad_15 : decode cX2_leastBad 15 = .ok (.iload_n 1, 1) := by decide +kernel
theorem dX2_leastBad_16 : decode cX2_leastBad 16 = .ok (.iaload, 1) := by decide +kernel
theorem dX2_leastBad_17 : decode cX2_leastBad 17 = .ok (.iconst 1, 1) := by decide +kernel
theorem dX2_leastBad_18 : decode cX2_leastBad 18 = .ok (.iand, 1) := by decide +kernel
theorem dX2_leastBad_19 : decode cX2_leastBad 19 = .ok (.ifCond .eq 5, 3) := by decide +kernel
theorem dX2_leastBad_22 : decode cX2_leastBad 22 = .ok (.iload_n 1, 1) := by decide +kernel
theorem dX2_leastBad_23 : decode cX2_leastBad 23 = .ok (.ireturn, 1) := by decide +kernel
theorem dX2_leastBad_24 : decode cX2_leastBad 24 = .ok (.iinc 1 1, 3) := by decide +kernel
theorem dX2_leastBad_27 : decode cX2_leastBad 27 = .ok (.goto (-25), 3) := by decide +kernel
theorem dX2_leastBad_30 : decode cX2_leastBad 30 = .ok (.iconst (-1), 1) := by decide +kernel
theorem dX2_leastBad_31 : decode cX2_leastBad 31 = .ok (.ireturn, 1) := by decide +kernel
theorem dX2_freePages_0 : decode cX2_freePages 0 = .ok (.iconst 0, 1) := by decide +kernel
theorem dX2_freePages_1 : decode cX2_freePages 1 = .ok (.istore_n 1, 1) := by decide +kernel
theorem dX2_freePages_2 : decode cX2_freePages 2 = .ok (.bipush 8, 2) := by decide +kernel
theorem dX2_freePages_4 : decode cX2_freePages 4 = .ok (.istore_n 2, 1) := by decide +kernel
theorem dX2_freePages_5 : decode cX2_freePages 5 = .ok (.iload_n 2, 1) := by decide +kernel
theorem dX2_freePages_6 : decode cX2_freePages 6 = .ok (.aload_n 0, 1) := by decide +kernel
theorem dX2_freePages_7 : decode cX2_freePages 7 = .ok (.getfield 9, 3) := by decide +kernel
theorem dX2_freePages_10 : decode cX2_freePages 10 = .ok (.arraylength, 1) := by decide +kernel
theorem dX2_freePages_11 : decode cX2_freePages 11 = .ok (.if_icmp .ge 21, 3) := by decide +kernel
theorem dX2_freePages_14 : decode cX2_freePages 14 = .ok (.aload_n 0, 1) := by decide +kernel
theorem dX2_freePages_15 : decode cX2_freePages 15 = .ok (.getfield 9, 3) := by decide +kernel
theorem dX2_freePages_18 : decode cX2_freePages 18 = .ok (.iload_n 2, 1) := by decide +kernel
theorem dX2_freePages_19 : decode cX2_freePages 19 = .ok (.iaload, 1) := by decide +kernel
theorem dX2_freePages_20 : decode cX2_freePages 20 = .ok (.ifCond .ne 6, 3) := by decide +kernel
theorem dX2_freePages_23 : decode cX2_freePages 23 = .ok (.iinc 1 1, 3) := by decide +kernel
theorem dX2_freePages_26 : decode cX2_freePages 26 = .ok (.iinc 2 1, 3) := by decide +kernel
theorem dX2_freePages_29 : decode cX2_freePages 29 = .ok (.goto (-24), 3) := by decide +kernel
theorem dX2_freePages_32 : decode cX2_freePages 32 = .ok (.iload_n 1, 1) := by decide +kernel
theorem dX2_freePages_33 : decode cX2_freePages 33 = .ok (.ireturn, 1) := by decide +kernel
theorem dX2_freeFrom_0 : decode cX2_freeFrom 0 = .ok (.iload_n 1, 1) := by decide +kernel
theorem dX2_freeFrom_1 : decode cX2_freeFrom 1 = .ok (.istore_n 2, 1) := by decide +kernel
theorem dX2_freeFrom_2 : decode cX2_freeFrom 2 = .ok (.iload_n 2, 1) := by decide +kernel
theorem dX2_freeFrom_3 : decode cX2_freeFrom 3 = .ok (.aload_n 0, 1) := by decide +kernel
theorem dX2_freeFrom_4 : decode cX2_freeFrom 4 = .ok (.getfield 9, 3) := by decide +kernel
theorem dX2_freeFrom_7 : decode cX2_freeFrom 7 = .ok (.arraylength, 1) := by decide +kernel
theorem dX2_freeFrom_8 : decode cX2_freeFrom 8 = .ok (.if_icmp .ge 20, 3) := by decide +kernel
theorem dX2_freeFrom_11 : decode cX2_freeFrom 11 = .ok (.aload_n 0, 1) := by decide +kernel
theorem dX2_freeFrom_12 : decode cX2_freeFrom 12 = .ok (.getfield 9, 3) := by decide +kernel
theorem dX2_freeFrom_15 : decode cX2_freeFrom 15 = .ok (.iload_n 2, 1) := by decide +kernel
theorem dX2_freeFrom_16 : decode cX2_freeFrom 16 = .ok (.iaload, 1) := by decide +kernel
theorem dX2_freeFrom_17 : decode cX2_freeFrom 17 = .ok (.ifCond .ne 5, 3) := by decide +kernel
theorem dX2_freeFrom_20 : decode cX2_freeFrom 20 = .ok (.iload_n 2, 1) := by decide +kernel
theorem dX2_freeFrom_21 : decode cX2_freeFrom 21 = .ok (.ireturn, 1) := by decide +kernel
theorem dX2_freeFrom_22 : decode cX2_freeFrom 22 = .ok (.iinc 2 1, 3) := by decide +kernel
theorem dX2_freeFrom_25 : decode cX2_freeFrom 25 = .ok (.goto (-23), 3) := by decide +kernel
theorem dX2_freeFrom_28 : decode cX2_freeFrom 28 = .ok (.iconst (-1), 1) := by decide +kernel
theorem dX2_freeFrom_29 : decode cX2_freeFrom 29 = .ok (.ireturn, 1) := by decide +kernel
theorem dX2_markOf_0 : decode cX2_markOf 0 = .ok (.iconst 1, 1) := by decide +kernel
theorem dX2_markOf_1 : decode cX2_markOf 1 = .ok (.iload_n 0, 1) := by decide +kernel
theorem dX2_markOf_2 : decode cX2_markOf 2 = .ok (.ishl, 1) := by decide +kernel
theorem dX2_markOf_3 : decode cX2_markOf 3 = .ok (.ireturn, 1) := by decide +kernel
set_option maxRecDepth 20000 in
theorem ggX2_lookAtAll_X2_markOf : GoodIn wsX2_lookAtAll wsX2_markOf := goodIn_r _ [5] (by decide +kernel) (by decide +kernel)
set_option maxRecDepth 20000 in
theorem gX2_lookAtAll_X2_markOf : GoodIn wsX2_lookAtAll (va_wsS RX2 25 yX2_markOf wsX2_markOf) := goodIn_app (goodIn_of _ (by decide +kernel)) ggX2_lookAtAll_X2_markOf
set_option maxRecDepth 20000 in
theorem ggX2_lookAtAll_X0_isRight : GoodIn wsX2_lookAtAll wsX0_isRight := goodIn_r _ [10, 11, 12, 13, 9, 14, 15, 16, 17, 18, 19, 20, 21, 22, 23, 24, 25, 26, 27, 28, 29, 30, 31, 32, 33, 34, 35, 36, 37, 44, 45] (by decide +kernel) (by decide +kernel)
set_option maxRecDepth 20000 in
theorem gX2_lookAtAll_X0_isRight : GoodIn wsX2_lookAtAll (wsV RX2 32 RX0 yX0_isRight wsX0_isRight) := goodIn_app (goodIn_of _ (by decide +kernel)) ggX2_lookAtAll_X0_isRight
set_option maxRecDepth 20000 in
theorem ggX2_lookAtAll_X2_markTold : GoodIn wsX2_lookAtAll wsX2_markTold := goodIn_r _ [41, 1, 42, 12, 13, 9, 14, 15, 2, 3, 4, 5, 43, 44, 45] (by decide +kernel) (by decide +kernel)
set_option maxRecDepth 20000 in
theorem gX2_lookAtAll_X2_markTold : GoodIn wsX2_lookAtAll (wsV RX2 38 RX2 yX2_markTold wsX2_markTold) := goodIn_app (goodIn_of _ (by decide +kernel)) ggX2_lookAtAll_X2_markTold
theorem dX2_lookAtAll_0 : decode cX2_lookAtAll 0 = .ok (.iconst 0, 1) := by decide +kernel
theorem dX2_lookAtAll_1 : decode cX2_lookAtAll 1 = .ok (.istore_n 3, 1) := by decide +kernel
theorem dX2_lookAtAll_2 : decode cX2_lookAtAll 2 = .ok (.iload_n 3, 1) := by decide +kernel
theorem dX2_lookAtAll_3 : decode cX2_lookAtAll 3 = .ok (.aload_n 0, 1) := by decide +kernel
theorem dX2_lookAtAll_4 : decode cX2_lookAtAll 4 = .ok (.getfield 9, 3) := by decide +kernel
theorem dX2_lookAtAll_7 : decode cX2_lookAtAll 7 = .ok (.arraylength, 1) := by decide +kernel
theorem dX2_lookAtAll_8 : decode cX2_lookAtAll 8 = .ok (.if_icmp .ge 82, 3) := by decide +kernel
theorem dX2_lookAtAll_11 : decode cX2_lookAtAll 11 = .ok (.aload_n 0, 1) := by decide +kernel
theorem dX2_lookAtAll_12 : decode cX2_lookAtAll 12 = .ok (.getfield 9, 3) := by decide +kernel
theorem dX2_lookAtAll_15 : decode cX2_lookAtAll 15 = .ok (.iload_n 3, 1) := by decide +kernel
theorem dX2_lookAtAll_16 : decode cX2_lookAtAll 16 = .ok (.iaload, 1) := by decide +kernel
theorem dX2_lookAtAll_17 : decode cX2_lookAtAll 17 = .ok (.iload_n 2, 1) := by decide +kernel
theorem dX2_lookAtAll_18 : decode cX2_lookAtAll 18 = .ok (.invokestatic 25, 3) := by decide +kernel
theorem dX2_lookAtAll_21 : decode cX2_lookAtAll 21 = .ok (.iand, 1) := by decide +kernel
theorem dX2_lookAtAll_22 : decode cX2_lookAtAll 22 = .ok (.ifCond .ne 6, 3) := by decide +kernel
theorem dX2_lookAtAll_25 : decode cX2_lookAtAll 25 = .ok (.goto 59, 3) := by decide +kernel
theorem dX2_lookAtAll_28 : decode cX2_lookAtAll 28 = .ok (.aload_n 1, 1) := by decide +kernel
theorem dX2_lookAtAll_29 : decode cX2_lookAtAll 29 = .ok (.iload_n 3, 1) := by decide +kernel
theorem dX2_lookAtAll_30 : decode cX2_lookAtAll 30 = .ok (.iload_n 2, 1) := by decide +kernel
theorem dX2_lookAtAll_31 : decode cX2_lookAtAll 31 = .ok (.invokevirtual 32, 3) := by decide +kernel
theorem dX2_lookAtAll_34 : decode cX2_lookAtAll 34 = .ok (.ifCond .ne 16, 3) := by decide +kernel
theorem dX2_lookAtAll_37 : decode cX2_lookAtAll 37 = .ok (.aload_n 0, 1) := by decide +kernel
theorem dX2_lookAtAll_38 : decode cX2_lookAtAll 38 = .ok (.getfield 9, 3) := by decide +kernel
theorem dX2_lookAtAll_41 : decode cX2_lookAtAll 41 = .ok (.iload_n 3, 1) := by decide +kernel
theorem dX2_lookAtAll_42 : decode cX2_lookAtAll 42 = .ok (.dup2, 1) := by decide +kernel
theorem dX2_lookAtAll_43 : decode cX2_lookAtAll 43 = .ok (.iaload, 1) := by decide +kernel
theorem dX2_lookAtAll_44 : decode cX2_lookAtAll 44 = .ok (.iconst 1, 1) := by decide +kernel
theorem dX2_lookAtAll_45 : decode cX2_lookAtAll 45 = .ok (.ior, 1) := by decide +kernel
theorem dX2_lookAtAll_46 : decode cX2_lookAtAll 46 = .ok (.iastore, 1) := by decide +kernel
theorem dX2_lookAtAll_47 : decode cX2_lookAtAll 47 = .ok (.goto 37, 3) := by decide +kernel
theorem dX2_lookAtAll_50 : decode cX2_lookAtAll 50 = .ok (.iload_n 2, 1) := by decide +kernel
theorem dX2_lookAtAll_51 : decode cX2_lookAtAll 51 = .ok (.iconst 1, 1) := by decide +kernel
theorem dX2_lookAtAll_52 : decode cX2_lookAtAll 52 = .ok (.if_icmp .ne 17, 3) := by decide +kernel
theorem dX2_lookAtAll_55 : decode cX2_lookAtAll 55 = .ok (.aload_n 0, 1) := by decide +kernel
theorem dX2_lookAtAll_56 : decode cX2_lookAtAll 56 = .ok (.aload_n 1, 1) := by decide +kernel
theorem dX2_lookAtAll_57 : decode cX2_lookAtAll 57 = .ok (.iload_n 3, 1) := by decide +kernel
theorem dX2_lookAtAll_58 : decode cX2_lookAtAll 58 = .ok (.bipush 9, 2) := by decide +kernel
theorem dX2_lookAtAll_60 : decode cX2_lookAtAll 60 = .ok (.bipush 32, 2) := by decide +kernel
theorem dX2_lookAtAll_62 : decode cX2_lookAtAll 62 = .ok (.iconst 2, 1) := by decide +kernel
theorem dX2_lookAtAll_63 : decode cX2_lookAtAll 63 = .ok (.invokevirtual 38, 3) := by decide +kernel
theorem dX2_lookAtAll_66 : decode cX2_lookAtAll 66 = .ok (.goto 18, 3) := by decide +kernel
theorem dX2_lookAtAll_69 : decode cX2_lookAtAll 69 = .ok (.iload_n 2, 1) := by decide +kernel
