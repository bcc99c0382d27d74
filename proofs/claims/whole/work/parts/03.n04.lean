theorem dX5_shipAt_1 : decode cX5_shipAt 1 = .ok (.aload_n 0, 1) := by decide +kernel
theorem dX5_shipAt_2 : decode cX5_shipAt 2 = .ok (.iload_n 1, 1) := by decide +kernel
theorem dX5_shipAt_3 : decode cX5_shipAt 3 = .ok (.invokevirtual 81, 3) := by decide +kernel
theorem dX5_shipAt_6 : decode cX5_shipAt 6 = .ok (.ifCond .eq 7, 3) := by decide +kernel
theorem dX5_shipAt_9 : decode cX5_shipAt 9 = .ok (.iconst 0, 1) := by decide +kernel
theorem dX5_shipAt_10 : decode cX5_shipAt 10 = .ok (.goto 4, 3) := by decide +kernel
theorem dX5_shipAt_13 : decode cX5_shipAt 13 = .ok (.iconst 1, 1) := by decide +kernel
theorem dX5_shipAt_14 : decode cX5_shipAt 14 = .ok (.putfield 70, 3) := by decide +kernel
theorem dX5_shipAt_17 : decode cX5_shipAt 17 = .ok (.aload_n 0, 1) := by decide +kernel
theorem dX5_shipAt_18 : decode cX5_shipAt 18 = .ok (.getfield 70, 3) := by decide +kernel
theorem dX5_shipAt_21 : decode cX5_shipAt 21 = .ok (.ifCond .ne 11, 3) := by decide +kernel
theorem dX5_shipAt_24 : decode cX5_shipAt 24 = .ok (.aload_n 0, 1) := by decide +kernel
theorem dX5_shipAt_25 : decode cX5_shipAt 25 = .ok (.iload_n 1, 1) := by decide +kernel
theorem dX5_shipAt_26 : decode cX5_shipAt 26 = .ok (.invokevirtual 95, 3) := by decide +kernel
theorem dX5_shipAt_29 : decode cX5_shipAt 29 = .ok (.goto 4, 3) := by decide +kernel
theorem dX5_shipAt_32 : decode cX5_shipAt 32 = .ok (.iconst 0, 1) := by decide +kernel
theorem dX5_shipAt_33 : decode cX5_shipAt 33 = .ok (.ireturn, 1) := by decide +kernel
set_option maxRecDepth 20000 in
theorem ggX5_routes_X5_isShip : GoodIn wsX5_routes wsX5_isShip := goodIn_r _ [7, 8, 9, 10, 6, 11, 12, 13, 14, 15, 16, 17, 18, 19, 20, 21, 22, 23, 24, 25, 26, 27, 28, 29, 30, 31, 32, 33, 34, 35, 36, 37] (by decide +kernel) (by decide +kernel)
set_option maxRecDepth 20000 in
theorem gX5_routes_X5_isShip : GoodIn wsX5_routes (wsV RX5 81 RX5 yX5_isShip wsX5_isShip) := goodIn_app (goodIn_of _ (by decide +kernel)) ggX5_routes_X5_isShip
theorem dX5_routes_0 : decode cX5_routes 0 = .ok (.aload_n 0, 1) := by decide +kernel
theorem dX5_routes_1 : decode cX5_routes 1 = .ok (.aload_n 0, 1) := by decide +kernel
theorem dX5_routes_2 : decode cX5_routes 2 = .ok (.iload_n 1, 1) := by decide +kernel
theorem dX5_routes_3 : decode cX5_routes 3 = .ok (.invokevirtual 81, 3) := by decide +kernel
theorem dX5_routes_6 : decode cX5_routes 6 = .ok (.ifCond .eq 7, 3) := by decide +kernel
theorem dX5_routes_9 : decode cX5_routes 9 = .ok (.iconst 0, 1) := by decide +kernel
theorem dX5_routes_10 : decode cX5_routes 10 = .ok (.goto 4, 3) := by decide +kernel
theorem dX5_routes_13 : decode cX5_routes 13 = .ok (.iconst 1, 1) := by decide +kernel
theorem dX5_routes_14 : decode cX5_routes 14 = .ok (.putfield 70, 3) := by decide +kernel
theorem dX5_routes_17 : decode cX5_routes 17 = .ok (.aload_n 0, 1) := by decide +kernel
theorem dX5_routes_18 : decode cX5_routes 18 = .ok (.getfield 70, 3) := by decide +kernel
theorem dX5_routes_21 : decode cX5_routes 21 = .ok (.ifCond .ne 12, 3) := by decide +kernel
theorem dX5_routes_24 : decode cX5_routes 24 = .ok (.aload_n 0, 1) := by decide +kernel
theorem dX5_routes_25 : decode cX5_routes 25 = .ok (.getfield 28, 3) := by decide +kernel
theorem dX5_routes_28 : decode cX5_routes 28 = .ok (.iload_n 1, 1) := by decide +kernel
theorem dX5_routes_29 : decode cX5_routes 29 = .ok (.iaload, 1) := by decide +kernel
theorem dX5_routes_30 : decode cX5_routes 30 = .ok (.goto 4, 3) := by decide +kernel
theorem dX5_routes_33 : decode cX5_routes 33 = .ok (.iconst 0, 1) := by decide +kernel
theorem dX5_routes_34 : decode cX5_routes 34 = .ok (.ireturn, 1) := by decide +kernel
set_option maxRecDepth 20000 in
theorem ggX5_wordOf_X5_rowOf : GoodIn wsX5_wordOf wsX5_rowOf := goodIn_r _ [8] (by decide +kernel) (by decide +kernel)
set_option maxRecDepth 20000 in
theorem gX5_wordOf_X5_rowOf : GoodIn wsX5_wordOf (va_wsS RX5 88 yX5_rowOf wsX5_rowOf) := goodIn_app (goodIn_of _ (by decide +kernel)) ggX5_wordOf_X5_rowOf
set_option maxRecDepth 20000 in
theorem ggX5_wordOf_X5_apart : GoodIn wsX5_wordOf wsX5_apart := goodIn_r _ [11] (by decide +kernel) (by decide +kernel)
set_option maxRecDepth 20000 in
theorem gX5_wordOf_X5_apart : GoodIn wsX5_wordOf (va_wsS RX5 99 yX5_apart wsX5_apart) := goodIn_app (goodIn_of _ (by decide +kernel)) ggX5_wordOf_X5_apart
theorem dX5_wordOf_0 : decode cX5_wordOf 0 = .ok (.iconst (-1), 1) := by decide +kernel
theorem dX5_wordOf_1 : decode cX5_wordOf 1 = .ok (.istore_n 3, 1) := by decide +kernel
theorem dX5_wordOf_2 : decode cX5_wordOf 2 = .ok (.iconst 0, 1) := by decide +kernel
theorem dX5_wordOf_3 : decode cX5_wordOf 3 = .ok (.istore 4, 2) := by decide +kernel
theorem dX5_wordOf_5 : decode cX5_wordOf 5 = .ok (.iload 4, 2) := by decide +kernel
theorem dX5_wordOf_7 : decode cX5_wordOf 7 = .ok (.aload_n 0, 1) := by decide +kernel
theorem dX5_wordOf_8 : decode cX5_wordOf 8 = .ok (.getfield 28, 3) := by decide +kernel
theorem dX5_wordOf_11 : decode cX5_wordOf 11 = .ok (.iload_n 2, 1) := by decide +kernel
theorem dX5_wordOf_12 : decode cX5_wordOf 12 = .ok (.iaload, 1) := by decide +kernel
theorem dX5_wordOf_13 : decode cX5_wordOf 13 = .ok (.if_icmp .ge 73, 3) := by decide +kernel
theorem dX5_wordOf_16 : decode cX5_wordOf 16 = .ok (.iload_n 2, 1) := by decide +kernel
theorem dX5_wordOf_17 : decode cX5_wordOf 17 = .ok (.iload 4, 2) := by decide +kernel
theorem dX5_wordOf_19 : decode cX5_wordOf 19 = .ok (.invokestatic 88, 3) := by decide +kernel
theorem dX5_wordOf_22 : decode cX5_wordOf 22 = .ok (.istore 5, 2) := by decide +kernel
theorem dX5_wordOf_24 : decode cX5_wordOf 24 = .ok (.aload_n 0, 1) := by decide +kernel
theorem dX5_wordOf_25 : decode cX5_wordOf 25 = .ok (.getfield 7, 3) := by decide +kernel
theorem dX5_wordOf_28 : decode cX5_wordOf 28 = .ok (.iload 5, 2) := by decide +kernel
theorem dX5_wordOf_30 : decode cX5_wordOf 30 = .ok (.iaload, 1) := by decide +kernel
theorem dX5_wordOf_31 : decode cX5_wordOf 31 = .ok (.iload_n 1, 1) := by decide +kernel
theorem dX5_wordOf_32 : decode cX5_wordOf 32 = .ok (.if_icmp .ne 7, 3) := by decide +kernel
theorem dX5_wordOf_35 : decode cX5_wordOf 35 = .ok (.iconst 0, 1) := by decide +kernel
theorem dX5_wordOf_36 : decode cX5_wordOf 36 = .ok (.goto 18, 3) := by decide +kernel
theorem dX5_wordOf_39 : decode cX5_wordOf 39 = .ok (.aload_n 0, 1) := by decide +kernel
theorem dX5_wordOf_40 : decode cX5_wordOf 40 = .ok (.getfield 7, 3) := by decide +kernel
theorem dX5_wordOf_43 : decode cX5_wordOf 43 = .ok (.iload 5, 2) := by decide +kernel
theorem dX5_wordOf_45 : decode cX5_wordOf 45 = .ok (.iaload, 1) := by decide +kernel
theorem dX5_wordOf_46 : decode cX5_wordOf 46 = .ok (.iload_n 1, 1) := by decide +kernel
theorem dX5_wordOf_47 : decode cX5_wordOf 47 = .ok (.invokestatic 99, 3) := by decide +kernel
theorem dX5_wordOf_50 : decode cX5_wordOf 50 = .ok (.iconst 2, 1) := by decide +kernel
theorem dX5_wordOf_51 : decode cX5_wordOf 51 = .ok (.iadd, 1) := by decide +kernel
theorem dX5_wordOf_52 : decode cX5_wordOf 52 = .ok (.iconst 3, 1) := by decide +kernel
theorem dX5_wordOf_53 : decode cX5_wordOf 53 = .ok (.idiv, 1) := by decide +kernel
theorem dX5_wordOf_54 : decode cX5_wordOf 54 = .ok (.istore 6, 2) := by decide +kernel
theorem dX5_wordOf_56 : decode cX5_wordOf 56 = .ok (.aload_n 0, 1) := by decide +kernel
theorem dX5_wordOf_57 : decode cX5_wordOf 57 = .ok (.getfield 13, 3) := by decide +kernel
theorem dX5_wordOf_60 : decode cX5_wordOf 60 = .ok (.iload 5, 2) := by decide +kernel
theorem dX5_wordOf_62 : decode cX5_wordOf 62 = .ok (.iaload, 1) := by decide +kernel
theorem dX5_wordOf_63 : decode cX5_wordOf 63 = .ok (.iload 6, 2) := by decide +kernel
theorem dX5_wordOf_65 : decode cX5_wordOf 65 = .ok (.iadd, 1) := by decide +kernel
theorem dX5_wordOf_66 : decode cX5_wordOf 66 = .ok (.aload_n 0, 1) := by decide +kernel
theorem dX5_wordOf_67 : decode cX5_wordOf 67 = .ok (.getfield 92, 3) := by decide +kernel
theorem dX5_wordOf_70 : decode cX5_wordOf 70 = .ok (.if_icmp .gt 8, 3) := by decide +kernel
theorem dX5_wordOf_73 : decode cX5_wordOf 73 = .ok (.iload 4, 2) := by decide +kernel
theorem dX5_wordOf_75 : decode cX5_wordOf 75 = .ok (.goto 4, 3) := by decide +kernel
theorem dX5_wordOf_78 : decode cX5_wordOf 78 = .ok (.iload_n 3, 1) := by decide +kernel
theorem dX5_wordOf_79 : decode cX5_wordOf 79 = .ok (.istore_n 3, 1) := by decide +kernel
theorem dX5_wordOf_80 : decode cX5_wordOf 80 = .ok (.iinc 4 1, 3) := by decide +kernel
theorem dX5_wordOf_83 : decode cX5_wordOf 83 = .ok (.goto (-78), 3) := by decide +kernel
theorem dX5_wordOf_86 : decode cX5_wordOf 86 = .ok (.iload_n 3, 1) := by decide +kernel
theorem dX5_wordOf_87 : decode cX5_wordOf 87 = .ok (.ireturn, 1) := by decide +kernel
set_option maxRecDepth 20000 in
theorem ggX5_word_X5_isPort : GoodIn wsX5_word wsX5_isPort := goodIn_r _ [5, 6, 7, 4, 8] (by decide +kernel) (by decide +kernel)
set_option maxRecDepth 20000 in
theorem gX5_word_X5_isPort : GoodIn wsX5_word (va_wsS RX5 85 yX5_isPort wsX5_isPort) := goodIn_app (goodIn_of _ (by decide +kernel)) ggX5_word_X5_isPort
set_option maxRecDepth 20000 in
theorem ggX5_word_X5_isShip : GoodIn wsX5_word wsX5_isShip := goodIn_r _ [12, 13, 6, 7, 4, 8, 28, 29, 30, 31, 32, 33, 34, 35, 36, 37, 38, 39, 40, 41, 42, 43, 44, 45, 46, 47, 48, 49, 50, 51, 52, 53] (by decide +kernel) (by decide +kernel)
set_option maxRecDepth 20000 in
theorem gX5_word_X5_isShip : GoodIn wsX5_word (wsV RX5 81 RX5 yX5_isShip wsX5_isShip) := goodIn_app (goodIn_of _ (by decide +kernel)) ggX5_word_X5_isShip
set_option maxRecDepth 20000 in
theorem ggX5_word_X5_wordOf : GoodIn wsX5_word wsX5_wordOf := goodIn_r _ [17, 18, 19, 20, 21, 22, 23, 4, 24, 25, 26, 27, 28, 29, 30, 31, 32, 33, 34, 35, 36, 37, 38, 39, 40, 41, 42, 43, 44, 45, 46, 47, 48, 49, 50, 51, 52, 53] (by decide +kernel) (by decide +kernel)
set_option maxRecDepth 20000 in
theorem gX5_word_X5_wordOf : GoodIn wsX5_word (wsV RX5 102 RX5 yX5_wordOf wsX5_wordOf) := goodIn_app (goodIn_of _ (by decide +kernel)) ggX5_word_X5_wordOf
theorem dX5_word_0 : decode cX5_word 0 = .ok (.aload_n 0, 1) := by decide +kernel
theorem dX5_word_1 : decode cX5_word 1 = .ok (.iload_n 1, 1) := by decide +kernel
theorem dX5_word_2 : decode cX5_word 2 = .ok (.invokestatic 85, 3) := by decide +kernel
theorem dX5_word_5 : decode cX5_word 5 = .ok (.ifCond .eq 15, 3) := by decide +kernel
theorem dX5_word_8 : decode cX5_word 8 = .ok (.aload_n 0, 1) := by decide +kernel
theorem dX5_word_9 : decode cX5_word 9 = .ok (.iload_n 2, 1) := by decide +kernel
theorem dX5_word_10 : decode cX5_word 10 = .ok (.invokevirtual 81, 3) := by decide +kernel
theorem dX5_word_13 : decode cX5_word 13 = .ok (.ifCond .eq 7, 3) := by decide +kernel
theorem dX5_word_16 : decode cX5_word 16 = .ok (.iconst 0, 1) := by decide +kernel
theorem dX5_word_17 : decode cX5_word 17 = .ok (.goto 4, 3) := by decide +kernel
theorem dX5_word_20 : decode cX5_word 20 = .ok (.iconst 1, 1) := by decide +kernel
theorem dX5_word_21 : decode cX5_word 21 = .ok (.putfield 70, 3) := by decide +kernel
theorem dX5_word_24 : decode cX5_word 24 = .ok (.aload_n 0, 1) := by decide +kernel
theorem dX5_word_25 : decode cX5_word 25 = .ok (.getfield 70, 3) := by decide +kernel
theorem dX5_word_28 : decode cX5_word 28 = .ok (.ifCond .ne 12, 3) := by decide +kernel
theorem dX5_word_31 : decode cX5_word 31 = .ok (.aload_n 0, 1) := by decide +kernel
theorem dX5_word_32 : decode cX5_word 32 = .ok (.iload_n 1, 1) := by decide +kernel
theorem dX5_word_33 : decode cX5_word 33 = .ok (.iload_n 2, 1) := by decide +kernel
theorem dX5_word_34 : decode cX5_word 34 = .ok (.invokevirtual 102, 3) := by decide +kernel
theorem dX5_word_37 : decode cX5_word 37 = .ok (.goto 4, 3) := by decide +kernel
theorem dX5_word_40 : decode cX5_word 40 = .ok (.iconst 0, 1) := by decide +kernel
theorem dX5_word_41 : decode cX5_word 41 = .ok (.ireturn, 1) := by decide +kernel
set_option maxRecDepth 20000 in
theorem ggX5_behind_X5_isShip : GoodIn wsX5_behind wsX5_isShip := goodIn_r _ [7, 8, 9, 10, 6, 11, 25, 26, 27, 28, 29, 30, 31, 32, 33, 34, 35, 36, 37, 38, 39, 40, 41, 42, 43, 44, 45, 46, 47, 48, 49, 50] (by decide +kernel) (by decide +kernel)
set_option maxRecDepth 20000 in
theorem gX5_behind_X5_isShip : GoodIn wsX5_behind (wsV RX5 81 RX5 yX5_isShip wsX5_isShip) := goodIn_app (goodIn_of _ (by decide +kernel)) ggX5_behind_X5_isShip
set_option maxRecDepth 20000 in
theorem ggX5_behind_X5_wordOf : GoodIn wsX5_behind wsX5_wordOf := goodIn_r _ [15, 2, 16, 17, 18, 19, 20, 6, 21, 22, 23, 24, 25, 26, 27, 28, 29, 30, 31, 32, 33, 34, 35, 36, 37, 38, 39, 40, 41, 42, 43, 44, 45, 46, 47, 48, 49, 50] (by decide +kernel) (by decide +kernel)
set_option maxRecDepth 20000 in
theorem gX5_behind_X5_wordOf : GoodIn wsX5_behind (wsV RX5 102 RX5 yX5_wordOf wsX5_wordOf) := goodIn_app (goodIn_of _ (by decide +kernel)) ggX5_behind_X5_wordOf
theorem dX5_behind_0 : decode cX5_behind 0 = .ok (.aload_n 0, 1) := by decide +kernel
theorem dX5_behind_1 : decode cX5_behind 1 = .ok (.aload_n 0, 1) := by decide +kernel
theorem dX5_behind_2 : decode cX5_behind 2 = .ok (.iload_n 1, 1) := by decide +kernel
theorem dX5_behind_3 : decode cX5_behind 3 = .ok (.invokevirtual 81, 3) := by decide +kernel
theorem dX5_behind_6 : decode cX5_behind 6 = .ok (.ifCond .eq 7, 3) := by decide +kernel
theorem dX5_behind_9 : decode cX5_behind 9 = .ok (.iconst 0, 1) := by decide +kernel
theorem dX5_behind_10 : decode cX5_behind 10 = .ok (.goto 4, 3) := by decide +kernel
theorem dX5_behind_13 : decode cX5_behind 13 = .ok (.iconst 1, 1) := by decide +kernel
theorem dX5_behind_14 : decode cX5_behind 14 = .ok (.putfield 70, 3) := by decide +kernel
theorem dX5_behind_17 : decode cX5_behind 17 = .ok (.iconst 0, 1) := by decide +kernel
theorem dX5_behind_18 : decode cX5_behind 18 = .ok (.istore_n 2, 1) := by decide +kernel
theorem dX5_behind_19 : decode cX5_behind 19 = .ok (.iconst 0, 1) := by decide +kernel
theorem dX5_behind_20 : decode cX5_behind 20 = .ok (.istore_n 3, 1) := by decide +kernel
theorem dX5_behind_21 : decode cX5_behind 21 = .ok (.iload_n 3, 1) := by decide +kernel
theorem dX5_behind_22 : decode cX5_behind 22 = .ok (.bipush 10, 2) := by decide +kernel
theorem dX5_behind_24 : decode cX5_behind 24 = .ok (.if_icmp .ge 50, 3) := by decide +kernel
theorem dX5_behind_27 : decode cX5_behind 27 = .ok (.aload_n 0, 1) := by decide +kernel
theorem dX5_behind_28 : decode cX5_behind 28 = .ok (.getfield 70, 3) := by decide +kernel
theorem dX5_behind_31 : decode cX5_behind 31 = .ok (.ifCond .ne 43, 3) := by decide +kernel
theorem dX5_behind_34 : decode cX5_behind 34 = .ok (.iload_n 2, 1) := by decide +kernel
theorem dX5_behind_35 : decode cX5_behind 35 = .ok (.aload_n 0, 1) := by decide +kernel
theorem dX5_behind_36 : decode cX5_behind 36 = .ok (.getfield 28, 3) := by decide +kernel
theorem dX5_behind_39 : decode cX5_behind 39 = .ok (.iload_n 1, 1) := by decide +kernel
theorem dX5_behind_40 : decode cX5_behind 40 = .ok (.iaload, 1) := by decide +kernel
theorem dX5_behind_41 : decode cX5_behind 41 = .ok (.ifCond .le 24, 3) := by decide +kernel
theorem dX5_behind_44 : decode cX5_behind 44 = .ok (.aload_n 0, 1) := by decide +kernel
theorem dX5_behind_45 : decode cX5_behind 45 = .ok (.iload_n 3, 1) := by decide +kernel
theorem dX5_behind_46 : decode cX5_behind 46 = .ok (.iload_n 1, 1) := by decide +kernel
theorem dX5_behind_47 : decode cX5_behind 47 = .ok (.invokevirtual 102, 3) := by decide +kernel
theorem dX5_behind_50 : decode cX5_behind 50 = .ok (.aload_n 0, 1) := by decide +kernel
theorem dX5_behind_51 : decode cX5_behind 51 = .ok (.getfield 28, 3) := by decide +kernel
theorem dX5_behind_54 : decode cX5_behind 54 = .ok (.iload_n 1, 1) := by decide +kernel
theorem dX5_behind_55 : decode cX5_behind 55 = .ok (.iaload, 1) := by decide +kernel
theorem dX5_behind_56 : decode cX5_behind 56 = .ok (.iconst 1, 1) := by decide +kernel
theorem dX5_behind_57 : decode cX5_behind 57 = .ok (.isub, 1) := by decide +kernel
theorem dX5_behind_58 : decode cX5_behind 58 = .ok (.if_icmp .eq 7, 3) := by decide +kernel
theorem dX5_behind_61 : decode cX5_behind 61 = .ok (.iconst 1, 1) := by decide +kernel
theorem dX5_behind_62 : decode cX5_behind 62 = .ok (.goto 4, 3) := by decide +kernel
theorem dX5_behind_65 : decode cX5_behind 65 = .ok (.iconst 0, 1) := by decide +kernel
theorem dX5_behind_66 : decode cX5_behind 66 = .ok (.iadd, 1) := by decide +kernel
theorem dX5_behind_67 : decode cX5_behind 67 = .ok (.istore_n 2, 1) := by decide +kernel
theorem dX5_behind_68 : decode cX5_behind 68 = .ok (.iinc 3 1, 3) := by decide +kernel
theorem dX5_behind_71 : decode cX5_behind 71 = .ok (.goto (-50), 3) := by decide +kernel
theorem dX5_behind_74 : decode cX5_behind 74 = .ok (.iload_n 2, 1) := by decide +kernel
theorem dX5_behind_75 : decode cX5_behind 75 = .ok (.ireturn, 1) := by decide +kernel
theorem dX5_writes_0 : decode cX5_writes 0 = .ok (.aload_n 0, 1) := by decide +kernel
theorem dX5_writes_1 : decode cX5_writes 1 = .ok (.getfield 55, 3) := by decide +kernel
theorem dX5_writes_4 : decode cX5_writes 4 = .ok (.sipush 200, 3) := by decide +kernel
theorem dX5_writes_7 : decode cX5_writes 7 = .ok (.iload_n 1, 1) := by decide +kernel
theorem dX5_writes_8 : decode cX5_writes 8 = .ok (.imul, 1) := by decide +kernel
theorem dX5_writes_9 : decode cX5_writes 9 = .ok (.aload_n 0, 1) := by decide +kernel
theorem dX5_writes_10 : decode cX5_writes 10 = .ok (.getfield 58, 3) := by decide +kernel
theorem dX5_writes_13 : decode cX5_writes 13 = .ok (.iload_n 1, 1) := by decide +kernel
theorem dX5_writes_14 : decode cX5_writes 14 = .ok (.iaload, 1) := by decide +kernel
theorem dX5_writes_15 : decode cX5_writes 15 = .ok (.iadd, 1) := by decide +kernel
theorem dX5_writes_16 : decode cX5_writes 16 = .ok (.iload_n 2, 1) := by decide +kernel
theorem dX5_writes_17 : decode cX5_writes 17 = .ok (.iastore, 1) := by decide +kernel
theorem dX5_writes_18 : decode cX5_writes 18 = .ok (.aload_n 0, 1) := by decide +kernel
theorem dX5_writes_19 : decode cX5_writes 19 = .ok (.getfield 58, 3) := by decide +kernel
theorem dX5_writes_22 : decode cX5_writes 22 = .ok (.iload_n 1, 1) := by decide +kernel
theorem dX5_writes_23 : decode cX5_writes 23 = .ok (.dup2, 1) := by decide +kernel
theorem dX5_writes_24 : decode cX5_writes 24 = .ok (.iaload, 1) := by decide +kernel
theorem dX5_writes_25 : decode cX5_writes 25 = .ok (.iconst 1, 1) := by decide +kernel
theorem dX5_writes_26 : decode cX5_writes 26 = .ok (.iadd, 1) := by decide +kernel
theorem dX5_writes_27 : decode cX5_writes 27 = .ok (.iastore, 1) := by decide +kernel
theorem dX5_writes_28 : decode cX5_writes 28 = .ok (.return_, 1) := by decide +kernel
set_option maxRecDepth 20000 in
theorem ggX5_writesDay_X5_writes : GoodIn wsX5_writesDay wsX5_writes := goodIn_r _ [6, 7, 8, 9, 10, 11, 12, 13, 14, 15, 16, 17, 18, 19, 20, 21, 22, 23, 24, 25, 26, 27, 28, 29, 30, 31, 32, 33, 34] (by decide +kernel) (by decide +kernel)
set_option maxRecDepth 20000 in
theorem gX5_writesDay_X5_writes : GoodIn wsX5_writesDay (wsV RX5 105 RX5 yX5_writes wsX5_writes) := goodIn_app (goodIn_of _ (by decide +kernel)) ggX5_writesDay_X5_writes
theorem dX5_writesDay_0 : decode cX5_writesDay 0 = .ok (.sipush 1000, 3) := by decide +kernel
theorem dX5_writesDay_3 : decode cX5_writesDay 3 = .ok (.istore_n 2, 1) := by decide +kernel
theorem dX5_writesDay_4 : decode cX5_writesDay 4 = .ok (.iload_n 2, 1) := by decide +kernel
theorem dX5_writesDay_5 : decode cX5_writesDay 5 = .ok (.ifCond .le 41, 3) := by decide +kernel
theorem dX5_writesDay_8 : decode cX5_writesDay 8 = .ok (.aload_n 0, 1) := by decide +kernel
theorem dX5_writesDay_9 : decode cX5_writesDay 9 = .ok (.getfield 92, 3) := by decide +kernel
theorem dX5_writesDay_12 : decode cX5_writesDay 12 = .ok (.iload_n 2, 1) := by decide +kernel
theorem dX5_writesDay_13 : decode cX5_writesDay 13 = .ok (.if_icmp .ge 8, 3) := by decide +kernel
theorem dX5_writesDay_16 : decode cX5_writesDay 16 = .ok (.iload_n 2, 1) := by decide +kernel
theorem dX5_writesDay_17 : decode cX5_writesDay 17 = .ok (.iconst 1, 1) := by decide +kernel
theorem dX5_writesDay_18 : decode cX5_writesDay 18 = .ok (.if_icmp .ne 20, 3) := by decide +kernel
theorem dX5_writesDay_21 : decode cX5_writesDay 21 = .ok (.aload_n 0, 1) := by decide +kernel
theorem dX5_writesDay_22 : decode cX5_writesDay 22 = .ok (.iload_n 1, 1) := by decide +kernel
theorem dX5_writesDay_23 : decode cX5_writesDay 23 = .ok (.bipush 48, 2) := by decide +kernel
theorem dX5_writesDay_25 : decode cX5_writesDay 25 = .ok (.aload_n 0, 1) := by decide +kernel
theorem dX5_writesDay_26 : decode cX5_writesDay 26 = .ok (.getfield 92, 3) := by decide +kernel
theorem dX5_writesDay_29 : decode cX5_writesDay 29 = .ok (.iload_n 2, 1) := by decide +kernel
theorem dX5_writesDay_30 : decode cX5_writesDay 30 = .ok (.idiv, 1) := by decide +kernel
theorem dX5_writesDay_31 : decode cX5_writesDay 31 = .ok (.bipush 10, 2) := by decide +kernel
theorem dX5_writesDay_33 : decode cX5_writesDay 33 = .ok (.irem, 1) := by decide +kernel
theorem dX5_writesDay_34 : decode cX5_writesDay 34 = .ok (.iadd, 1) := by decide +kernel
theorem dX5_writesDay_35 : decode cX5_writesDay 35 = .ok (.invokevirtual 105, 3) := by decide +kernel
theorem dX5_writesDay_38 : decode cX5_writesDay 38 = .ok (.iload_n 2, 1) := by decide +kernel
theorem dX5_writesDay_39 : decode cX5_writesDay 39 = .ok (.bipush 10, 2) := by decide +kernel
theorem dX5_writesDay_41 : decode cX5_writesDay 41 = .ok (.idiv, 1) := by decide +kernel
theorem dX5_writesDay_42 : decode cX5_writesDay 42 = .ok (.istore_n 2, 1) := by decide +kernel
theorem dX5_writesDay_43 : decode cX5_writesDay 43 = .ok (.goto (-39), 3) := by decide +kernel
theorem dX5_writesDay_46 : decode cX5_writesDay 46 = .ok (.return_, 1) := by decide +kernel
theorem dX5_isPortMark_0 : decode cX5_isPortMark 0 = .ok (.iload_n 0, 1) := by decide +kernel
theorem dX5_isPortMark_1 : decode cX5_isPortMark 1 = .ok (.bipush 65, 2) := by decide +kernel
theorem dX5_isPortMark_3 : decode cX5_isPortMark 3 = .ok (.if_icmp .lt 13, 3) := by decide +kernel
theorem dX5_isPortMark_6 : decode cX5_isPortMark 6 = .ok (.iload_n 0, 1) := by decide +kernel
theorem dX5_isPortMark_7 : decode cX5_isPortMark 7 = .ok (.bipush 74, 2) := by decide +kernel
theorem dX5_isPortMark_9 : decode cX5_isPortMark 9 = .ok (.if_icmp .gt 7, 3) := by decide +kernel
theorem dX5_isPortMark_12 : decode cX5_isPortMark 12 = .ok (.iconst 1, 1) := by decide +kernel
theorem dX5_isPortMark_13 : decode cX5_isPortMark 13 = .ok (.goto 4, 3) := by decide +kernel
theorem dX5_isPortMark_16 : decode cX5_isPortMark 16 = .ok (.iconst 0, 1) := by decide +kernel
theorem dX5_isPortMark_17 : decode cX5_isPortMark 17 = .ok (.ireturn, 1) := by decide +kernel
set_option maxRecDepth 20000 in
theorem ggX5_strikesOut_X5_isPortMark : GoodIn wsX5_strikesOut wsX5_isPortMark := goodIn_r _ [6] (by decide +kernel) (by decide +kernel)
set_option maxRecDepth 20000 in
theorem gX5_strikesOut_X5_isPortMark : GoodIn wsX5_strikesOut (va_wsS RX5 109 yX5_isPortMark wsX5_isPortMark) := goodIn_app (goodIn_of _ (by decide +kernel)) ggX5_strikesOut_X5_isPortMark
theorem dX5_strikesOut_0 : decode cX5_strikesOut 0 = .ok (.aload_n 0, 1) := by decide +kernel
theorem dX5_strikesOut_1 : decode cX5_strikesOut 1 = .ok (.getfield 58, 3) := by decide +kernel
theorem dX5_strikesOut_4 : decode cX5_strikesOut 4 = .ok (.iload_n 1, 1) := by decide +kernel
theorem dX5_strikesOut_5 : decode cX5_strikesOut 5 = .ok (.iaload, 1) := by decide +kernel
theorem dX5_strikesOut_6 : decode cX5_strikesOut 6 = .ok (.istore_n 2, 1) := by decide +kernel
theorem dX5_strikesOut_7 : decode cX5_strikesOut 7 = .ok (.iconst 0, 1) := by decide +kernel
theorem dX5_strikesOut_8 : decode cX5_strikesOut 8 = .ok (.istore_n 3, 1) := by decide +kernel
theorem dX5_strikesOut_9 : decode cX5_strikesOut 9 = .ok (.iload_n 3, 1) := by decide +kernel
theorem dX5_strikesOut_10 : decode cX5_strikesOut 10 = .ok (.ifCond .ne 45, 3) := by decide +kernel
theorem dX5_strikesOut_13 : decode cX5_strikesOut 13 = .ok (.iinc 2 (-1), 3) := by decide +kernel
theorem dX5_strikesOut_16 : decode cX5_strikesOut 16 = .ok (.aload_n 0, 1) := by decide +kernel
theorem dX5_strikesOut_17 : decode cX5_strikesOut 17 = .ok (.getfield 55, 3) := by decide +kernel
theorem dX5_strikesOut_20 : decode cX5_strikesOut 20 = .ok (.sipush 200, 3) := by decide +kernel
theorem dX5_strikesOut_23 : decode cX5_strikesOut 23 = .ok (.iload_n 1, 1) := by decide +kernel
theorem dX5_strikesOut_24 : decode cX5_strikesOut 24 = .ok (.imul, 1) := by decide +kernel
theorem dX5_strikesOut_25 : decode cX5_strikesOut 25 = .ok (.iload_n 2, 1) := by decide +kernel
theorem dX5_strikesOut_26 : decode cX5_strikesOut 26 = .ok (.iadd, 1) := by decide +kernel
theorem dX5_strikesOut_27 : decode cX5_strikesOut 27 = .ok (.iaload, 1) := by decide +kernel
theorem dX5_strikesOut_28 : decode cX5_strikesOut 28 = .ok (.istore 4, 2) := by decide +kernel
theorem dX5_strikesOut_30 : decode cX5_strikesOut 30 = .ok (.aload_n 0, 1) := by decide +kernel
theorem dX5_strikesOut_31 : decode cX5_strikesOut 31 = .ok (.getfield 55, 3) := by decide +kernel
theorem dX5_strikesOut_34 : decode cX5_strikesOut 34 = .ok (.sipush 200, 3) := by decide +kernel
theorem dX5_strikesOut_37 : decode cX5_strikesOut 37 = .ok (.iload_n 1, 1) := by decide +kernel
theorem dX5_strikesOut_38 : decode cX5_strikesOut 38 = .ok (.imul, 1) := by decide +kernel
theorem dX5_strikesOut_39 : decode cX5_strikesOut 39 = .ok (.iload_n 2, 1) := by decide +kernel
theorem dX5_strikesOut_40 : decode cX5_strikesOut 40 = .ok (.iadd, 1) := by decide +kernel
theorem dX5_strikesOut_41 : decode cX5_strikesOut 41 = .ok (.iconst 1, 1) := by decide +kernel
theorem dX5_strikesOut_42 : decode cX5_strikesOut 42 = .ok (.iadd, 1) := by decide +kernel
theorem dX5_strikesOut_43 : decode cX5_strikesOut 43 = .ok (.iload 4, 2) := by decide +kernel
theorem dX5_strikesOut_45 : decode cX5_strikesOut 45 = .ok (.iastore, 1) := by decide +kernel
theorem dX5_strikesOut_46 : decode cX5_strikesOut 46 = .ok (.iload 4, 2) := by decide +kernel
theorem dX5_strikesOut_48 : decode cX5_strikesOut 48 = .ok (.invokestatic 109, 3) := by decide +kernel
theorem dX5_strikesOut_51 : decode cX5_strikesOut 51 = .ok (.istore_n 3, 1) := by decide +kernel
theorem dX5_strikesOut_52 : decode cX5_strikesOut 52 = .ok (.goto (-43), 3) := by decide +kernel
theorem dX5_strikesOut_55 : decode cX5_strikesOut 55 = .ok (.aload_n 0, 1) := by decide +kernel
theorem dX5_strikesOut_56 : decode cX5_strikesOut 56 = .ok (.getfield 55, 3) := by decide +kernel
theorem dX5_strikesOut_59 : decode cX5_strikesOut 59 = .ok (.sipush 200, 3) := by decide +kernel
theorem dX5_strikesOut_62 : decode cX5_strikesOut 62 = .ok (.iload_n 1, 1) := by decide +kernel
theorem dX5_strikesOut_63 : decode cX5_strikesOut 63 = .ok (.imul, 1) := by decide +kernel
theorem dX5_strikesOut_64 : decode cX5_strikesOut 64 = .ok (.iload_n 2, 1) := by decide +kernel
theorem dX5_strikesOut_65 : decode cX5_strikesOut 65 = .ok (.iadd, 1) := by decide +kernel
theorem dX5_strikesOut_66 : decode cX5_strikesOut 66 = .ok (.bipush 45, 2) := by decide +kernel
theorem dX5_strikesOut_68 : decode cX5_strikesOut 68 = .ok (.iastore, 1) := by decide +kernel
theorem dX5_strikesOut_69 : decode cX5_strikesOut 69 = .ok (.aload_n 0, 1) := by decide +kernel
theorem dX5_strikesOut_70 : decode cX5_strikesOut 70 = .ok (.getfield 58, 3) := by decide +kernel
theorem dX5_strikesOut_73 : decode cX5_strikesOut 73 = .ok (.iload_n 1, 1) := by decide +kernel
theorem dX5_strikesOut_74 : decode cX5_strikesOut 74 = .ok (.dup2, 1) := by decide +kernel
theorem dX5_strikesOut_75 : decode cX5_strikesOut 75 = .ok (.iaload, 1) := by decide +kernel
theorem dX5_strikesOut_76 : decode cX5_strikesOut 76 = .ok (.iconst 1, 1) := by decide +kernel
theorem dX5_strikesOut_77 : decode cX5_strikesOut 77 = .ok (.iadd, 1) := by decide +kernel
theorem dX5_strikesOut_78 : decode cX5_strikesOut 78 = .ok (.iastore, 1) := by decide +kernel
theorem dX5_strikesOut_79 : decode cX5_strikesOut 79 = .ok (.return_, 1) := by decide +kernel
theorem dX5_isShut_0 : decode cX5_isShut 0 = .ok (.aload_n 0, 1) := by decide +kernel
theorem dX5_isShut_1 : decode cX5_isShut 1 = .ok (.getfield 92, 3) := by decide +kernel
theorem dX5_isShut_4 : decode cX5_isShut 4 = .ok (.aload_n 0, 1) := by decide +kernel
theorem dX5_isShut_5 : decode cX5_isShut 5 = .ok (.getfield 67, 3) := by decide +kernel
theorem dX5_isShut_8 : decode cX5_isShut 8 = .ok (.iload_n 1, 1) := by decide +kernel
theorem dX5_isShut_9 : decode cX5_isShut 9 = .ok (.iaload, 1) := by decide +kernel
theorem dX5_isShut_10 : decode cX5_isShut 10 = .ok (.if_icmp .ge 7, 3) := by decide +kernel
theorem dX5_isShut_13 : decode cX5_isShut 13 = .ok (.iconst 1, 1) := by decide +kernel
theorem dX5_isShut_14 : decode cX5_isShut 14 = .ok (.goto 4, 3) := by decide +kernel
theorem dX5_isShut_17 : decode cX5_isShut 17 = .ok (.iconst 0, 1) := by decide +kernel
theorem dX5_isShut_18 : decode cX5_isShut 18 = .ok (.ireturn, 1) := by decide +kernel
set_option maxRecDepth 20000 in
theorem ggX5_dies_X5_writes : GoodIn wsX5_dies wsX5_writes := goodIn_r _ [8, 9, 10, 11, 12, 13, 14, 15, 16, 17, 18, 19, 20, 21, 22, 23, 24, 25, 26, 27, 28, 29, 30, 31, 32, 33, 34, 35, 36] (by decide +kernel) (by decide +kernel)
set_option maxRecDepth 20000 in
theorem gX5_dies_X5_writes : GoodIn wsX5_dies (wsV RX5 105 RX5 yX5_writes wsX5_writes) := goodIn_app (goodIn_of _ (by decide +kernel)) ggX5_dies_X5_writes
theorem dX5_dies_0 : decode cX5_dies 0 = .ok (.aload_n 0, 1) := by decide +kernel
theorem dX5_dies_1 : decode cX5_dies 1 = .ok (.getfield 40, 3) := by decide +kernel
theorem dX5_dies_4 : decode cX5_dies 4 = .ok (.iload_n 1, 1) := by decide +kernel
theorem dX5_dies_5 : decode cX5_dies 5 = .ok (.iconst 5, 1) := by decide +kernel
theorem dX5_dies_6 : decode cX5_dies 6 = .ok (.iastore, 1) := by decide +kernel
theorem dX5_dies_7 : decode cX5_dies 7 = .ok (.aload_n 0, 1) := by decide +kernel
theorem dX5_dies_8 : decode cX5_dies 8 = .ok (.iload_n 1, 1) := by decide +kernel
theorem dX5_dies_9 : decode cX5_dies 9 = .ok (.bipush 43, 2) := by decide +kernel
theorem dX5_dies_11 : decode cX5_dies 11 = .ok (.invokevirtual 105, 3) := by decide +kernel
theorem dX5_dies_14 : decode cX5_dies 14 = .ok (.aload_n 0, 1) := by decide +kernel
theorem dX5_dies_15 : decode cX5_dies 15 = .ok (.getfield 61, 3) := by decide +kernel
theorem dX5_dies_18 : decode cX5_dies 18 = .ok (.aload_n 0, 1) := by decide +kernel
theorem dX5_dies_19 : decode cX5_dies 19 = .ok (.getfield 112, 3) := by decide +kernel
theorem dX5_dies_22 : decode cX5_dies 22 = .ok (.iload_n 1, 1) := by decide +kernel
theorem dX5_dies_23 : decode cX5_dies 23 = .ok (.iastore, 1) := by decide +kernel
theorem dX5_dies_24 : decode cX5_dies 24 = .ok (.aload_n 0, 1) := by decide +kernel
theorem dX5_dies_25 : decode cX5_dies 25 = .ok (.dup, 1) := by decide +kernel
theorem dX5_dies_26 : decode cX5_dies 26 = .ok (.getfield 112, 3) := by decide +kernel
theorem dX5_dies_29 : decode cX5_dies 29 = .ok (.iconst 1, 1) := by decide +kernel
theorem dX5_dies_30 : decode cX5_dies 30 = .ok (.iadd, 1) := by decide +kernel
theorem dX5_dies_31 : decode cX5_dies 31 = .ok (.putfield 112, 3) := by decide +kernel
theorem dX5_dies_34 : decode cX5_dies 34 = .ok (.return_, 1) := by decide +kernel
theorem dX5_isCallHere_0 : decode cX5_isCallHere 0 = .ok (.iconst 0, 1) := by decide +kernel
theorem dX5_isCallHere_1 : decode cX5_isCallHere 1 = .ok (.istore_n 3, 1) := by decide +kernel
theorem dX5_isCallHere_2 : decode cX5_isCallHere 2 = .ok (.bipush 6, 2) := by decide +kernel
theorem dX5_isCallHere_4 : decode cX5_isCallHere 4 = .ok (.iload_n 1, 1) := by decide +kernel
theorem dX5_isCallHere_5 : decode cX5_isCallHere 5 = .ok (.imul, 1) := by decide +kernel
theorem dX5_isCallHere_6 : decode cX5_isCallHere 6 = .ok (.istore 4, 2) := by decide +kernel
theorem dX5_isCallHere_8 : decode cX5_isCallHere 8 = .ok (.iload 4, 2) := by decide +kernel
theorem dX5_isCallHere_10 : decode cX5_isCallHere 10 = .ok (.bipush 6, 2) := by decide +kernel
theorem dX5_isCallHere_12 : decode cX5_isCallHere 12 = .ok (.iload_n 1, 1) := by decide +kernel
theorem dX5_isCallHere_13 : decode cX5_isCallHere 13 = .ok (.imul, 1) := by decide +kernel
theorem dX5_isCallHere_14 : decode cX5_isCallHere 14 = .ok (.aload_n 0, 1) := by decide +kernel
theorem dX5_isCallHere_15 : decode cX5_isCallHere 15 = .ok (.getfield 16, 3) := by decide +kernel
theorem dX5_isCallHere_18 : decode cX5_isCallHere 18 = .ok (.iload_n 1, 1) := by decide +kernel
theorem dX5_isCallHere_19 : decode cX5_isCallHere 19 = .ok (.iaload, 1) := by decide +kernel
theorem dX5_isCallHere_20 : decode cX5_isCallHere 20 = .ok (.iadd, 1) := by decide +kernel
theorem dX5_isCallHere_21 : decode cX5_isCallHere 21 = .ok (.if_icmp .ge 44, 3) := by decide +kernel
theorem dX5_isCallHere_24 : decode cX5_isCallHere 24 = .ok (.iload_n 3, 1) := by decide +kernel
theorem dX5_isCallHere_25 : decode cX5_isCallHere 25 = .ok (.ifCond .ne 28, 3) := by decide +kernel
theorem dX5_isCallHere_28 : decode cX5_isCallHere 28 = .ok (.aload_n 0, 1) := by decide +kernel
theorem dX5_isCallHere_29 : decode cX5_isCallHere 29 = .ok (.getfield 19, 3) := by decide +kernel
theorem dX5_isCallHere_32 : decode cX5_isCallHere 32 = .ok (.iload 4, 2) := by decide +kernel
theorem dX5_isCallHere_34 : decode cX5_isCallHere 34 = .ok (.iaload, 1) := by decide +kernel
theorem dX5_isCallHere_35 : decode cX5_isCallHere 35 = .ok (.iload_n 2, 1) := by decide +kernel
theorem dX5_isCallHere_36 : decode cX5_isCallHere 36 = .ok (.if_icmp .ne 21, 3) := by decide +kernel
theorem dX5_isCallHere_39 : decode cX5_isCallHere 39 = .ok (.aload_n 0, 1) := by decide +kernel
theorem dX5_isCallHere_40 : decode cX5_isCallHere 40 = .ok (.getfield 22, 3) := by decide +kernel
theorem dX5_isCallHere_43 : decode cX5_isCallHere 43 = .ok (.iload 4, 2) := by decide +kernel
theorem dX5_isCallHere_45 : decode cX5_isCallHere 45 = .ok (.iaload, 1) := by decide +kernel
theorem dX5_isCallHere_46 : decode cX5_isCallHere 46 = .ok (.aload_n 0, 1) := by decide +kernel
theorem dX5_isCallHere_47 : decode cX5_isCallHere 47 = .ok (.getfield 92, 3) := by decide +kernel
theorem dX5_isCallHere_50 : decode cX5_isCallHere 50 = .ok (.if_icmp .le 7, 3) := by decide +kernel
theorem dX5_isCallHere_53 : decode cX5_isCallHere 53 = .ok (.iconst 1, 1) := by decide +kernel
theorem dX5_isCallHere_54 : decode cX5_isCallHere 54 = .ok (.goto 4, 3) := by decide +kernel
theorem dX5_isCallHere_57 : decode cX5_isCallHere 57 = .ok (.iconst 0, 1) := by decide +kernel
theorem dX5_isCallHere_58 : decode cX5_isCallHere 58 = .ok (.istore_n 3, 1) := by decide +kernel
theorem dX5_isCallHere_59 : decode cX5_isCallHere 59 = .ok (.iinc 4 1, 3) := by decide +kernel
theorem dX5_isCallHere_62 : decode cX5_isCallHere 62 = .ok (.goto (-54), 3) := by decide +kernel
theorem dX5_isCallHere_65 : decode cX5_isCallHere 65 = .ok (.iload_n 3, 1) := by decide +kernel
theorem dX5_isCallHere_66 : decode cX5_isCallHere 66 = .ok (.ireturn, 1) := by decide +kernel
set_option maxRecDepth 20000 in
theorem ggX5_meets_X5_apart : GoodIn wsX5_meets wsX5_apart := goodIn_r _ [9] (by decide +kernel) (by decide +kernel)
set_option maxRecDepth 20000 in
theorem gX5_meets_X5_apart : GoodIn wsX5_meets (va_wsS RX5 99 yX5_apart wsX5_apart) := goodIn_app (goodIn_of _ (by decide +kernel)) ggX5_meets_X5_apart
theorem dX5_meets_0 : decode cX5_meets 0 = .ok (.iconst (-1), 1) := by decide +kernel
theorem dX5_meets_1 : decode cX5_meets 1 = .ok (.istore_n 3, 1) := by decide +kernel
theorem dX5_meets_2 : decode cX5_meets 2 = .ok (.iconst 0, 1) := by decide +kernel
theorem dX5_meets_3 : decode cX5_meets 3 = .ok (.istore 4, 2) := by decide +kernel
theorem dX5_meets_5 : decode cX5_meets 5 = .ok (.bipush 6, 2) := by decide +kernel
theorem dX5_meets_7 : decode cX5_meets 7 = .ok (.iload_n 1, 1) := by decide +kernel
theorem dX5_meets_8 : decode cX5_meets 8 = .ok (.imul, 1) := by decide +kernel
theorem dX5_meets_9 : decode cX5_meets 9 = .ok (.istore 5, 2) := by decide +kernel
theorem dX5_meets_11 : decode cX5_meets 11 = .ok (.iload 5, 2) := by decide +kernel
theorem dX5_meets_13 : decode cX5_meets 13 = .ok (.bipush 6, 2) := by decide +kernel
theorem dX5_meets_15 : decode cX5_meets 15 = .ok (.iload_n 1, 1) := by decide +kernel
theorem dX5_meets_16 : decode cX5_meets 16 = .ok (.imul, 1) := by decide +kernel
theorem dX5_meets_17 : decode cX5_meets 17 = .ok (.aload_n 0, 1) := by decide +kernel
theorem dX5_meets_18 : decode cX5_meets 18 = .ok (.getfield 16, 3) := by decide +kernel
theorem dX5_meets_21 : decode cX5_meets 21 = .ok (.iload_n 1, 1) := by decide +kernel
theorem dX5_meets_22 : decode cX5_meets 22 = .ok (.iaload, 1) := by decide +kernel
theorem dX5_meets_23 : decode cX5_meets 23 = .ok (.iadd, 1) := by decide +kernel
theorem dX5_meets_24 : decode cX5_meets 24 = .ok (.if_icmp .ge 97, 3) := by decide +kernel
theorem dX5_meets_27 : decode cX5_meets 27 = .ok (.aload_n 0, 1) := by decide +kernel
theorem dX5_meets_28 : decode cX5_meets 28 = .ok (.getfield 92, 3) := by decide +kernel
theorem dX5_meets_31 : decode cX5_meets 31 = .ok (.iload_n 2, 1) := by decide +kernel
theorem dX5_meets_32 : decode cX5_meets 32 = .ok (.aload_n 0, 1) := by decide +kernel
theorem dX5_meets_33 : decode cX5_meets 33 = .ok (.getfield 19, 3) := by decide +kernel
theorem dX5_meets_36 : decode cX5_meets 36 = .ok (.iload 5, 2) := by decide +kernel
theorem dX5_meets_38 : decode cX5_meets 38 = .ok (.iaload, 1) := by decide +kernel
theorem dX5_meets_39 : decode cX5_meets 39 = .ok (.invokestatic 99, 3) := by decide +kernel
theorem dX5_meets_42 : decode cX5_meets 42 = .ok (.iadd, 1) := by decide +kernel
theorem dX5_meets_43 : decode cX5_meets 43 = .ok (.iconst 1, 1) := by decide +kernel
theorem dX5_meets_44 : decode cX5_meets 44 = .ok (.iadd, 1) := by decide +kernel
theorem dX5_meets_45 : decode cX5_meets 45 = .ok (.istore 6, 2) := by decide +kernel
theorem dX5_meets_47 : decode cX5_meets 47 = .ok (.iload 6, 2) := by decide +kernel
theorem dX5_meets_49 : decode cX5_meets 49 = .ok (.aload_n 0, 1) := by decide +kernel
theorem dX5_meets_50 : decode cX5_meets 50 = .ok (.getfield 22, 3) := by decide +kernel
theorem dX5_meets_53 : decode cX5_meets 53 = .ok (.iload 5, 2) := by decide +kernel
theorem dX5_meets_55 : decode cX5_meets 55 = .ok (.iaload, 1) := by decide +kernel
theorem dX5_meets_56 : decode cX5_meets 56 = .ok (.if_icmp .le 8, 3) := by decide +kernel
theorem dX5_meets_59 : decode cX5_meets 59 = .ok (.iload 6, 2) := by decide +kernel
theorem dX5_meets_61 : decode cX5_meets 61 = .ok (.goto 10, 3) := by decide +kernel
theorem dX5_meets_64 : decode cX5_meets 64 = .ok (.aload_n 0, 1) := by decide +kernel
theorem dX5_meets_65 : decode cX5_meets 65 = .ok (.getfield 22, 3) := by decide +kernel
theorem dX5_meets_68 : decode cX5_meets 68 = .ok (.iload 5, 2) := by decide +kernel
theorem dX5_meets_70 : decode cX5_meets 70 = .ok (.iaload, 1) := by decide +kernel
theorem dX5_meets_71 : decode cX5_meets 71 = .ok (.istore 7, 2) := by decide +kernel
theorem dX5_meets_73 : decode cX5_meets 73 = .ok (.aload_n 0, 1) := by decide +kernel
theorem dX5_meets_74 : decode cX5_meets 74 = .ok (.getfield 19, 3) := by decide +kernel
theorem dX5_meets_77 : decode cX5_meets 77 = .ok (.iload 5, 2) := by decide +kernel
theorem dX5_meets_79 : decode cX5_meets 79 = .ok (.iaload, 1) := by decide +kernel
theorem dX5_meets_80 : decode cX5_meets 80 = .ok (.iload_n 2, 1) := by decide +kernel
theorem dX5_meets_81 : decode cX5_meets 81 = .ok (.if_icmp .eq 34, 3) := by decide +kernel
theorem dX5_meets_84 : decode cX5_meets 84 = .ok (.aload_n 0, 1) := by decide +kernel
theorem dX5_meets_85 : decode cX5_meets 85 = .ok (.getfield 25, 3) := by decide +kernel
theorem dX5_meets_88 : decode cX5_meets 88 = .ok (.iload 5, 2) := by decide +kernel
theorem dX5_meets_90 : decode cX5_meets 90 = .ok (.iaload, 1) := by decide +kernel
theorem dX5_meets_91 : decode cX5_meets 91 = .ok (.iload 6, 2) := by decide +kernel
theorem dX5_meets_93 : decode cX5_meets 93 = .ok (.if_icmp .lt 22, 3) := by decide +kernel
theorem dX5_meets_96 : decode cX5_meets 96 = .ok (.iload_n 3, 1) := by decide +kernel
theorem dX5_meets_97 : decode cX5_meets 97 = .ok (.iconst (-1), 1) := by decide +kernel
theorem dX5_meets_98 : decode cX5_meets 98 = .ok (.if_icmp .eq 10, 3) := by decide +kernel
theorem dX5_meets_101 : decode cX5_meets 101 = .ok (.iload 7, 2) := by decide +kernel
theorem dX5_meets_103 : decode cX5_meets 103 = .ok (.iload 4, 2) := by decide +kernel
theorem dX5_meets_105 : decode cX5_meets 105 = .ok (.if_icmp .ge 10, 3) := by decide +kernel
theorem dX5_meets_108 : decode cX5_meets 108 = .ok (.iload 5, 2) := by decide +kernel
theorem dX5_meets_110 : decode cX5_meets 110 = .ok (.istore_n 3, 1) := by decide +kernel
theorem dX5_meets_111 : decode cX5_meets 111 = .ok (.iload 7, 2) := by decide +kernel
theorem dX5_meets_113 : decode cX5_meets 113 = .ok (.istore 4, 2) := by decide +kernel
theorem dX5_meets_115 : decode cX5_meets 115 = .ok (.iinc 5 1, 3) := by decide +kernel
theorem dX5_meets_118 : decode cX5_meets 118 = .ok (.goto (-107), 3) := by decide +kernel
theorem dX5_meets_121 : decode cX5_meets 121 = .ok (.iload_n 3, 1) := by decide +kernel
theorem dX5_meets_122 : decode cX5_meets 122 = .ok (.ireturn, 1) := by decide +kernel
set_option maxRecDepth 20000 in
theorem ggX5_goesOn_X5_dies : GoodIn wsX5_goesOn wsX5_dies := goodIn_r _ [10, 5, 11, 12, 13, 14, 15, 9, 16, 17, 18, 29, 30, 31, 32, 33, 34, 35, 36, 37, 38, 39, 40, 41, 42, 43, 44, 45, 46, 47, 48, 49, 50, 51, 52, 53, 54] (by decide +kernel) (by decide +kernel)
set_option maxRecDepth 20000 in
theorem gX5_goesOn_X5_dies : GoodIn wsX5_goesOn (wsV RX5 115 RX5 yX5_dies wsX5_dies) := goodIn_app (goodIn_of _ (by decide +kernel)) ggX5_goesOn_X5_dies
set_option maxRecDepth 20000 in
theorem ggX5_goesOn_X5_strikesOut : GoodIn wsX5_goesOn wsX5_strikesOut := goodIn_r _ [22, 18, 17, 23, 24, 9, 25, 29, 30, 31, 32, 33, 34, 35, 36, 37, 38, 39, 40, 41, 42, 43, 44, 45, 46, 47, 48, 49, 50, 51, 52, 53, 54] (by decide +kernel) (by decide +kernel)
set_option maxRecDepth 20000 in
theorem gX5_goesOn_X5_strikesOut : GoodIn wsX5_goesOn (wsV RX5 119 RX5 yX5_strikesOut wsX5_strikesOut) := goodIn_app (goodIn_of _ (by decide +kernel)) ggX5_goesOn_X5_strikesOut
set_option maxRecDepth 20000 in
theorem ggX5_goesOn_X5_writes : GoodIn wsX5_goesOn wsX5_writes := goodIn_r _ [16, 17, 18, 29, 30, 31, 32, 33, 34, 35, 36, 37, 38, 39, 40, 41, 42, 43, 44, 45, 46, 47, 48, 49, 50, 51, 52, 53, 54] (by decide +kernel) (by decide +kernel)
set_option maxRecDepth 20000 in
theorem gX5_goesOn_X5_writes : GoodIn wsX5_goesOn (wsV RX5 105 RX5 yX5_writes wsX5_writes) := goodIn_app (goodIn_of _ (by decide +kernel)) ggX5_goesOn_X5_writes
set_option maxRecDepth 20000 in
theorem ggX5_goesOn_X5_apart : GoodIn wsX5_goesOn wsX5_apart := goodIn_r _ [28] (by decide +kernel) (by decide +kernel)
set_option maxRecDepth 20000 in
theorem gX5_goesOn_X5_apart : GoodIn wsX5_goesOn (va_wsS RX5 99 yX5_apart wsX5_apart) := goodIn_app (goodIn_of _ (by decide +kernel)) ggX5_goesOn_X5_apart
theorem dX5_goesOn_0 : decode cX5_goesOn 0 = .ok (.aload_n 0, 1) := by decide +kernel
theorem dX5_goesOn_1 : decode cX5_goesOn 1 = .ok (.getfield 49, 3) := by decide +kernel
theorem dX5_goesOn_4 : decode cX5_goesOn 4 = .ok (.iload_n 1, 1) := by decide +kernel
theorem dX5_goesOn_5 : decode cX5_goesOn 5 = .ok (.iaload, 1) := by decide +kernel
theorem dX5_goesOn_6 : decode cX5_goesOn 6 = .ok (.bipush 6, 2) := by decide +kernel
theorem dX5_goesOn_8 : decode cX5_goesOn 8 = .ok (.if_icmp .ne 9, 3) := by decide +kernel
theorem dX5_goesOn_11 : decode cX5_goesOn 11 = .ok (.aload_n 0, 1) := by decide +kernel
theorem dX5_goesOn_12 : decode cX5_goesOn 12 = .ok (.iload_n 1, 1) := by decide +kernel
theorem dX5_goesOn_13 : decode cX5_goesOn 13 = .ok (.invokevirtual 115, 3) := by decide +kernel
theorem dX5_goesOn_16 : decode cX5_goesOn 16 = .ok (.return_, 1) := by decide +kernel
theorem dX5_goesOn_17 : decode cX5_goesOn 17 = .ok (.aload_n 0, 1) := by decide +kernel
theorem dX5_goesOn_18 : decode cX5_goesOn 18 = .ok (.iload_n 1, 1) := by decide +kernel
theorem dX5_goesOn_19 : decode cX5_goesOn 19 = .ok (.invokevirtual 119, 3) := by decide +kernel
theorem dX5_goesOn_22 : decode cX5_goesOn 22 = .ok (.aload_n 0, 1) := by decide +kernel
theorem dX5_goesOn_23 : decode cX5_goesOn 23 = .ok (.iload_n 1, 1) := by decide +kernel
theorem dX5_goesOn_24 : decode cX5_goesOn 24 = .ok (.bipush 62, 2) := by decide +kernel
theorem dX5_goesOn_26 : decode cX5_goesOn 26 = .ok (.invokevirtual 105, 3) := by decide +kernel
theorem dX5_goesOn_29 : decode cX5_goesOn 29 = .ok (.aload_n 0, 1) := by decide +kernel
theorem dX5_goesOn_30 : decode cX5_goesOn 30 = .ok (.iload_n 1, 1) := by decide +kernel
theorem dX5_goesOn_31 : decode cX5_goesOn 31 = .ok (.bipush 65, 2) := by decide +kernel
theorem dX5_goesOn_33 : decode cX5_goesOn 33 = .ok (.iload_n 2, 1) := by decide +kernel
theorem dX5_goesOn_34 : decode cX5_goesOn 34 = .ok (.iadd, 1) := by decide +kernel
theorem dX5_goesOn_35 : decode cX5_goesOn 35 = .ok (.invokevirtual 105, 3) := by decide +kernel
theorem dX5_goesOn_38 : decode cX5_goesOn 38 = .ok (.aload_n 0, 1) := by decide +kernel
theorem dX5_goesOn_39 : decode cX5_goesOn 39 = .ok (.getfield 46, 3) := by decide +kernel
theorem dX5_goesOn_42 : decode cX5_goesOn 42 = .ok (.iload_n 1, 1) := by decide +kernel
theorem dX5_goesOn_43 : decode cX5_goesOn 43 = .ok (.aload_n 0, 1) := by decide +kernel
theorem dX5_goesOn_44 : decode cX5_goesOn 44 = .ok (.getfield 92, 3) := by decide +kernel
theorem dX5_goesOn_47 : decode cX5_goesOn 47 = .ok (.aload_n 0, 1) := by decide +kernel
theorem dX5_goesOn_48 : decode cX5_goesOn 48 = .ok (.getfield 43, 3) := by decide +kernel
theorem dX5_goesOn_51 : decode cX5_goesOn 51 = .ok (.iload_n 1, 1) := by decide +kernel
theorem dX5_goesOn_52 : decode cX5_goesOn 52 = .ok (.iaload, 1) := by decide +kernel
theorem dX5_goesOn_53 : decode cX5_goesOn 53 = .ok (.iload_n 2, 1) := by decide +kernel
theorem dX5_goesOn_54 : decode cX5_goesOn 54 = .ok (.invokestatic 99, 3) := by decide +kernel
theorem dX5_goesOn_57 : decode cX5_goesOn 57 = .ok (.iadd, 1) := by decide +kernel
theorem dX5_goesOn_58 : decode cX5_goesOn 58 = .ok (.iconst 1, 1) := by decide +kernel
theorem dX5_goesOn_59 : decode cX5_goesOn 59 = .ok (.iadd, 1) := by decide +kernel
theorem dX5_goesOn_60 : decode cX5_goesOn 60 = .ok (.iastore, 1) := by decide +kernel
theorem dX5_goesOn_61 : decode cX5_goesOn 61 = .ok (.aload_n 0, 1) := by decide +kernel
theorem dX5_goesOn_62 : decode cX5_goesOn 62 = .ok (.getfield 43, 3) := by decide +kernel
theorem dX5_goesOn_65 : decode cX5_goesOn 65 = .ok (.iload_n 1, 1) := by decide +kernel
theorem dX5_goesOn_66 : decode cX5_goesOn 66 = .ok (.iload_n 2, 1) := by decide +kernel
theorem dX5_goesOn_67 : decode cX5_goesOn 67 = .ok (.iastore, 1) := by decide +kernel
theorem dX5_goesOn_68 : decode cX5_goesOn 68 = .ok (.aload_n 0, 1) := by decide +kernel
theorem dX5_goesOn_69 : decode cX5_goesOn 69 = .ok (.getfield 40, 3) := by decide +kernel
theorem dX5_goesOn_72 : decode cX5_goesOn 72 = .ok (.iload_n 1, 1) := by decide +kernel
theorem dX5_goesOn_73 : decode cX5_goesOn 73 = .ok (.iconst 3, 1) := by decide +kernel
theorem dX5_goesOn_74 : decode cX5_goesOn 74 = .ok (.iastore, 1) := by decide +kernel
theorem dX5_goesOn_75 : decode cX5_goesOn 75 = .ok (.aload_n 0, 1) := by decide +kernel
theorem dX5_goesOn_76 : decode cX5_goesOn 76 = .ok (.getfield 49, 3) := by decide +kernel
theorem dX5_goesOn_79 : decode cX5_goesOn 79 = .ok (.iload_n 1, 1) := by decide +kernel
theorem dX5_goesOn_80 : decode cX5_goesOn 80 = .ok (.dup2, 1) := by decide +kernel
theorem dX5_goesOn_81 : decode cX5_goesOn 81 = .ok (.iaload, 1) := by decide +kernel
theorem dX5_goesOn_82 : decode cX5_goesOn 82 = .ok (.iconst 1, 1) := by decide +kernel
theorem dX5_goesOn_83 : decode cX5_goesOn 83 = .ok (.iadd, 1) := by decide +kernel
theorem dX5_goesOn_84 : decode cX5_goesOn 84 = .ok (.iastore, 1) := by decide +kernel
theorem dX5_goesOn_85 : decode cX5_goesOn 85 = .ok (.return_, 1) := by decide +kernel
set_option maxRecDepth 20000 in
theorem ggX5_handles_X5_wordOf : GoodIn wsX5_handles wsX5_wordOf := goodIn_r _ [15, 16, 17, 18, 7, 19, 20, 14, 21, 22, 23, 24, 70, 71, 72, 73, 74, 75, 76, 77, 78, 79, 80, 81, 82, 83, 84, 85, 86, 87, 88, 89, 90, 91, 92, 93, 94, 95] (by decide +kernel) (by decide +kernel)
set_option maxRecDepth 20000 in
theorem gX5_handles_X5_wordOf : GoodIn wsX5_handles (wsV RX5 102 RX5 yX5_wordOf wsX5_wordOf) := goodIn_app (goodIn_of _ (by decide +kernel)) ggX5_handles_X5_wordOf
set_option maxRecDepth 20000 in
theorem ggX5_handles_X5_rowOf : GoodIn wsX5_handles wsX5_rowOf := goodIn_r _ [21] (by decide +kernel) (by decide +kernel)
set_option maxRecDepth 20000 in
theorem gX5_handles_X5_rowOf : GoodIn wsX5_handles (va_wsS RX5 88 yX5_rowOf wsX5_rowOf) := goodIn_app (goodIn_of _ (by decide +kernel)) ggX5_handles_X5_rowOf
set_option maxRecDepth 20000 in
theorem ggX5_handles_X5_isShut : GoodIn wsX5_handles wsX5_isShut := goodIn_r _ [28, 7, 29, 70, 71, 72, 73, 74, 75, 76, 77, 78, 79, 80, 81, 82, 83, 84, 85, 86, 87, 88, 89, 90, 91, 92, 93, 94, 95] (by decide +kernel) (by decide +kernel)
set_option maxRecDepth 20000 in
theorem gX5_handles_X5_isShut : GoodIn wsX5_handles (wsV RX5 122 RX5 yX5_isShut wsX5_isShut) := goodIn_app (goodIn_of _ (by decide +kernel)) ggX5_handles_X5_isShut
set_option maxRecDepth 20000 in
theorem ggX5_handles_X5_writes : GoodIn wsX5_handles wsX5_writes := goodIn_r _ [33, 34, 35, 70, 71, 72, 73, 74, 75, 76, 77, 78, 79, 80, 81, 82, 83, 84, 85, 86, 87, 88, 89, 90, 91, 92, 93, 94, 95] (by decide +kernel) (by decide +kernel)
set_option maxRecDepth 20000 in
theorem gX5_handles_X5_writes : GoodIn wsX5_handles (wsV RX5 105 RX5 yX5_writes wsX5_writes) := goodIn_app (goodIn_of _ (by decide +kernel)) ggX5_handles_X5_writes
set_option maxRecDepth 20000 in
theorem ggX5_handles_X5_placeOf : GoodIn wsX5_handles wsX5_placeOf := goodIn_r _ [39, 16, 40, 41, 7, 42, 10, 19, 20, 14, 21, 70, 71, 72, 73, 74, 75, 76, 77, 78, 79, 80, 81, 82, 83, 84, 85, 86, 87, 88, 89, 90, 91, 92, 93, 94, 95] (by decide +kernel) (by decide +kernel)
set_option maxRecDepth 20000 in
theorem gX5_handles_X5_placeOf : GoodIn wsX5_handles (wsV RX5 95 RX5 yX5_placeOf wsX5_placeOf) := goodIn_app (goodIn_of _ (by decide +kernel)) ggX5_handles_X5_placeOf
set_option maxRecDepth 20000 in
theorem ggX5_handles_X5_isCallHere : GoodIn wsX5_handles wsX5_isCallHere := goodIn_r _ [46, 40, 10, 41, 7, 70, 71, 72, 73, 74, 75, 76, 77, 78, 79, 80, 81, 82, 83, 84, 85, 86, 87, 88, 89, 90, 91, 92, 93, 94, 95] (by decide +kernel) (by decide +kernel)
set_option maxRecDepth 20000 in
theorem gX5_handles_X5_isCallHere : GoodIn wsX5_handles (wsV RX5 130 RX5 yX5_isCallHere wsX5_isCallHere) := goodIn_app (goodIn_of _ (by decide +kernel)) ggX5_handles_X5_isCallHere
set_option maxRecDepth 20000 in
theorem ggX5_handles_X5_meets : GoodIn wsX5_handles wsX5_meets := goodIn_r _ [50, 40, 7, 10, 41, 42, 22, 23, 14, 24, 70, 71, 72, 73, 74, 75, 76, 77, 78, 79, 80, 81, 82, 83, 84, 85, 86, 87, 88, 89, 90, 91, 92, 93, 94, 95] (by decide +kernel) (by decide +kernel)
set_option maxRecDepth 20000 in
theorem gX5_handles_X5_meets : GoodIn wsX5_handles (wsV RX5 134 RX5 yX5_meets wsX5_meets) := goodIn_app (goodIn_of _ (by decide +kernel)) ggX5_handles_X5_meets
set_option maxRecDepth 20000 in
theorem ggX5_handles_X5_goesOn : GoodIn wsX5_handles wsX5_goesOn := goodIn_r _ [54, 55, 56, 7, 1, 3, 57, 58, 59, 14, 60, 61, 62, 30, 31, 32, 33, 34, 35, 63, 64, 65, 66, 67, 68, 69, 22, 23, 24, 70, 71, 72, 73, 74, 75, 76, 77, 78, 79, 80, 81, 82, 83, 84, 85, 86, 87, 88, 89, 90, 91, 92, 93, 94, 95] (by decide +kernel) (by decide +kernel)
set_option maxRecDepth 20000 in
theorem gX5_handles_X5_goesOn : GoodIn wsX5_handles (wsV RX5 137 RX5 yX5_goesOn wsX5_goesOn) := goodIn_app (goodIn_of _ (by decide +kernel)) ggX5_handles_X5_goesOn
theorem dX5_handles_0 : decode cX5_handles 0 = .ok (.aload_n 0, 1) := by decide +kernel
theorem dX5_handles_1 : decode cX5_handles 1 = .ok (.getfield 43, 3) := by decide +kernel
theorem dX5_handles_4 : decode cX5_handles 4 = .ok (.iload_n 1, 1) := by decide +kernel
theorem dX5_handles_5 : decode cX5_handles 5 = .ok (.iaload, 1) := by decide +kernel
theorem dX5_handles_6 : decode cX5_handles 6 = .ok (.istore_n 2, 1) := by decide +kernel
theorem dX5_handles_7 : decode cX5_handles 7 = .ok (.aload_n 0, 1) := by decide +kernel
theorem dX5_handles_8 : decode cX5_handles 8 = .ok (.getfield 31, 3) := by decide +kernel
theorem dX5_handles_11 : decode cX5_handles 11 = .ok (.iload_n 1, 1) := by decide +kernel
theorem dX5_handles_12 : decode cX5_handles 12 = .ok (.iaload, 1) := by decide +kernel
theorem dX5_handles_13 : decode cX5_handles 13 = .ok (.istore_n 3, 1) := by decide +kernel
theorem dX5_handles_14 : decode cX5_handles 14 = .ok (.aload_n 0, 1) := by decide +kernel
theorem dX5_handles_15 : decode cX5_handles 15 = .ok (.iload_n 2, 1) := by decide +kernel
theorem dX5_handles_16 : decode cX5_handles 16 = .ok (.iload_n 3, 1) := by decide +kernel
theorem dX5_handles_17 : decode cX5_handles 17 = .ok (.invokevirtual 102, 3) := by decide +kernel
theorem dX5_handles_20 : decode cX5_handles 20 = .ok (.istore 4, 2) := by decide +kernel
theorem dX5_handles_22 : decode cX5_handles 22 = .ok (.iload_n 3, 1) := by decide +kernel
theorem dX5_handles_23 : decode cX5_handles 23 = .ok (.iload 4, 2) := by decide +kernel
theorem dX5_handles_25 : decode cX5_handles 25 = .ok (.iconst (-1), 1) := by decide +kernel
theorem dX5_handles_26 : decode cX5_handles 26 = .ok (.if_icmp .ne 7, 3) := by decide +kernel
theorem dX5_handles_29 : decode cX5_handles 29 = .ok (.iconst 0, 1) := by decide +kernel
theorem dX5_handles_30 : decode cX5_handles 30 = .ok (.goto 5, 3) := by decide +kernel
theorem dX5_handles_33 : decode cX5_handles 33 = .ok (.iload 4, 2) := by decide +kernel
theorem dX5_handles_35 : decode cX5_handles 35 = .ok (.invokestatic 88, 3) := by decide +kernel
theorem dX5_handles_38 : decode cX5_handles 38 = .ok (.istore 5, 2) := by decide +kernel
theorem dX5_handles_40 : decode cX5_handles 40 = .ok (.aload_n 0, 1) := by decide +kernel
theorem dX5_handles_41 : decode cX5_handles 41 = .ok (.iload_n 2, 1) := by decide +kernel
theorem dX5_handles_42 : decode cX5_handles 42 = .ok (.invokevirtual 122, 3) := by decide +kernel
theorem dX5_handles_45 : decode cX5_handles 45 = .ok (.ifCond .eq 36, 3) := by decide +kernel
theorem dX5_handles_48 : decode cX5_handles 48 = .ok (.aload_n 0, 1) := by decide +kernel
theorem dX5_handles_49 : decode cX5_handles 49 = .ok (.getfield 40, 3) := by decide +kernel
theorem dX5_handles_52 : decode cX5_handles 52 = .ok (.iload_n 1, 1) := by decide +kernel
theorem dX5_handles_53 : decode cX5_handles 53 = .ok (.iaload, 1) := by decide +kernel
theorem dX5_handles_54 : decode cX5_handles 54 = .ok (.ifCond .eq 17, 3) := by decide +kernel
theorem dX5_handles_57 : decode cX5_handles 57 = .ok (.aload_n 0, 1) := by decide +kernel
theorem dX5_handles_58 : decode cX5_handles 58 = .ok (.iload_n 1, 1) := by decide +kernel
theorem dX5_handles_59 : decode cX5_handles 59 = .ok (.ldc 125, 2) := by decide +kernel
theorem dX5_handles_61 : decode cX5_handles 61 = .ok (.invokevirtual 105, 3) := by decide +kernel
theorem dX5_handles_64 : decode cX5_handles 64 = .ok (.aload_n 0, 1) := by decide +kernel
theorem dX5_handles_65 : decode cX5_handles 65 = .ok (.iload_n 1, 1) := by decide +kernel
theorem dX5_handles_66 : decode cX5_handles 66 = .ok (.ldc 126, 2) := by decide +kernel
theorem dX5_handles_68 : decode cX5_handles 68 = .ok (.invokevirtual 105, 3) := by decide +kernel
theorem dX5_handles_71 : decode cX5_handles 71 = .ok (.aload_n 0, 1) := by decide +kernel
theorem dX5_handles_72 : decode cX5_handles 72 = .ok (.getfield 40, 3) := by decide +kernel
theorem dX5_handles_75 : decode cX5_handles 75 = .ok (.iload_n 1, 1) := by decide +kernel
theorem dX5_handles_76 : decode cX5_handles 76 = .ok (.iconst 0, 1) := by decide +kernel
theorem dX5_handles_77 : decode cX5_handles 77 = .ok (.iastore, 1) := by decide +kernel
theorem dX5_handles_78 : decode cX5_handles 78 = .ok (.goto 129, 3) := by decide +kernel
theorem dX5_handles_81 : decode cX5_handles 81 = .ok (.aload_n 0, 1) := by decide +kernel
theorem dX5_handles_82 : decode cX5_handles 82 = .ok (.iload_n 3, 1) := by decide +kernel
theorem dX5_handles_83 : decode cX5_handles 83 = .ok (.invokevirtual 95, 3) := by decide +kernel
theorem dX5_handles_86 : decode cX5_handles 86 = .ok (.iload_n 2, 1) := by decide +kernel
theorem dX5_handles_87 : decode cX5_handles 87 = .ok (.if_icmp .ne 50, 3) := by decide +kernel
theorem dX5_handles_90 : decode cX5_handles 90 = .ok (.aload_n 0, 1) := by decide +kernel
theorem dX5_handles_91 : decode cX5_handles 91 = .ok (.getfield 40, 3) := by decide +kernel
theorem dX5_handles_94 : decode cX5_handles 94 = .ok (.iload_n 1, 1) := by decide +kernel
theorem dX5_handles_95 : decode cX5_handles 95 = .ok (.iconst 1, 1) := by decide +kernel
theorem dX5_handles_96 : decode cX5_handles 96 = .ok (.iastore, 1) := by decide +kernel
theorem dX5_handles_97 : decode cX5_handles 97 = .ok (.aload_n 0, 1) := by decide +kernel
theorem dX5_handles_98 : decode cX5_handles 98 = .ok (.iload_n 1, 1) := by decide +kernel
theorem dX5_handles_99 : decode cX5_handles 99 = .ok (.bipush 33, 2) := by decide +kernel
theorem dX5_handles_101 : decode cX5_handles 101 = .ok (.invokevirtual 105, 3) := by decide +kernel
theorem dX5_handles_104 : decode cX5_handles 104 = .ok (.aload_n 0, 1) := by decide +kernel
theorem dX5_handles_105 : decode cX5_handles 105 = .ok (.getfield 52, 3) := by decide +kernel
theorem dX5_handles_108 : decode cX5_handles 108 = .ok (.iload_n 1, 1) := by decide +kernel
theorem dX5_handles_109 : decode cX5_handles 109 = .ok (.aload_n 0, 1) := by decide +kernel
theorem dX5_handles_110 : decode cX5_handles 110 = .ok (.getfield 92, 3) := by decide +kernel
theorem dX5_handles_113 : decode cX5_handles 113 = .ok (.iastore, 1) := by decide +kernel
theorem dX5_handles_114 : decode cX5_handles 114 = .ok (.aload_n 0, 1) := by decide +kernel
theorem dX5_handles_115 : decode cX5_handles 115 = .ok (.getfield 64, 3) := by decide +kernel
theorem dX5_handles_118 : decode cX5_handles 118 = .ok (.aload_n 0, 1) := by decide +kernel
theorem dX5_handles_119 : decode cX5_handles 119 = .ok (.getfield 127, 3) := by decide +kernel
theorem dX5_handles_122 : decode cX5_handles 122 = .ok (.iload_n 1, 1) := by decide +kernel
theorem dX5_handles_123 : decode cX5_handles 123 = .ok (.iastore, 1) := by decide +kernel
theorem dX5_handles_124 : decode cX5_handles 124 = .ok (.aload_n 0, 1) := by decide +kernel
theorem dX5_handles_125 : decode cX5_handles 125 = .ok (.dup, 1) := by decide +kernel
theorem dX5_handles_126 : decode cX5_handles 126 = .ok (.getfield 127, 3) := by decide +kernel
theorem dX5_handles_129 : decode cX5_handles 129 = .ok (.iconst 1, 1) := by decide +kernel
theorem dX5_handles_130 : decode cX5_handles 130 = .ok (.iadd, 1) := by decide +kernel
theorem dX5_handles_131 : decode cX5_handles 131 = .ok (.putfield 127, 3) := by decide +kernel
theorem dX5_handles_134 : decode cX5_handles 134 = .ok (.goto 73, 3) := by decide +kernel
theorem dX5_handles_137 : decode cX5_handles 137 = .ok (.iload 4, 2) := by decide +kernel
theorem dX5_handles_139 : decode cX5_handles 139 = .ok (.iconst (-1), 1) := by decide +kernel
theorem dX5_handles_140 : decode cX5_handles 140 = .ok (.if_icmp .eq 23, 3) := by decide +kernel
theorem dX5_handles_143 : decode cX5_handles 143 = .ok (.aload_n 0, 1) := by decide +kernel
theorem dX5_handles_144 : decode cX5_handles 144 = .ok (.iload 5, 2) := by decide +kernel
theorem dX5_handles_146 : decode cX5_handles 146 = .ok (.iload_n 2, 1) := by decide +kernel
theorem dX5_handles_147 : decode cX5_handles 147 = .ok (.invokevirtual 130, 3) := by decide +kernel
theorem dX5_handles_150 : decode cX5_handles 150 = .ok (.ifCond .eq 13, 3) := by decide +kernel
theorem dX5_handles_153 : decode cX5_handles 153 = .ok (.aload_n 0, 1) := by decide +kernel
theorem dX5_handles_154 : decode cX5_handles 154 = .ok (.getfield 40, 3) := by decide +kernel
theorem dX5_handles_157 : decode cX5_handles 157 = .ok (.iload_n 1, 1) := by decide +kernel
theorem dX5_handles_158 : decode cX5_handles 158 = .ok (.iconst 2, 1) := by decide +kernel
theorem dX5_handles_159 : decode cX5_handles 159 = .ok (.iastore, 1) := by decide +kernel
theorem dX5_handles_160 : decode cX5_handles 160 = .ok (.goto 47, 3) := by decide +kernel
theorem dX5_handles_163 : decode cX5_handles 163 = .ok (.iload 4, 2) := by decide +kernel
theorem dX5_handles_165 : decode cX5_handles 165 = .ok (.iconst (-1), 1) := by decide +kernel
theorem dX5_handles_166 : decode cX5_handles 166 = .ok (.if_icmp .eq 34, 3) := by decide +kernel
theorem dX5_handles_169 : decode cX5_handles 169 = .ok (.aload_n 0, 1) := by decide +kernel
theorem dX5_handles_170 : decode cX5_handles 170 = .ok (.iload 5, 2) := by decide +kernel
theorem dX5_handles_172 : decode cX5_handles 172 = .ok (.iload_n 2, 1) := by decide +kernel
theorem dX5_handles_173 : decode cX5_handles 173 = .ok (.invokevirtual 134, 3) := by decide +kernel
theorem dX5_handles_176 : decode cX5_handles 176 = .ok (.iconst (-1), 1) := by decide +kernel
theorem dX5_handles_177 : decode cX5_handles 177 = .ok (.if_icmp .eq 23, 3) := by decide +kernel
theorem dX5_handles_180 : decode cX5_handles 180 = .ok (.aload_n 0, 1) := by decide +kernel
theorem dX5_handles_181 : decode cX5_handles 181 = .ok (.iload_n 1, 1) := by decide +kernel
theorem dX5_handles_182 : decode cX5_handles 182 = .ok (.aload_n 0, 1) := by decide +kernel
theorem dX5_handles_183 : decode cX5_handles 183 = .ok (.getfield 19, 3) := by decide +kernel
theorem dX5_handles_186 : decode cX5_handles 186 = .ok (.aload_n 0, 1) := by decide +kernel
theorem dX5_handles_187 : decode cX5_handles 187 = .ok (.iload 5, 2) := by decide +kernel
theorem dX5_handles_189 : decode cX5_handles 189 = .ok (.iload_n 2, 1) := by decide +kernel
theorem dX5_handles_190 : decode cX5_handles 190 = .ok (.invokevirtual 134, 3) := by decide +kernel
theorem dX5_handles_193 : decode cX5_handles 193 = .ok (.iaload, 1) := by decide +kernel
theorem dX5_handles_194 : decode cX5_handles 194 = .ok (.invokevirtual 137, 3) := by decide +kernel
theorem dX5_handles_197 : decode cX5_handles 197 = .ok (.goto 10, 3) := by decide +kernel
theorem dX5_handles_200 : decode cX5_handles 200 = .ok (.aload_n 0, 1) := by decide +kernel
theorem dX5_handles_201 : decode cX5_handles 201 = .ok (.getfield 40, 3) := by decide +kernel
theorem dX5_handles_204 : decode cX5_handles 204 = .ok (.iload_n 1, 1) := by decide +kernel
theorem dX5_handles_205 : decode cX5_handles 205 = .ok (.iconst 4, 1) := by decide +kernel
theorem dX5_handles_206 : decode cX5_handles 206 = .ok (.iastore, 1) := by decide +kernel
theorem dX5_handles_207 : decode cX5_handles 207 = .ok (.return_, 1) := by decide +kernel
set_option maxRecDepth 20000 in
theorem ggX5_post_X5_isPort : GoodIn wsX5_post wsX5_isPort := goodIn_r _ [12, 13, 14, 11, 15] (by decide +kernel) (by decide +kernel)
set_option maxRecDepth 20000 in
theorem gX5_post_X5_isPort : GoodIn wsX5_post (va_wsS RX5 85 yX5_isPort wsX5_isPort) := goodIn_app (goodIn_of _ (by decide +kernel)) ggX5_post_X5_isPort
set_option maxRecDepth 20000 in
theorem ggX5_post_X5_isShip : GoodIn wsX5_post wsX5_isShip := goodIn_r _ [19, 20, 13, 14, 11, 15, 93, 94, 95, 96, 97, 98, 99, 100, 101, 102, 103, 104, 105, 106, 107, 108, 109, 110, 111, 112, 113, 114, 115, 116, 117, 118] (by decide +kernel) (by decide +kernel)
set_option maxRecDepth 20000 in
theorem gX5_post_X5_isShip : GoodIn wsX5_post (wsV RX5 81 RX5 yX5_isShip wsX5_isShip) := goodIn_app (goodIn_of _ (by decide +kernel)) ggX5_post_X5_isShip
set_option maxRecDepth 20000 in
theorem ggX5_post_X5_writes : GoodIn wsX5_post wsX5_writes := goodIn_r _ [24, 25, 26, 93, 94, 95, 96, 97, 98, 99, 100, 101, 102, 103, 104, 105, 106, 107, 108, 109, 110, 111, 112, 113, 114, 115, 116, 117, 118] (by decide +kernel) (by decide +kernel)
set_option maxRecDepth 20000 in
theorem gX5_post_X5_writes : GoodIn wsX5_post (wsV RX5 105 RX5 yX5_writes wsX5_writes) := goodIn_app (goodIn_of _ (by decide +kernel)) ggX5_post_X5_writes
set_option maxRecDepth 20000 in
theorem ggX5_post_X5_writesDay : GoodIn wsX5_post wsX5_writesDay := goodIn_r _ [30, 6, 21, 22, 23, 11, 24, 25, 26, 93, 94, 95, 96, 97, 98, 99, 100, 101, 102, 103, 104, 105, 106, 107, 108, 109, 110, 111, 112, 113, 114, 115, 116, 117, 118] (by decide +kernel) (by decide +kernel)
set_option maxRecDepth 20000 in
theorem gX5_post_X5_writesDay : GoodIn wsX5_post (wsV RX5 143 RX5 yX5_writesDay wsX5_writesDay) := goodIn_app (goodIn_of _ (by decide +kernel)) ggX5_post_X5_writesDay
set_option maxRecDepth 20000 in
theorem ggX5_post_X5_handles : GoodIn wsX5_post wsX5_handles := goodIn_r _ [34, 7, 3, 8, 35, 36, 37, 6, 38, 39, 40, 41, 42, 43, 11, 44, 45, 46, 47, 48, 49, 50, 51, 52, 53, 54, 55, 56, 57, 58, 21, 22, 23, 24, 25, 26, 59, 60, 61, 62, 63, 64, 65, 66, 67, 68, 69, 70, 71, 72, 73, 74, 75, 76, 77, 78, 79, 80, 81, 82, 83, 84, 85, 86, 87, 88, 89, 90, 91, 92, 93, 94, 95, 96, 97, 98, 99, 100, 101, 102, 103, 104, 105, 106, 107, 108, 109, 110, 111, 112, 113, 114, 115, 116, 117, 118] (by decide +kernel) (by decide +kernel)
set_option maxRecDepth 20000 in
theorem gX5_post_X5_handles : GoodIn wsX5_post (wsV RX5 146 RX5 yX5_handles wsX5_handles) := goodIn_app (goodIn_of _ (by decide +kernel)) ggX5_post_X5_handles
theorem dX5_post_0 : decode cX5_post 0 = .ok (.aload_n 0, 1) := by decide +kernel
theorem dX5_post_1 : decode cX5_post 1 = .ok (.iload_n 1, 1) := by decide +kernel
theorem dX5_post_2 : decode cX5_post 2 = .ok (.invokestatic 85, 3) := by decide +kernel
theorem dX5_post_5 : decode cX5_post 5 = .ok (.ifCond .eq 23, 3) := by decide +kernel
theorem dX5_post_8 : decode cX5_post 8 = .ok (.aload_n 0, 1) := by decide +kernel
theorem dX5_post_9 : decode cX5_post 9 = .ok (.iload_n 2, 1) := by decide +kernel
theorem dX5_post_10 : decode cX5_post 10 = .ok (.invokevirtual 81, 3) := by decide +kernel
theorem dX5_post_13 : decode cX5_post 13 = .ok (.ifCond .eq 15, 3) := by decide +kernel
theorem dX5_post_16 : decode cX5_post 16 = .ok (.iload_n 3, 1) := by decide +kernel
theorem dX5_post_17 : decode cX5_post 17 = .ok (.invokestatic 85, 3) := by decide +kernel
theorem dX5_post_20 : decode cX5_post 20 = .ok (.ifCond .ne 12, 3) := by decide +kernel
theorem dX5_post_23 : decode cX5_post 23 = .ok (.iload_n 3, 1) := by decide +kernel
theorem dX5_post_24 : decode cX5_post 24 = .ok (.iconst (-1), 1) := by decide +kernel
theorem dX5_post_25 : decode cX5_post 25 = .ok (.if_icmp .eq 7, 3) := by decide +kernel
theorem dX5_post_28 : decode cX5_post 28 = .ok (.iconst 1, 1) := by decide +kernel
theorem dX5_post_29 : decode cX5_post 29 = .ok (.goto 17, 3) := by decide +kernel
theorem dX5_post_32 : decode cX5_post 32 = .ok (.aload_n 0, 1) := by decide +kernel
theorem dX5_post_33 : decode cX5_post 33 = .ok (.getfield 140, 3) := by decide +kernel
theorem dX5_post_36 : decode cX5_post 36 = .ok (.bipush 40, 2) := by decide +kernel
theorem dX5_post_38 : decode cX5_post 38 = .ok (.if_icmp .ne 7, 3) := by decide +kernel
theorem dX5_post_41 : decode cX5_post 41 = .ok (.iconst 2, 1) := by decide +kernel
theorem dX5_post_42 : decode cX5_post 42 = .ok (.goto 4, 3) := by decide +kernel
theorem dX5_post_45 : decode cX5_post 45 = .ok (.iconst 0, 1) := by decide +kernel
theorem dX5_post_46 : decode cX5_post 46 = .ok (.putfield 70, 3) := by decide +kernel
theorem dX5_post_49 : decode cX5_post 49 = .ok (.aload_n 0, 1) := by decide +kernel
theorem dX5_post_50 : decode cX5_post 50 = .ok (.getfield 70, 3) := by decide +kernel
theorem dX5_post_53 : decode cX5_post 53 = .ok (.ifCond .eq 5, 3) := by decide +kernel
theorem dX5_post_56 : decode cX5_post 56 = .ok (.iconst 0, 1) := by decide +kernel
theorem dX5_post_57 : decode cX5_post 57 = .ok (.ireturn, 1) := by decide +kernel
theorem dX5_post_58 : decode cX5_post 58 = .ok (.aload_n 0, 1) := by decide +kernel
theorem dX5_post_59 : decode cX5_post 59 = .ok (.getfield 140, 3) := by decide +kernel
theorem dX5_post_62 : decode cX5_post 62 = .ok (.istore 4, 2) := by decide +kernel
theorem dX5_post_64 : decode cX5_post 64 = .ok (.aload_n 0, 1) := by decide +kernel
theorem dX5_post_65 : decode cX5_post 65 = .ok (.dup, 1) := by decide +kernel
theorem dX5_post_66 : decode cX5_post 66 = .ok (.getfield 140, 3) := by decide +kernel
theorem dX5_post_69 : decode cX5_post 69 = .ok (.iconst 1, 1) := by decide +kernel
theorem dX5_post_70 : decode cX5_post 70 = .ok (.iadd, 1) := by decide +kernel
theorem dX5_post_71 : decode cX5_post 71 = .ok (.putfield 140, 3) := by decide +kernel
theorem dX5_post_74 : decode cX5_post 74 = .ok (.aload_n 0, 1) := by decide +kernel
theorem dX5_post_75 : decode cX5_post 75 = .ok (.getfield 31, 3) := by decide +kernel
theorem dX5_post_78 : decode cX5_post 78 = .ok (.iload 4, 2) := by decide +kernel
theorem dX5_post_80 : decode cX5_post 80 = .ok (.iload_n 2, 1) := by decide +kernel
theorem dX5_post_81 : decode cX5_post 81 = .ok (.iastore, 1) := by decide +kernel
theorem dX5_post_82 : decode cX5_post 82 = .ok (.aload_n 0, 1) := by decide +kernel
theorem dX5_post_83 : decode cX5_post 83 = .ok (.getfield 34, 3) := by decide +kernel
theorem dX5_post_86 : decode cX5_post 86 = .ok (.iload 4, 2) := by decide +kernel
theorem dX5_post_88 : decode cX5_post 88 = .ok (.iload_n 3, 1) := by decide +kernel
theorem dX5_post_89 : decode cX5_post 89 = .ok (.iastore, 1) := by decide +kernel
theorem dX5_post_90 : decode cX5_post 90 = .ok (.aload_n 0, 1) := by decide +kernel
theorem dX5_post_91 : decode cX5_post 91 = .ok (.getfield 37, 3) := by decide +kernel
theorem dX5_post_94 : decode cX5_post 94 = .ok (.iload 4, 2) := by decide +kernel
theorem dX5_post_96 : decode cX5_post 96 = .ok (.aload_n 0, 1) := by decide +kernel
theorem dX5_post_97 : decode cX5_post 97 = .ok (.getfield 92, 3) := by decide +kernel
theorem dX5_post_100 : decode cX5_post 100 = .ok (.iastore, 1) := by decide +kernel
theorem dX5_post_101 : decode cX5_post 101 = .ok (.aload_n 0, 1) := by decide +kernel
theorem dX5_post_102 : decode cX5_post 102 = .ok (.getfield 43, 3) := by decide +kernel
theorem dX5_post_105 : decode cX5_post 105 = .ok (.iload 4, 2) := by decide +kernel
theorem dX5_post_107 : decode cX5_post 107 = .ok (.iload_n 1, 1) := by decide +kernel
theorem dX5_post_108 : decode cX5_post 108 = .ok (.iastore, 1) := by decide +kernel
theorem dX5_post_109 : decode cX5_post 109 = .ok (.aload_n 0, 1) := by decide +kernel
theorem dX5_post_110 : decode cX5_post 110 = .ok (.getfield 40, 3) := by decide +kernel
theorem dX5_post_113 : decode cX5_post 113 = .ok (.iload 4, 2) := by decide +kernel
theorem dX5_post_115 : decode cX5_post 115 = .ok (.bipush 8, 2) := by decide +kernel
theorem dX5_post_117 : decode cX5_post 117 = .ok (.iastore, 1) := by decide +kernel
theorem dX5_post_118 : decode cX5_post 118 = .ok (.aload_n 0, 1) := by decide +kernel
theorem dX5_post_119 : decode cX5_post 119 = .ok (.iload 4, 2) := by decide +kernel
theorem dX5_post_121 : decode cX5_post 121 = .ok (.bipush 65, 2) := by decide +kernel
theorem dX5_post_123 : decode cX5_post 123 = .ok (.iload_n 1, 1) := by decide +kernel
theorem dX5_post_124 : decode cX5_post 124 = .ok (.iadd, 1) := by decide +kernel
theorem dX5_post_125 : decode cX5_post 125 = .ok (.invokevirtual 105, 3) := by decide +kernel
theorem dX5_post_128 : decode cX5_post 128 = .ok (.aload_n 0, 1) := by decide +kernel
theorem dX5_post_129 : decode cX5_post 129 = .ok (.iload 4, 2) := by decide +kernel
theorem dX5_post_131 : decode cX5_post 131 = .ok (.invokevirtual 143, 3) := by decide +kernel
theorem dX5_post_134 : decode cX5_post 134 = .ok (.aload_n 0, 1) := by decide +kernel
theorem dX5_post_135 : decode cX5_post 135 = .ok (.iload 4, 2) := by decide +kernel
theorem dX5_post_137 : decode cX5_post 137 = .ok (.invokevirtual 146, 3) := by decide +kernel
theorem dX5_post_140 : decode cX5_post 140 = .ok (.iload 4, 2) := by decide +kernel
theorem dX5_post_142 : decode cX5_post 142 = .ok (.ireturn, 1) := by decide +kernel
set_option maxRecDepth 20000 in
theorem ggX5_strike_X5_isPort : GoodIn wsX5_strike wsX5_isPort := goodIn_r _ [7, 8, 9, 6, 10] (by decide +kernel) (by decide +kernel)
set_option maxRecDepth 20000 in
theorem gX5_strike_X5_isPort : GoodIn wsX5_strike (va_wsS RX5 85 yX5_isPort wsX5_isPort) := goodIn_app (goodIn_of _ (by decide +kernel)) ggX5_strike_X5_isPort
set_option maxRecDepth 20000 in
theorem ggX5_strike_X5_in : GoodIn wsX5_strike wsX5_in := goodIn_r _ [10] (by decide +kernel) (by decide +kernel)
set_option maxRecDepth 20000 in
theorem gX5_strike_X5_in : GoodIn wsX5_strike (va_wsS RX5 74 yX5_in wsX5_in) := goodIn_app (goodIn_of _ (by decide +kernel)) ggX5_strike_X5_in
theorem dX5_strike_0 : decode cX5_strike 0 = .ok (.aload_n 0, 1) := by decide +kernel
theorem dX5_strike_1 : decode cX5_strike 1 = .ok (.iload_n 1, 1) := by decide +kernel
theorem dX5_strike_2 : decode cX5_strike 2 = .ok (.invokestatic 85, 3) := by decide +kernel
theorem dX5_strike_5 : decode cX5_strike 5 = .ok (.ifCond .ne 7, 3) := by decide +kernel
theorem dX5_strike_8 : decode cX5_strike 8 = .ok (.iconst 1, 1) := by decide +kernel
theorem dX5_strike_9 : decode cX5_strike 9 = .ok (.goto 18, 3) := by decide +kernel
theorem dX5_strike_12 : decode cX5_strike 12 = .ok (.iload_n 2, 1) := by decide +kernel
theorem dX5_strike_13 : decode cX5_strike 13 = .ok (.iconst 1, 1) := by decide +kernel
theorem dX5_strike_14 : decode cX5_strike 14 = .ok (.bipush 60, 2) := by decide +kernel
theorem dX5_strike_16 : decode cX5_strike 16 = .ok (.invokestatic 74, 3) := by decide +kernel
theorem dX5_strike_19 : decode cX5_strike 19 = .ok (.ifCond .eq 7, 3) := by decide +kernel
theorem dX5_strike_22 : decode cX5_strike 22 = .ok (.iconst 0, 1) := by decide +kernel
theorem dX5_strike_23 : decode cX5_strike 23 = .ok (.goto 4, 3) := by decide +kernel
theorem dX5_strike_26 : decode cX5_strike 26 = .ok (.iconst 2, 1) := by decide +kernel
theorem dX5_strike_27 : decode cX5_strike 27 = .ok (.putfield 70, 3) := by decide +kernel
theorem dX5_strike_30 : decode cX5_strike 30 = .ok (.aload_n 0, 1) := by decide +kernel
theorem dX5_strike_31 : decode cX5_strike 31 = .ok (.getfield 70, 3) := by decide +kernel
theorem dX5_strike_34 : decode cX5_strike 34 = .ok (.ifCond .eq 5, 3) := by decide +kernel
theorem dX5_strike_37 : decode cX5_strike 37 = .ok (.iconst 0, 1) := by decide +kernel
theorem dX5_strike_38 : decode cX5_strike 38 = .ok (.ireturn, 1) := by decide +kernel
theorem dX5_strike_39 : decode cX5_strike 39 = .ok (.aload_n 0, 1) := by decide +kernel
theorem dX5_strike_40 : decode cX5_strike 40 = .ok (.getfield 67, 3) := by decide +kernel
theorem dX5_strike_43 : decode cX5_strike 43 = .ok (.iload_n 1, 1) := by decide +kernel
theorem dX5_strike_44 : decode cX5_strike 44 = .ok (.aload_n 0, 1) := by decide +kernel
theorem dX5_strike_45 : decode cX5_strike 45 = .ok (.getfield 92, 3) := by decide +kernel
theorem dX5_strike_48 : decode cX5_strike 48 = .ok (.iload_n 2, 1) := by decide +kernel
theorem dX5_strike_49 : decode cX5_strike 49 = .ok (.iadd, 1) := by decide +kernel
theorem dX5_strike_50 : decode cX5_strike 50 = .ok (.aload_n 0, 1) := by decide +kernel
theorem dX5_strike_51 : decode cX5_strike 51 = .ok (.getfield 67, 3) := by decide +kernel
theorem dX5_strike_54 : decode cX5_strike 54 = .ok (.iload_n 1, 1) := by decide +kernel
theorem dX5_strike_55 : decode cX5_strike 55 = .ok (.iaload, 1) := by decide +kernel
theorem dX5_strike_56 : decode cX5_strike 56 = .ok (.if_icmp .le 12, 3) := by decide +kernel
theorem dX5_strike_59 : decode cX5_strike 59 = .ok (.aload_n 0, 1) := by decide +kernel
theorem dX5_strike_60 : decode cX5_strike 60 = .ok (.getfield 92, 3) := by decide +kernel
theorem dX5_strike_63 : decode cX5_strike 63 = .ok (.iload_n 2, 1) := by decide +kernel
theorem dX5_strike_64 : decode cX5_strike 64 = .ok (.iadd, 1) := by decide +kernel
theorem dX5_strike_65 : decode cX5_strike 65 = .ok (.goto 9, 3) := by decide +kernel
theorem dX5_strike_68 : decode cX5_strike 68 = .ok (.aload_n 0, 1) := by decide +kernel
theorem dX5_strike_69 : decode cX5_strike 69 = .ok (.getfield 67, 3) := by decide +kernel
theorem dX5_strike_72 : decode cX5_strike 72 = .ok (.iload_n 1, 1) := by decide +kernel
theorem dX5_strike_73 : decode cX5_strike 73 = .ok (.iaload, 1) := by decide +kernel
theorem dX5_strike_74 : decode cX5_strike 74 = .ok (.iastore, 1) := by decide +kernel
theorem dX5_strike_75 : decode cX5_strike 75 = .ok (.aload_n 0, 1) := by decide +kernel
theorem dX5_strike_76 : decode cX5_strike 76 = .ok (.getfield 67, 3) := by decide +kernel
theorem dX5_strike_79 : decode cX5_strike 79 = .ok (.iload_n 1, 1) := by decide +kernel
theorem dX5_strike_80 : decode cX5_strike 80 = .ok (.iaload, 1) := by decide +kernel
theorem dX5_strike_81 : decode cX5_strike 81 = .ok (.ireturn, 1) := by decide +kernel
set_option maxRecDepth 20000 in
theorem ggX5_isClosed_X5_isPort : GoodIn wsX5_isClosed wsX5_isPort := goodIn_r _ [5, 6, 7, 4, 8] (by decide +kernel) (by decide +kernel)
set_option maxRecDepth 20000 in
theorem gX5_isClosed_X5_isPort : GoodIn wsX5_isClosed (va_wsS RX5 85 yX5_isPort wsX5_isPort) := goodIn_app (goodIn_of _ (by decide +kernel)) ggX5_isClosed_X5_isPort
set_option maxRecDepth 20000 in
theorem ggX5_isClosed_X5_isShut : GoodIn wsX5_isClosed wsX5_isShut := goodIn_r _ [12, 13, 14, 15, 16, 17, 18, 19, 20, 21, 22, 23, 24, 25, 26, 27, 28, 29, 30, 31, 32, 33, 34, 35, 36, 37, 38, 39, 40] (by decide +kernel) (by decide +kernel)
set_option maxRecDepth 20000 in
theorem gX5_isClosed_X5_isShut : GoodIn wsX5_isClosed (wsV RX5 122 RX5 yX5_isShut wsX5_isShut) := goodIn_app (goodIn_of _ (by decide +kernel)) ggX5_isClosed_X5_isShut
theorem dX5_isClosed_0 : decode cX5_isClosed 0 = .ok (.aload_n 0, 1) := by decide +kernel
theorem dX5_isClosed_1 : decode cX5_isClosed 1 = .ok (.iload_n 1, 1) := by decide +kernel
theorem dX5_isClosed_2 : decode cX5_isClosed 2 = .ok (.invokestatic 85, 3) := by decide +kernel
theorem dX5_isClosed_5 : decode cX5_isClosed 5 = .ok (.ifCond .eq 7, 3) := by decide +kernel
theorem dX5_isClosed_8 : decode cX5_isClosed 8 = .ok (.iconst 0, 1) := by decide +kernel
theorem dX5_isClosed_9 : decode cX5_isClosed 9 = .ok (.goto 4, 3) := by decide +kernel
theorem dX5_isClosed_12 : decode cX5_isClosed 12 = .ok (.iconst 1, 1) := by decide +kernel
theorem dX5_isClosed_13 : decode cX5_isClosed 13 = .ok (.putfield 70, 3) := by decide +kernel
theorem dX5_isClosed_16 : decode cX5_isClosed 16 = .ok (.aload_n 0, 1) := by decide +kernel
theorem dX5_isClosed_17 : decode cX5_isClosed 17 = .ok (.getfield 70, 3) := by decide +kernel
theorem dX5_isClosed_20 : decode cX5_isClosed 20 = .ok (.ifCond .ne 15, 3) := by decide +kernel
theorem dX5_isClosed_23 : decode cX5_isClosed 23 = .ok (.aload_n 0, 1) := by decide +kernel
theorem dX5_isClosed_24 : decode cX5_isClosed 24 = .ok (.iload_n 1, 1) := by decide +kernel
theorem dX5_isClosed_25 : decode cX5_isClosed 25 = .ok (.invokevirtual 122, 3) := by decide +kernel
theorem dX5_isClosed_28 : decode cX5_isClosed 28 = .ok (.ifCond .eq 7, 3) := by decide +kernel
theorem dX5_isClosed_31 : decode cX5_isClosed 31 = .ok (.iconst 1, 1) := by decide +kernel
theorem dX5_isClosed_32 : decode cX5_isClosed 32 = .ok (.goto 4, 3) := by decide +kernel
theorem dX5_isClosed_35 : decode cX5_isClosed 35 = .ok (.iconst 0, 1) := by decide +kernel
theorem dX5_isClosed_36 : decode cX5_isClosed 36 = .ok (.ireturn, 1) := by decide +kernel
set_option maxRecDepth 20000 in
theorem ggX5_dawns_X5_isShut : GoodIn wsX5_dawns wsX5_isShut := goodIn_r _ [10, 3, 11, 79, 80, 81, 82, 83, 84, 85, 86, 87, 88, 89, 90, 91, 92, 93, 94, 95, 96, 97, 98, 99, 100, 101, 102, 103, 104] (by decide +kernel) (by decide +kernel)
set_option maxRecDepth 20000 in
theorem gX5_dawns_X5_isShut : GoodIn wsX5_dawns (wsV RX5 122 RX5 yX5_isShut wsX5_isShut) := goodIn_app (goodIn_of _ (by decide +kernel)) ggX5_dawns_X5_isShut
set_option maxRecDepth 20000 in
theorem ggX5_dawns_X5_writesDay : GoodIn wsX5_dawns wsX5_writesDay := goodIn_r _ [15, 3, 16, 17, 18, 9, 19, 20, 21, 79, 80, 81, 82, 83, 84, 85, 86, 87, 88, 89, 90, 91, 92, 93, 94, 95, 96, 97, 98, 99, 100, 101, 102, 103, 104] (by decide +kernel) (by decide +kernel)
set_option maxRecDepth 20000 in
theorem gX5_dawns_X5_writesDay : GoodIn wsX5_dawns (wsV RX5 143 RX5 yX5_writesDay wsX5_writesDay) := goodIn_app (goodIn_of _ (by decide +kernel)) ggX5_dawns_X5_writesDay
set_option maxRecDepth 20000 in
theorem ggX5_dawns_X5_dies : GoodIn wsX5_dawns wsX5_dies := goodIn_r _ [25, 1, 26, 27, 16, 17, 18, 9, 19, 20, 21, 79, 80, 81, 82, 83, 84, 85, 86, 87, 88, 89, 90, 91, 92, 93, 94, 95, 96, 97, 98, 99, 100, 101, 102, 103, 104] (by decide +kernel) (by decide +kernel)
set_option maxRecDepth 20000 in
theorem gX5_dawns_X5_dies : GoodIn wsX5_dawns (wsV RX5 115 RX5 yX5_dies wsX5_dies) := goodIn_app (goodIn_of _ (by decide +kernel)) ggX5_dawns_X5_dies
set_option maxRecDepth 20000 in
theorem ggX5_dawns_X5_handles : GoodIn wsX5_dawns wsX5_handles := goodIn_r _ [31, 4, 32, 1, 33, 34, 35, 3, 36, 37, 38, 39, 40, 41, 9, 42, 43, 44, 45, 46, 47, 48, 49, 50, 51, 6, 7, 8, 10, 11, 16, 17, 18, 19, 20, 21, 52, 53, 54, 55, 56, 57, 58, 59, 60, 61, 62, 63, 64, 65, 66, 67, 68, 69, 70, 71, 2, 22, 23, 24, 25, 26, 27, 72, 73, 74, 75, 76, 77, 78, 79, 80, 81, 82, 83, 84, 85, 86, 87, 88, 89, 90, 91, 92, 93, 94, 95, 96, 97, 98, 99, 100, 101, 102, 103, 104] (by decide +kernel) (by decide +kernel)
set_option maxRecDepth 20000 in
theorem gX5_dawns_X5_handles : GoodIn wsX5_dawns (wsV RX5 146 RX5 yX5_handles wsX5_handles) := goodIn_app (goodIn_of _ (by decide +kernel)) ggX5_dawns_X5_handles
theorem dX5_dawns_0 : decode cX5_dawns 0 = .ok (.aload_n 0, 1) := by decide +kernel
theorem dX5_dawns_1 : decode cX5_dawns 1 = .ok (.getfield 40, 3) := by decide +kernel
theorem dX5_dawns_4 : decode cX5_dawns 4 = .ok (.iload_n 1, 1) := by decide +kernel
theorem dX5_dawns_5 : decode cX5_dawns 5 = .ok (.iaload, 1) := by decide +kernel
theorem dX5_dawns_6 : decode cX5_dawns 6 = .ok (.iconst 3, 1) := by decide +kernel
theorem dX5_dawns_7 : decode cX5_dawns 7 = .ok (.if_icmp .ne 33, 3) := by decide +kernel
theorem dX5_dawns_10 : decode cX5_dawns 10 = .ok (.aload_n 0, 1) := by decide +kernel
theorem dX5_dawns_11 : decode cX5_dawns 11 = .ok (.getfield 46, 3) := by decide +kernel
theorem dX5_dawns_14 : decode cX5_dawns 14 = .ok (.iload_n 1, 1) := by decide +kernel
theorem dX5_dawns_15 : decode cX5_dawns 15 = .ok (.iaload, 1) := by decide +kernel
theorem dX5_dawns_16 : decode cX5_dawns 16 = .ok (.aload_n 0, 1) := by decide +kernel
theorem dX5_dawns_17 : decode cX5_dawns 17 = .ok (.getfield 92, 3) := by decide +kernel
theorem dX5_dawns_20 : decode cX5_dawns 20 = .ok (.if_icmp .gt 20, 3) := by decide +kernel
theorem dX5_dawns_23 : decode cX5_dawns 23 = .ok (.aload_n 0, 1) := by decide +kernel
theorem dX5_dawns_24 : decode cX5_dawns 24 = .ok (.aload_n 0, 1) := by decide +kernel
theorem dX5_dawns_25 : decode cX5_dawns 25 = .ok (.getfield 43, 3) := by decide +kernel
theorem dX5_dawns_28 : decode cX5_dawns 28 = .ok (.iload_n 1, 1) := by decide +kernel
theorem dX5_dawns_29 : decode cX5_dawns 29 = .ok (.iaload, 1) := by decide +kernel
theorem dX5_dawns_30 : decode cX5_dawns 30 = .ok (.invokevirtual 122, 3) := by decide +kernel
theorem dX5_dawns_33 : decode cX5_dawns 33 = .ok (.ifCond .ne 7, 3) := by decide +kernel
theorem dX5_dawns_36 : decode cX5_dawns 36 = .ok (.iconst 1, 1) := by decide +kernel
theorem dX5_dawns_37 : decode cX5_dawns 37 = .ok (.goto 4, 3) := by decide +kernel
theorem dX5_dawns_40 : decode cX5_dawns 40 = .ok (.iconst 0, 1) := by decide +kernel
theorem dX5_dawns_41 : decode cX5_dawns 41 = .ok (.istore_n 2, 1) := by decide +kernel
theorem dX5_dawns_42 : decode cX5_dawns 42 = .ok (.aload_n 0, 1) := by decide +kernel
theorem dX5_dawns_43 : decode cX5_dawns 43 = .ok (.getfield 40, 3) := by decide +kernel
