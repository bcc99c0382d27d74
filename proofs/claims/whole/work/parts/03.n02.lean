theorem dX3_countOvertakenBy_26 : decode cX3_countOvertakenBy 26 = .ok (.astore 4, 2) := by decide +kernel
theorem dX3_countOvertakenBy_28 : decode cX3_countOvertakenBy 28 = .ok (.aload 4, 2) := by decide +kernel
theorem dX3_countOvertakenBy_30 : decode cX3_countOvertakenBy 30 = .ok (.getfield 57, 3) := by decide +kernel
theorem dX3_countOvertakenBy_33 : decode cX3_countOvertakenBy 33 = .ok (.aload_n 1, 1) := by decide +kernel
theorem dX3_countOvertakenBy_34 : decode cX3_countOvertakenBy 34 = .ok (.getfield 57, 3) := by decide +kernel
theorem dX3_countOvertakenBy_37 : decode cX3_countOvertakenBy 37 = .ok (.if_icmp .ge 18, 3) := by decide +kernel
theorem dX3_countOvertakenBy_40 : decode cX3_countOvertakenBy 40 = .ok (.aload 4, 2) := by decide +kernel
theorem dX3_countOvertakenBy_42 : decode cX3_countOvertakenBy 42 = .ok (.getfield 60, 3) := by decide +kernel
theorem dX3_countOvertakenBy_45 : decode cX3_countOvertakenBy 45 = .ok (.aload_n 1, 1) := by decide +kernel
theorem dX3_countOvertakenBy_46 : decode cX3_countOvertakenBy 46 = .ok (.getfield 60, 3) := by decide +kernel
theorem dX3_countOvertakenBy_49 : decode cX3_countOvertakenBy 49 = .ok (.if_icmp .le 6, 3) := by decide +kernel
theorem dX3_countOvertakenBy_52 : decode cX3_countOvertakenBy 52 = .ok (.iinc 2 1, 3) := by decide +kernel
theorem dX3_countOvertakenBy_55 : decode cX3_countOvertakenBy 55 = .ok (.iinc 3 1, 3) := by decide +kernel
theorem dX3_countOvertakenBy_58 : decode cX3_countOvertakenBy 58 = .ok (.goto (-54), 3) := by decide +kernel
theorem dX3_countOvertakenBy_61 : decode cX3_countOvertakenBy 61 = .ok (.iload_n 2, 1) := by decide +kernel
theorem dX3_countOvertakenBy_62 : decode cX3_countOvertakenBy 62 = .ok (.ireturn, 1) := by decide +kernel
set_option maxRecDepth 20000 in
theorem ggX4_init_Jx4a65c_init_da8c8 : GoodIn wsX4_init wsJx4a65c_init_da8c8 := goodIn_r _ [14, 15, 16, 17, 18, 19, 20, 21, 22, 23, 24, 25, 26, 2, 3, 27, 28, 29] (by decide +kernel) (by decide +kernel)
set_option maxRecDepth 20000 in
theorem gX4_init_Jx4a65c_init_da8c8 : GoodIn wsX4_init (wsJx4a65c_init_da8c8) := ggX4_init_Jx4a65c_init_da8c8
theorem dX4_init_0 : decode cX4_init 0 = .ok (.aload_n 0, 1) := by decide +kernel
theorem dX4_init_1 : decode cX4_init 1 = .ok (.invokespecial 1, 3) := by decide +kernel
theorem dX4_init_4 : decode cX4_init 4 = .ok (.aload_n 0, 1) := by decide +kernel
theorem dX4_init_5 : decode cX4_init 5 = .ok (.new 7, 3) := by decide +kernel
theorem dX4_init_8 : decode cX4_init 8 = .ok (.dup, 1) := by decide +kernel
theorem dX4_init_9 : decode cX4_init 9 = .ok (.invokespecial 9, 3) := by decide +kernel
theorem dX4_init_12 : decode cX4_init 12 = .ok (.putfield 10, 3) := by decide +kernel
theorem dX4_init_15 : decode cX4_init 15 = .ok (.aload_n 0, 1) := by decide +kernel
theorem dX4_init_16 : decode cX4_init 16 = .ok (.new 7, 3) := by decide +kernel
theorem dX4_init_19 : decode cX4_init 19 = .ok (.dup, 1) := by decide +kernel
theorem dX4_init_20 : decode cX4_init 20 = .ok (.invokespecial 9, 3) := by decide +kernel
theorem dX4_init_23 : decode cX4_init 23 = .ok (.putfield 16, 3) := by decide +kernel
theorem dX4_init_26 : decode cX4_init 26 = .ok (.aload_n 0, 1) := by decide +kernel
theorem dX4_init_27 : decode cX4_init 27 = .ok (.new 7, 3) := by decide +kernel
theorem dX4_init_30 : decode cX4_init 30 = .ok (.dup, 1) := by decide +kernel
theorem dX4_init_31 : decode cX4_init 31 = .ok (.invokespecial 9, 3) := by decide +kernel
theorem dX4_init_34 : decode cX4_init 34 = .ok (.putfield 19, 3) := by decide +kernel
theorem dX4_init_37 : decode cX4_init 37 = .ok (.aload_n 0, 1) := by decide +kernel
theorem dX4_init_38 : decode cX4_init 38 = .ok (.bipush 10, 2) := by decide +kernel
theorem dX4_init_40 : decode cX4_init 40 = .ok (.newarray .int, 2) := by decide +kernel
theorem dX4_init_42 : decode cX4_init 42 = .ok (.putfield 22, 3) := by decide +kernel
theorem dX4_init_45 : decode cX4_init 45 = .ok (.return_, 1) := by decide +kernel
set_option maxRecDepth 20000 in
theorem ggX4_addShip_Jx4a65c_size_8abf5 : GoodIn wsX4_addShip wsJx4a65c_size_8abf5 := goodIn_r _ [11, 12, 109, 110, 111] (by decide +kernel) (by decide +kernel)
set_option maxRecDepth 20000 in
theorem gX4_addShip_Jx4a65c_size_8abf5 : GoodIn wsX4_addShip (wsV RX4 26 RJx4a65c yJx4a65c_size_8abf5 wsJx4a65c_size_8abf5) := goodIn_app (goodIn_of _ (by decide +kernel)) ggX4_addShip_Jx4a65c_size_8abf5
set_option maxRecDepth 20000 in
theorem ggX4_addShip_X3_init : GoodIn wsX4_addShip wsX3_init := goodIn_r _ [14, 15, 16, 17, 18, 19, 10, 20, 21, 22, 23, 24, 25, 26, 27, 28, 29, 30, 31, 32, 33, 34, 35, 36, 37, 38, 39, 40, 41, 42, 43, 44, 45, 46, 47, 109, 110, 111, 106, 107, 108, 112, 113, 114, 115, 116, 117] (by decide +kernel) (by decide +kernel)
set_option maxRecDepth 20000 in
theorem gX4_addShip_X3_init_n39 : GoodIn wsX4_addShip (wsX3_init) := ggX4_addShip_X3_init
set_option maxRecDepth 20000 in
theorem ggX4_addShip_Jx4a65c_add_9ea2d : GoodIn wsX4_addShip wsJx4a65c_add_9ea2d := goodIn_r _ [51, 52, 53, 30, 12, 54, 55, 56, 10, 57, 58, 59, 60, 61, 62, 63, 64, 65, 29, 66, 67, 68, 69, 70, 71, 72, 73, 74, 75, 76, 77, 78, 79, 80, 81, 82, 83, 84, 85, 86, 87, 88, 89, 90, 91, 92, 93, 94, 95, 96, 97, 98, 99, 109, 110, 111] (by decide +kernel) (by decide +kernel)
set_option maxRecDepth 20000 in
theorem gX4_addShip_Jx4a65c_add_9ea2d : GoodIn wsX4_addShip (wsV RX4 40 RJx4a65c yJx4a65c_add_9ea2d wsJx4a65c_add_9ea2d) := goodIn_app (goodIn_of _ (by decide +kernel)) ggX4_addShip_Jx4a65c_add_9ea2d
theorem dX4_addShip_0 : decode cX4_addShip 0 = .ok (.aload_n 0, 1) := by decide +kernel
theorem dX4_addShip_1 : decode cX4_addShip 1 = .ok (.getfield 10, 3) := by decide +kernel
theorem dX4_addShip_4 : decode cX4_addShip 4 = .ok (.invokevirtual 26, 3) := by decide +kernel
theorem dX4_addShip_7 : decode cX4_addShip 7 = .ok (.bipush 8, 2) := by decide +kernel
theorem dX4_addShip_9 : decode cX4_addShip 9 = .ok (.if_icmp .lt 13, 3) := by decide +kernel
theorem dX4_addShip_12 : decode cX4_addShip 12 = .ok (.new 30, 3) := by decide +kernel
theorem dX4_addShip_15 : decode cX4_addShip 15 = .ok (.dup, 1) := by decide +kernel
theorem dX4_addShip_16 : decode cX4_addShip 16 = .ok (.ldc 32, 2) := by decide +kernel
theorem dX4_addShip_18 : decode cX4_addShip 18 = .ok (.invokespecial 34, 3) := by decide +kernel
theorem dX4_addShip_21 : decode cX4_addShip 21 = .ok (.athrow, 1) := by decide +kernel
theorem dX4_addShip_22 : decode cX4_addShip 22 = .ok (.aload_n 0, 1) := by decide +kernel
theorem dX4_addShip_23 : decode cX4_addShip 23 = .ok (.getfield 10, 3) := by decide +kernel
theorem dX4_addShip_26 : decode cX4_addShip 26 = .ok (.new 37, 3) := by decide +kernel
theorem dX4_addShip_29 : decode cX4_addShip 29 = .ok (.dup, 1) := by decide +kernel
theorem dX4_addShip_30 : decode cX4_addShip 30 = .ok (.invokespecial 39, 3) := by decide +kernel
theorem dX4_addShip_33 : decode cX4_addShip 33 = .ok (.invokevirtual 40, 3) := by decide +kernel
theorem dX4_addShip_36 : decode cX4_addShip 36 = .ok (.pop, 1) := by decide +kernel
theorem dX4_addShip_37 : decode cX4_addShip 37 = .ok (.aload_n 0, 1) := by decide +kernel
theorem dX4_addShip_38 : decode cX4_addShip 38 = .ok (.getfield 10, 3) := by decide +kernel
theorem dX4_addShip_41 : decode cX4_addShip 41 = .ok (.invokevirtual 26, 3) := by decide +kernel
theorem dX4_addShip_44 : decode cX4_addShip 44 = .ok (.iconst 1, 1) := by decide +kernel
theorem dX4_addShip_45 : decode cX4_addShip 45 = .ok (.isub, 1) := by decide +kernel
theorem dX4_addShip_46 : decode cX4_addShip 46 = .ok (.ireturn, 1) := by decide +kernel
set_option maxRecDepth 20000 in
theorem ggX4_call_X4_needShip : GoodIn wsX4_call wsX4_needShip := goodIn_ca (goodIn_r _ [11, 12, 13, 3, 14, 15, 16, 17, 18, 19, 58, 59, 60, 61, 62, 63, 73, 74, 75] (by decide +kernel) (by decide +kernel)) (goodIn_sub (fun _ h => List.mem_cons_of_mem _ (List.mem_append_left _ (List.mem_append_right _ h))) (by decide +kernel))
set_option maxRecDepth 20000 in
theorem gX4_call_X4_needShip : GoodIn wsX4_call (wsV RX4 44 RX4 yX4_needShip wsX4_needShip) := goodIn_app (goodIn_of _ (by decide +kernel)) ggX4_call_X4_needShip
set_option maxRecDepth 20000 in
theorem ggX4_call_X4_needPort : GoodIn wsX4_call wsX4_needPort := goodIn_ca (goodIn_r _ [22, 12, 13] (by decide +kernel) (by decide +kernel)) (goodIn_sub (fun _ h => List.mem_cons_of_mem _ (List.mem_append_left _ (List.mem_append_right _ h))) (by decide +kernel))
set_option maxRecDepth 20000 in
theorem gX4_call_X4_needPort : GoodIn wsX4_call (va_wsS RX4 48 yX4_needPort wsX4_needPort) := goodIn_app (goodIn_of _ (by decide +kernel)) ggX4_call_X4_needPort
set_option maxRecDepth 20000 in
theorem ggX4_call_X4_needRange : GoodIn wsX4_call wsX4_needRange := goodIn_ca (goodIn_r _ [25, 26, 27] (by decide +kernel) (by decide +kernel)) (goodIn_sub (fun _ h => List.mem_cons_of_mem _ (List.mem_append_right _ h)) (by decide +kernel))
set_option maxRecDepth 20000 in
theorem gX4_call_X4_needRange : GoodIn wsX4_call (va_wsS RX4 51 yX4_needRange wsX4_needRange) := goodIn_app (goodIn_of _ (by decide +kernel)) ggX4_call_X4_needRange
set_option maxRecDepth 20000 in
theorem ggX4_call_Jx4a65c_get_915e3 : GoodIn wsX4_call wsJx4a65c_get_915e3 := goodIn_r _ [31, 19, 32, 33, 34, 35, 36, 37, 38, 39, 40, 41, 42, 17, 43, 44, 73, 74, 75] (by decide +kernel) (by decide +kernel)
set_option maxRecDepth 20000 in
theorem gX4_call_Jx4a65c_get_915e3 : GoodIn wsX4_call (wsV RX4 55 RJx4a65c yJx4a65c_get_915e3 wsJx4a65c_get_915e3) := goodIn_app (goodIn_of _ (by decide +kernel)) ggX4_call_Jx4a65c_get_915e3
set_option maxRecDepth 20000 in
theorem ggX4_call_X2_lastLeaving : GoodIn wsX4_call wsX2_lastLeaving := goodIn_r _ [49, 50, 51, 67, 68, 69, 70, 71, 72] (by decide +kernel) (by decide +kernel)
set_option maxRecDepth 20000 in
theorem gX4_call_X2_lastLeaving : GoodIn wsX4_call (wsV RX4 71 RX2 yX2_lastLeaving wsX2_lastLeaving) := goodIn_app (goodIn_of _ (by decide +kernel)) ggX4_call_X2_lastLeaving
set_option maxRecDepth 20000 in
theorem ggX4_call_X2_addCall : GoodIn wsX4_call wsX2_addCall := goodIn_r _ [55, 50, 56, 57, 51, 67, 68, 69, 70, 71, 72] (by decide +kernel) (by decide +kernel)
set_option maxRecDepth 20000 in
theorem gX4_call_X2_addCall : GoodIn wsX4_call (wsV RX4 76 RX2 yX2_addCall wsX2_addCall) := goodIn_app (goodIn_of _ (by decide +kernel)) ggX4_call_X2_addCall
theorem dX4_call_0 : decode cX4_call 0 = .ok (.aload_n 0, 1) := by decide +kernel
theorem dX4_call_1 : decode cX4_call 1 = .ok (.iload_n 1, 1) := by decide +kernel
theorem dX4_call_2 : decode cX4_call 2 = .ok (.invokevirtual 44, 3) := by decide +kernel
theorem dX4_call_5 : decode cX4_call 5 = .ok (.iload_n 2, 1) := by decide +kernel
theorem dX4_call_6 : decode cX4_call 6 = .ok (.invokestatic 48, 3) := by decide +kernel
theorem dX4_call_9 : decode cX4_call 9 = .ok (.iload_n 3, 1) := by decide +kernel
theorem dX4_call_10 : decode cX4_call 10 = .ok (.iconst 0, 1) := by decide +kernel
theorem dX4_call_11 : decode cX4_call 11 = .ok (.sipush 1000, 3) := by decide +kernel
theorem dX4_call_14 : decode cX4_call 14 = .ok (.invokestatic 51, 3) := by decide +kernel
theorem dX4_call_17 : decode cX4_call 17 = .ok (.iload 4, 2) := by decide +kernel
theorem dX4_call_19 : decode cX4_call 19 = .ok (.iconst 0, 1) := by decide +kernel
theorem dX4_call_20 : decode cX4_call 20 = .ok (.bipush 30, 2) := by decide +kernel
theorem dX4_call_22 : decode cX4_call 22 = .ok (.invokestatic 51, 3) := by decide +kernel
theorem dX4_call_25 : decode cX4_call 25 = .ok (.aload_n 0, 1) := by decide +kernel
theorem dX4_call_26 : decode cX4_call 26 = .ok (.getfield 10, 3) := by decide +kernel
theorem dX4_call_29 : decode cX4_call 29 = .ok (.iload_n 1, 1) := by decide +kernel
theorem dX4_call_30 : decode cX4_call 30 = .ok (.invokevirtual 55, 3) := by decide +kernel
theorem dX4_call_33 : decode cX4_call 33 = .ok (.checkcast 37, 3) := by decide +kernel
theorem dX4_call_36 : decode cX4_call 36 = .ok (.getfield 59, 3) := by decide +kernel
theorem dX4_call_39 : decode cX4_call 39 = .ok (.astore 5, 2) := by decide +kernel
theorem dX4_call_41 : decode cX4_call 41 = .ok (.aload 5, 2) := by decide +kernel
theorem dX4_call_43 : decode cX4_call 43 = .ok (.getfield 63, 3) := by decide +kernel
theorem dX4_call_46 : decode cX4_call 46 = .ok (.bipush 6, 2) := by decide +kernel
theorem dX4_call_48 : decode cX4_call 48 = .ok (.if_icmp .lt 13, 3) := by decide +kernel
theorem dX4_call_51 : decode cX4_call 51 = .ok (.new 30, 3) := by decide +kernel
theorem dX4_call_54 : decode cX4_call 54 = .ok (.dup, 1) := by decide +kernel
theorem dX4_call_55 : decode cX4_call 55 = .ok (.ldc 69, 2) := by decide +kernel
theorem dX4_call_57 : decode cX4_call 57 = .ok (.invokespecial 34, 3) := by decide +kernel
theorem dX4_call_60 : decode cX4_call 60 = .ok (.athrow, 1) := by decide +kernel
theorem dX4_call_61 : decode cX4_call 61 = .ok (.iload_n 3, 1) := by decide +kernel
theorem dX4_call_62 : decode cX4_call 62 = .ok (.aload 5, 2) := by decide +kernel
theorem dX4_call_64 : decode cX4_call 64 = .ok (.invokevirtual 71, 3) := by decide +kernel
theorem dX4_call_67 : decode cX4_call 67 = .ok (.if_icmp .gt 13, 3) := by decide +kernel
theorem dX4_call_70 : decode cX4_call 70 = .ok (.new 30, 3) := by decide +kernel
theorem dX4_call_73 : decode cX4_call 73 = .ok (.dup, 1) := by decide +kernel
theorem dX4_call_74 : decode cX4_call 74 = .ok (.ldc 74, 2) := by decide +kernel
theorem dX4_call_76 : decode cX4_call 76 = .ok (.invokespecial 34, 3) := by decide +kernel
theorem dX4_call_79 : decode cX4_call 79 = .ok (.athrow, 1) := by decide +kernel
theorem dX4_call_80 : decode cX4_call 80 = .ok (.aload 5, 2) := by decide +kernel
theorem dX4_call_82 : decode cX4_call 82 = .ok (.iload_n 2, 1) := by decide +kernel
theorem dX4_call_83 : decode cX4_call 83 = .ok (.iload_n 3, 1) := by decide +kernel
theorem dX4_call_84 : decode cX4_call 84 = .ok (.iload_n 3, 1) := by decide +kernel
theorem dX4_call_85 : decode cX4_call 85 = .ok (.iload 4, 2) := by decide +kernel
theorem dX4_call_87 : decode cX4_call 87 = .ok (.iadd, 1) := by decide +kernel
theorem dX4_call_88 : decode cX4_call 88 = .ok (.invokevirtual 76, 3) := by decide +kernel
theorem dX4_call_91 : decode cX4_call 91 = .ok (.aload 5, 2) := by decide +kernel
theorem dX4_call_93 : decode cX4_call 93 = .ok (.getfield 63, 3) := by decide +kernel
theorem dX4_call_96 : decode cX4_call 96 = .ok (.ireturn, 1) := by decide +kernel
set_option maxRecDepth 20000 in
theorem ggX4_tell_X4_needShip : GoodIn wsX4_tell wsX4_needShip := goodIn_ca (goodIn_r _ [11, 12, 13, 3, 14, 15, 16, 17, 18, 19, 114, 115, 116, 117, 118, 119, 123, 124, 125] (by decide +kernel) (by decide +kernel)) (goodIn_sub (fun _ h => List.mem_cons_of_mem _ (List.mem_append_right _ h)) (by decide +kernel))
set_option maxRecDepth 20000 in
theorem gX4_tell_X4_needShip : GoodIn wsX4_tell (wsV RX4 44 RX4 yX4_needShip wsX4_needShip) := goodIn_app (goodIn_of _ (by decide +kernel)) ggX4_tell_X4_needShip
set_option maxRecDepth 20000 in
theorem ggX4_tell_X4_needPort : GoodIn wsX4_tell wsX4_needPort := goodIn_ca (goodIn_r _ [22, 12, 13] (by decide +kernel) (by decide +kernel)) (goodIn_sub (fun _ h => List.mem_cons_of_mem _ (List.mem_append_right _ h)) (by decide +kernel))
set_option maxRecDepth 20000 in
theorem gX4_tell_X4_needPort : GoodIn wsX4_tell (va_wsS RX4 48 yX4_needPort wsX4_needPort) := goodIn_app (goodIn_of _ (by decide +kernel)) ggX4_tell_X4_needPort
set_option maxRecDepth 20000 in
theorem ggX4_tell_Jx4a65c_get_915e3 : GoodIn wsX4_tell wsJx4a65c_get_915e3 := goodIn_r _ [26, 19, 27, 28, 29, 30, 31, 32, 33, 34, 35, 36, 37, 17, 38, 39, 123, 124, 125] (by decide +kernel) (by decide +kernel)
set_option maxRecDepth 20000 in
theorem gX4_tell_Jx4a65c_get_915e3 : GoodIn wsX4_tell (wsV RX4 55 RJx4a65c yJx4a65c_get_915e3 wsJx4a65c_get_915e3) := goodIn_app (goodIn_of _ (by decide +kernel)) ggX4_tell_Jx4a65c_get_915e3
set_option maxRecDepth 20000 in
theorem ggX4_tell_Jx4a65c_size_8abf5 : GoodIn wsX4_tell wsJx4a65c_size_8abf5 := goodIn_r _ [18, 19, 123, 124, 125] (by decide +kernel) (by decide +kernel)
set_option maxRecDepth 20000 in
theorem gX4_tell_Jx4a65c_size_8abf5 : GoodIn wsX4_tell (wsV RX4 26 RJx4a65c yJx4a65c_size_8abf5 wsJx4a65c_size_8abf5) := goodIn_app (goodIn_of _ (by decide +kernel)) ggX4_tell_Jx4a65c_size_8abf5
set_option maxRecDepth 20000 in
theorem ggX4_tell_X3_tellDraft : GoodIn wsX4_tell wsX3_tellDraft := goodIn_r _ [44, 45, 46, 47, 48, 49, 50, 51, 52, 53, 54, 17, 55, 56, 57, 39, 19, 58, 59, 60, 61, 62, 63, 64, 65, 66, 67, 68, 69, 70, 71, 72, 73, 74, 75, 76, 77, 78, 79, 80, 81, 82, 83, 84, 85, 86, 87, 88, 89, 90, 91, 92, 93, 94, 95, 96, 97, 98, 99, 100, 101, 102, 103, 104, 105, 106, 107, 108, 109, 110, 111, 112, 113, 120, 121, 122, 126, 127, 128, 129, 130, 131, 123, 124, 125] (by decide +kernel) (by decide +kernel)
set_option maxRecDepth 20000 in
theorem gX4_tell_X3_tellDraft : GoodIn wsX4_tell (wsV RX4 87 RX3 yX3_tellDraft wsX3_tellDraft) := goodIn_app (goodIn_of _ (by decide +kernel)) ggX4_tell_X3_tellDraft
theorem dX4_tell_0 : decode cX4_tell 0 = .ok (.aload_n 0, 1) := by decide +kernel
theorem dX4_tell_1 : decode cX4_tell 1 = .ok (.iload_n 1, 1) := by decide +kernel
theorem dX4_tell_2 : decode cX4_tell 2 = .ok (.invokevirtual 44, 3) := by decide +kernel
theorem dX4_tell_5 : decode cX4_tell 5 = .ok (.iload_n 2, 1) := by decide +kernel
theorem dX4_tell_6 : decode cX4_tell 6 = .ok (.invokestatic 48, 3) := by decide +kernel
theorem dX4_tell_9 : decode cX4_tell 9 = .ok (.aload_n 0, 1) := by decide +kernel
theorem dX4_tell_10 : decode cX4_tell 10 = .ok (.getfield 10, 3) := by decide +kernel
theorem dX4_tell_13 : decode cX4_tell 13 = .ok (.iload_n 1, 1) := by decide +kernel
theorem dX4_tell_14 : decode cX4_tell 14 = .ok (.invokevirtual 55, 3) := by decide +kernel
theorem dX4_tell_17 : decode cX4_tell 17 = .ok (.checkcast 37, 3) := by decide +kernel
theorem dX4_tell_20 : decode cX4_tell 20 = .ok (.astore_n 3, 1) := by decide +kernel
theorem dX4_tell_21 : decode cX4_tell 21 = .ok (.aload_n 3, 1) := by decide +kernel
theorem dX4_tell_22 : decode cX4_tell 22 = .ok (.getfield 79, 3) := by decide +kernel
theorem dX4_tell_25 : decode cX4_tell 25 = .ok (.invokevirtual 26, 3) := by decide +kernel
theorem dX4_tell_28 : decode cX4_tell 28 = .ok (.bipush 20, 2) := by decide +kernel
theorem dX4_tell_30 : decode cX4_tell 30 = .ok (.if_icmp .lt 13, 3) := by decide +kernel
theorem dX4_tell_33 : decode cX4_tell 33 = .ok (.new 30, 3) := by decide +kernel
theorem dX4_tell_36 : decode cX4_tell 36 = .ok (.dup, 1) := by decide +kernel
theorem dX4_tell_37 : decode cX4_tell 37 = .ok (.ldc 82, 2) := by decide +kernel
theorem dX4_tell_39 : decode cX4_tell 39 = .ok (.invokespecial 34, 3) := by decide +kernel
theorem dX4_tell_42 : decode cX4_tell 42 = .ok (.athrow, 1) := by decide +kernel
theorem dX4_tell_43 : decode cX4_tell 43 = .ok (.aload_n 3, 1) := by decide +kernel
theorem dX4_tell_44 : decode cX4_tell 44 = .ok (.iload_n 2, 1) := by decide +kernel
theorem dX4_tell_45 : decode cX4_tell 45 = .ok (.aload_n 0, 1) := by decide +kernel
theorem dX4_tell_46 : decode cX4_tell 46 = .ok (.getfield 84, 3) := by decide +kernel
theorem dX4_tell_49 : decode cX4_tell 49 = .ok (.invokevirtual 87, 3) := by decide +kernel
theorem dX4_tell_52 : decode cX4_tell 52 = .ok (.aload_n 3, 1) := by decide +kernel
theorem dX4_tell_53 : decode cX4_tell 53 = .ok (.getfield 79, 3) := by decide +kernel
theorem dX4_tell_56 : decode cX4_tell 56 = .ok (.invokevirtual 26, 3) := by decide +kernel
theorem dX4_tell_59 : decode cX4_tell 59 = .ok (.iconst 1, 1) := by decide +kernel
theorem dX4_tell_60 : decode cX4_tell 60 = .ok (.isub, 1) := by decide +kernel
theorem dX4_tell_61 : decode cX4_tell 61 = .ok (.ireturn, 1) := by decide +kernel
set_option maxRecDepth 20000 in
theorem ggX4_shipAt_X4_needShip : GoodIn wsX4_shipAt wsX4_needShip := goodIn_ca (goodIn_r _ [8, 9, 10, 1, 11, 12, 13, 14, 15, 16, 52, 53, 54, 55, 56, 57, 58, 59, 60] (by decide +kernel) (by decide +kernel)) (goodIn_sub (fun _ h => List.mem_cons_of_mem _ (List.mem_append_right _ h)) (by decide +kernel))
set_option maxRecDepth 20000 in
theorem gX4_shipAt_X4_needShip : GoodIn wsX4_shipAt (wsV RX4 44 RX4 yX4_needShip wsX4_needShip) := goodIn_app (goodIn_of _ (by decide +kernel)) ggX4_shipAt_X4_needShip
set_option maxRecDepth 20000 in
theorem ggX4_shipAt_Jx4a65c_get_915e3 : GoodIn wsX4_shipAt wsJx4a65c_get_915e3 := goodIn_r _ [20, 16, 21, 22, 23, 24, 25, 26, 27, 28, 29, 30, 31, 14, 32, 33, 58, 59, 60] (by decide +kernel) (by decide +kernel)
set_option maxRecDepth 20000 in
theorem gX4_shipAt_Jx4a65c_get_915e3 : GoodIn wsX4_shipAt (wsV RX4 55 RJx4a65c yJx4a65c_get_915e3 wsJx4a65c_get_915e3) := goodIn_app (goodIn_of _ (by decide +kernel)) ggX4_shipAt_Jx4a65c_get_915e3
set_option maxRecDepth 20000 in
theorem ggX4_shipAt_X3_portOn : GoodIn wsX4_shipAt wsX3_portOn := goodIn_r _ [38, 39, 40, 41, 12, 13, 14, 15, 16, 42, 18, 19, 20, 21, 22, 23, 24, 25, 26, 27, 28, 29, 30, 31, 32, 33, 43, 44, 45, 46, 47, 48, 49, 50, 51, 61, 62, 63, 58, 59, 60, 64, 65, 66, 67, 68, 69] (by decide +kernel) (by decide +kernel)
set_option maxRecDepth 20000 in
theorem gX4_shipAt_X3_portOn : GoodIn wsX4_shipAt (wsV RX4 91 RX3 yX3_portOn wsX3_portOn) := goodIn_app (goodIn_of _ (by decide +kernel)) ggX4_shipAt_X3_portOn
theorem dX4_shipAt_0 : decode cX4_shipAt 0 = .ok (.aload_n 0, 1) := by decide +kernel
theorem dX4_shipAt_1 : decode cX4_shipAt 1 = .ok (.iload_n 1, 1) := by decide +kernel
theorem dX4_shipAt_2 : decode cX4_shipAt 2 = .ok (.invokevirtual 44, 3) := by decide +kernel
theorem dX4_shipAt_5 : decode cX4_shipAt 5 = .ok (.aload_n 0, 1) := by decide +kernel
theorem dX4_shipAt_6 : decode cX4_shipAt 6 = .ok (.getfield 10, 3) := by decide +kernel
theorem dX4_shipAt_9 : decode cX4_shipAt 9 = .ok (.iload_n 1, 1) := by decide +kernel
theorem dX4_shipAt_10 : decode cX4_shipAt 10 = .ok (.invokevirtual 55, 3) := by decide +kernel
theorem dX4_shipAt_13 : decode cX4_shipAt 13 = .ok (.checkcast 37, 3) := by decide +kernel
theorem dX4_shipAt_16 : decode cX4_shipAt 16 = .ok (.aload_n 0, 1) := by decide +kernel
theorem dX4_shipAt_17 : decode cX4_shipAt 17 = .ok (.getfield 84, 3) := by decide +kernel
theorem dX4_shipAt_20 : decode cX4_shipAt 20 = .ok (.invokevirtual 91, 3) := by decide +kernel
theorem dX4_shipAt_23 : decode cX4_shipAt 23 = .ok (.ireturn, 1) := by decide +kernel
set_option maxRecDepth 20000 in
theorem ggX4_routes_X4_needShip : GoodIn wsX4_routes wsX4_needShip := goodIn_ca (goodIn_r _ [8, 9, 10, 1, 11, 12, 13, 14, 15, 16, 34, 35, 36, 37, 38, 39, 43, 44, 45] (by decide +kernel) (by decide +kernel)) (goodIn_sub (fun _ h => List.mem_cons_of_mem _ (List.mem_append_right _ h)) (by decide +kernel))
set_option maxRecDepth 20000 in
theorem gX4_routes_X4_needShip : GoodIn wsX4_routes (wsV RX4 44 RX4 yX4_needShip wsX4_needShip) := goodIn_app (goodIn_of _ (by decide +kernel)) ggX4_routes_X4_needShip
set_option maxRecDepth 20000 in
theorem ggX4_routes_Jx4a65c_get_915e3 : GoodIn wsX4_routes wsJx4a65c_get_915e3 := goodIn_r _ [20, 16, 21, 22, 23, 24, 25, 26, 27, 28, 29, 30, 31, 14, 32, 33, 43, 44, 45] (by decide +kernel) (by decide +kernel)
set_option maxRecDepth 20000 in
theorem gX4_routes_Jx4a65c_get_915e3 : GoodIn wsX4_routes (wsV RX4 55 RJx4a65c yJx4a65c_get_915e3 wsJx4a65c_get_915e3) := goodIn_app (goodIn_of _ (by decide +kernel)) ggX4_routes_Jx4a65c_get_915e3
set_option maxRecDepth 20000 in
theorem ggX4_routes_Jx4a65c_size_8abf5 : GoodIn wsX4_routes wsJx4a65c_size_8abf5 := goodIn_r _ [15, 16, 43, 44, 45] (by decide +kernel) (by decide +kernel)
set_option maxRecDepth 20000 in
theorem gX4_routes_Jx4a65c_size_8abf5 : GoodIn wsX4_routes (wsV RX4 26 RJx4a65c yJx4a65c_size_8abf5 wsJx4a65c_size_8abf5) := goodIn_app (goodIn_of _ (by decide +kernel)) ggX4_routes_Jx4a65c_size_8abf5
theorem dX4_routes_0 : decode cX4_routes 0 = .ok (.aload_n 0, 1) := by decide +kernel
theorem dX4_routes_1 : decode cX4_routes 1 = .ok (.iload_n 1, 1) := by decide +kernel
theorem dX4_routes_2 : decode cX4_routes 2 = .ok (.invokevirtual 44, 3) := by decide +kernel
theorem dX4_routes_5 : decode cX4_routes 5 = .ok (.aload_n 0, 1) := by decide +kernel
theorem dX4_routes_6 : decode cX4_routes 6 = .ok (.getfield 10, 3) := by decide +kernel
theorem dX4_routes_9 : decode cX4_routes 9 = .ok (.iload_n 1, 1) := by decide +kernel
theorem dX4_routes_10 : decode cX4_routes 10 = .ok (.invokevirtual 55, 3) := by decide +kernel
theorem dX4_routes_13 : decode cX4_routes 13 = .ok (.checkcast 37, 3) := by decide +kernel
theorem dX4_routes_16 : decode cX4_routes 16 = .ok (.getfield 79, 3) := by decide +kernel
theorem dX4_routes_19 : decode cX4_routes 19 = .ok (.invokevirtual 26, 3) := by decide +kernel
theorem dX4_routes_22 : decode cX4_routes 22 = .ok (.ireturn, 1) := by decide +kernel
set_option maxRecDepth 20000 in
theorem ggX4_word_X4_needPort : GoodIn wsX4_word wsX4_needPort := goodIn_ca (goodIn_r _ [7, 8, 9] (by decide +kernel) (by decide +kernel)) (goodIn_sub (fun _ h => List.mem_cons_of_mem _ (List.mem_append_right _ h)) (by decide +kernel))
set_option maxRecDepth 20000 in
theorem gX4_word_X4_needPort : GoodIn wsX4_word (va_wsS RX4 48 yX4_needPort wsX4_needPort) := goodIn_app (goodIn_of _ (by decide +kernel)) ggX4_word_X4_needPort
set_option maxRecDepth 20000 in
theorem ggX4_word_X4_needShip : GoodIn wsX4_word wsX4_needShip := goodIn_ca (goodIn_r _ [13, 8, 9, 1, 14, 15, 16, 17, 18, 19, 54, 55, 56, 57, 58, 59, 60, 61, 62] (by decide +kernel) (by decide +kernel)) (goodIn_sub (fun _ h => List.mem_cons_of_mem _ (List.mem_append_right _ h)) (by decide +kernel))
set_option maxRecDepth 20000 in
theorem gX4_word_X4_needShip : GoodIn wsX4_word (wsV RX4 44 RX4 yX4_needShip wsX4_needShip) := goodIn_app (goodIn_of _ (by decide +kernel)) ggX4_word_X4_needShip
set_option maxRecDepth 20000 in
theorem ggX4_word_Jx4a65c_get_915e3 : GoodIn wsX4_word wsJx4a65c_get_915e3 := goodIn_r _ [23, 19, 24, 25, 26, 27, 28, 29, 30, 31, 32, 33, 34, 17, 35, 36, 60, 61, 62] (by decide +kernel) (by decide +kernel)
set_option maxRecDepth 20000 in
theorem gX4_word_Jx4a65c_get_915e3 : GoodIn wsX4_word (wsV RX4 55 RJx4a65c yJx4a65c_get_915e3 wsJx4a65c_get_915e3) := goodIn_app (goodIn_of _ (by decide +kernel)) ggX4_word_Jx4a65c_get_915e3
set_option maxRecDepth 20000 in
theorem ggX4_word_X3_wordIn : GoodIn wsX4_word wsX3_wordIn := goodIn_r _ [41, 42, 43, 44, 45, 46, 15, 16, 17, 18, 19, 47, 21, 22, 23, 24, 25, 26, 27, 28, 29, 30, 31, 32, 33, 34, 35, 36, 48, 6, 49, 50, 51, 52, 53, 63, 64, 65, 66, 67, 68, 69, 70, 71, 60, 61, 62] (by decide +kernel) (by decide +kernel)
set_option maxRecDepth 20000 in
theorem gX4_word_X3_wordIn : GoodIn wsX4_word (wsV RX4 95 RX3 yX3_wordIn wsX3_wordIn) := goodIn_app (goodIn_of _ (by decide +kernel)) ggX4_word_X3_wordIn
theorem dX4_word_0 : decode cX4_word 0 = .ok (.iload_n 1, 1) := by decide +kernel
theorem dX4_word_1 : decode cX4_word 1 = .ok (.invokestatic 48, 3) := by decide +kernel
theorem dX4_word_4 : decode cX4_word 4 = .ok (.aload_n 0, 1) := by decide +kernel
theorem dX4_word_5 : decode cX4_word 5 = .ok (.iload_n 2, 1) := by decide +kernel
theorem dX4_word_6 : decode cX4_word 6 = .ok (.invokevirtual 44, 3) := by decide +kernel
theorem dX4_word_9 : decode cX4_word 9 = .ok (.aload_n 0, 1) := by decide +kernel
theorem dX4_word_10 : decode cX4_word 10 = .ok (.getfield 10, 3) := by decide +kernel
theorem dX4_word_13 : decode cX4_word 13 = .ok (.iload_n 2, 1) := by decide +kernel
theorem dX4_word_14 : decode cX4_word 14 = .ok (.invokevirtual 55, 3) := by decide +kernel
theorem dX4_word_17 : decode cX4_word 17 = .ok (.checkcast 37, 3) := by decide +kernel
theorem dX4_word_20 : decode cX4_word 20 = .ok (.iload_n 1, 1) := by decide +kernel
theorem dX4_word_21 : decode cX4_word 21 = .ok (.aload_n 0, 1) := by decide +kernel
theorem dX4_word_22 : decode cX4_word 22 = .ok (.getfield 84, 3) := by decide +kernel
theorem dX4_word_25 : decode cX4_word 25 = .ok (.invokevirtual 95, 3) := by decide +kernel
theorem dX4_word_28 : decode cX4_word 28 = .ok (.ireturn, 1) := by decide +kernel
set_option maxRecDepth 20000 in
theorem ggX4_behind_X4_needShip : GoodIn wsX4_behind wsX4_needShip := goodIn_ca (goodIn_r _ [9, 10, 11, 1, 12, 13, 14, 15, 16, 17, 52, 53, 54, 55, 56, 57, 61, 62, 63] (by decide +kernel) (by decide +kernel)) (goodIn_sub (fun _ h => List.mem_cons_of_mem _ (List.mem_append_right _ h)) (by decide +kernel))
set_option maxRecDepth 20000 in
theorem gX4_behind_X4_needShip : GoodIn wsX4_behind (wsV RX4 44 RX4 yX4_needShip wsX4_needShip) := goodIn_app (goodIn_of _ (by decide +kernel)) ggX4_behind_X4_needShip
set_option maxRecDepth 20000 in
theorem ggX4_behind_Jx4a65c_get_915e3 : GoodIn wsX4_behind wsJx4a65c_get_915e3 := goodIn_r _ [21, 17, 22, 23, 24, 25, 26, 27, 28, 29, 30, 31, 32, 15, 33, 34, 61, 62, 63] (by decide +kernel) (by decide +kernel)
set_option maxRecDepth 20000 in
theorem gX4_behind_Jx4a65c_get_915e3 : GoodIn wsX4_behind (wsV RX4 55 RJx4a65c yJx4a65c_get_915e3 wsJx4a65c_get_915e3) := goodIn_app (goodIn_of _ (by decide +kernel)) ggX4_behind_Jx4a65c_get_915e3
set_option maxRecDepth 20000 in
theorem ggX4_behind_Jx4a65c_size_8abf5 : GoodIn wsX4_behind wsJx4a65c_size_8abf5 := goodIn_r _ [16, 17, 61, 62, 63] (by decide +kernel) (by decide +kernel)
set_option maxRecDepth 20000 in
theorem gX4_behind_Jx4a65c_size_8abf5 : GoodIn wsX4_behind (wsV RX4 26 RJx4a65c yJx4a65c_size_8abf5 wsJx4a65c_size_8abf5) := goodIn_app (goodIn_of _ (by decide +kernel)) ggX4_behind_Jx4a65c_size_8abf5
set_option maxRecDepth 20000 in
theorem ggX4_behind_X3_wordIn : GoodIn wsX4_behind wsX3_wordIn := goodIn_r _ [39, 40, 41, 42, 43, 44, 13, 14, 15, 16, 17, 45, 19, 20, 21, 22, 23, 24, 25, 26, 27, 28, 29, 30, 31, 32, 33, 34, 46, 8, 47, 48, 49, 50, 51, 58, 59, 60, 64, 65, 66, 67, 68, 69, 61, 62, 63] (by decide +kernel) (by decide +kernel)
set_option maxRecDepth 20000 in
theorem gX4_behind_X3_wordIn : GoodIn wsX4_behind (wsV RX4 95 RX3 yX3_wordIn wsX3_wordIn) := goodIn_app (goodIn_of _ (by decide +kernel)) ggX4_behind_X3_wordIn
theorem dX4_behind_0 : decode cX4_behind 0 = .ok (.aload_n 0, 1) := by decide +kernel
theorem dX4_behind_1 : decode cX4_behind 1 = .ok (.iload_n 1, 1) := by decide +kernel
theorem dX4_behind_2 : decode cX4_behind 2 = .ok (.invokevirtual 44, 3) := by decide +kernel
theorem dX4_behind_5 : decode cX4_behind 5 = .ok (.aload_n 0, 1) := by decide +kernel
theorem dX4_behind_6 : decode cX4_behind 6 = .ok (.getfield 10, 3) := by decide +kernel
theorem dX4_behind_9 : decode cX4_behind 9 = .ok (.iload_n 1, 1) := by decide +kernel
theorem dX4_behind_10 : decode cX4_behind 10 = .ok (.invokevirtual 55, 3) := by decide +kernel
theorem dX4_behind_13 : decode cX4_behind 13 = .ok (.checkcast 37, 3) := by decide +kernel
theorem dX4_behind_16 : decode cX4_behind 16 = .ok (.astore_n 2, 1) := by decide +kernel
theorem dX4_behind_17 : decode cX4_behind 17 = .ok (.aload_n 2, 1) := by decide +kernel
theorem dX4_behind_18 : decode cX4_behind 18 = .ok (.getfield 79, 3) := by decide +kernel
theorem dX4_behind_21 : decode cX4_behind 21 = .ok (.invokevirtual 26, 3) := by decide +kernel
theorem dX4_behind_24 : decode cX4_behind 24 = .ok (.iconst 1, 1) := by decide +kernel
theorem dX4_behind_25 : decode cX4_behind 25 = .ok (.isub, 1) := by decide +kernel
theorem dX4_behind_26 : decode cX4_behind 26 = .ok (.istore_n 3, 1) := by decide +kernel
theorem dX4_behind_27 : decode cX4_behind 27 = .ok (.iconst 0, 1) := by decide +kernel
theorem dX4_behind_28 : decode cX4_behind 28 = .ok (.istore 4, 2) := by decide +kernel
theorem dX4_behind_30 : decode cX4_behind 30 = .ok (.iconst 0, 1) := by decide +kernel
theorem dX4_behind_31 : decode cX4_behind 31 = .ok (.istore 5, 2) := by decide +kernel
theorem dX4_behind_33 : decode cX4_behind 33 = .ok (.iload 5, 2) := by decide +kernel
theorem dX4_behind_35 : decode cX4_behind 35 = .ok (.bipush 10, 2) := by decide +kernel
theorem dX4_behind_37 : decode cX4_behind 37 = .ok (.if_icmp .ge 26, 3) := by decide +kernel
theorem dX4_behind_40 : decode cX4_behind 40 = .ok (.aload_n 2, 1) := by decide +kernel
theorem dX4_behind_41 : decode cX4_behind 41 = .ok (.iload 5, 2) := by decide +kernel
theorem dX4_behind_43 : decode cX4_behind 43 = .ok (.aload_n 0, 1) := by decide +kernel
theorem dX4_behind_44 : decode cX4_behind 44 = .ok (.getfield 84, 3) := by decide +kernel
theorem dX4_behind_47 : decode cX4_behind 47 = .ok (.invokevirtual 95, 3) := by decide +kernel
theorem dX4_behind_50 : decode cX4_behind 50 = .ok (.iload_n 3, 1) := by decide +kernel
theorem dX4_behind_51 : decode cX4_behind 51 = .ok (.if_icmp .eq 6, 3) := by decide +kernel
theorem dX4_behind_54 : decode cX4_behind 54 = .ok (.iinc 4 1, 3) := by decide +kernel
theorem dX4_behind_57 : decode cX4_behind 57 = .ok (.iinc 5 1, 3) := by decide +kernel
theorem dX4_behind_60 : decode cX4_behind 60 = .ok (.goto (-27), 3) := by decide +kernel
theorem dX4_behind_63 : decode cX4_behind 63 = .ok (.iload 4, 2) := by decide +kernel
theorem dX4_behind_65 : decode cX4_behind 65 = .ok (.ireturn, 1) := by decide +kernel
set_option maxRecDepth 20000 in
theorem ggX4_post_X4_needPort : GoodIn wsX4_post wsX4_needPort := goodIn_ca (goodIn_r _ [15, 16, 17] (by decide +kernel) (by decide +kernel)) (goodIn_sub (fun _ h => List.mem_cons_of_mem _ (List.mem_append_right _ h)) (by decide +kernel))
set_option maxRecDepth 20000 in
theorem gX4_post_X4_needPort : GoodIn wsX4_post (va_wsS RX4 48 yX4_needPort wsX4_needPort) := goodIn_app (goodIn_of _ (by decide +kernel)) ggX4_post_X4_needPort
set_option maxRecDepth 20000 in
theorem ggX4_post_X4_needShip : GoodIn wsX4_post wsX4_needShip := goodIn_ca (goodIn_r _ [21, 16, 17, 7, 22, 23, 24, 25, 26, 27, 225, 226, 227, 228, 229, 230, 241, 242, 243] (by decide +kernel) (by decide +kernel)) (goodIn_sub (fun _ h => List.mem_cons_of_mem _ (List.mem_append_right _ h)) (by decide +kernel))
set_option maxRecDepth 20000 in
theorem gX4_post_X4_needShip : GoodIn wsX4_post (wsV RX4 44 RX4 yX4_needShip wsX4_needShip) := goodIn_app (goodIn_of _ (by decide +kernel)) ggX4_post_X4_needShip
set_option maxRecDepth 20000 in
theorem ggX4_post_Jx4a65c_size_8abf5 : GoodIn wsX4_post wsJx4a65c_size_8abf5 := goodIn_r _ [26, 27, 241, 242, 243] (by decide +kernel) (by decide +kernel)
set_option maxRecDepth 20000 in
theorem gX4_post_Jx4a65c_size_8abf5 : GoodIn wsX4_post (wsV RX4 26 RJx4a65c yJx4a65c_size_8abf5 wsJx4a65c_size_8abf5) := goodIn_app (goodIn_of _ (by decide +kernel)) ggX4_post_Jx4a65c_size_8abf5
set_option maxRecDepth 20000 in
theorem ggX4_post_Jx4a65c_get_915e3 : GoodIn wsX4_post wsJx4a65c_get_915e3 := goodIn_r _ [31, 27, 32, 33, 34, 35, 36, 37, 38, 39, 40, 41, 42, 25, 43, 44, 241, 242, 243] (by decide +kernel) (by decide +kernel)
set_option maxRecDepth 20000 in
theorem gX4_post_Jx4a65c_get_915e3 : GoodIn wsX4_post (wsV RX4 55 RJx4a65c yJx4a65c_get_915e3 wsJx4a65c_get_915e3) := goodIn_app (goodIn_of _ (by decide +kernel)) ggX4_post_Jx4a65c_get_915e3
set_option maxRecDepth 20000 in
theorem ggX4_post_X1_init : GoodIn wsX4_post wsX1_init := goodIn_r _ [47, 48, 49, 50, 51, 52, 53, 54, 55, 56, 57, 58, 59, 60, 61, 62, 63, 64, 65, 244, 245, 231, 232, 233, 234, 235, 236, 237, 238, 239, 240] (by decide +kernel) (by decide +kernel)
set_option maxRecDepth 20000 in
theorem gX4_post_X1_init : GoodIn wsX4_post (wsX1_init) := ggX4_post_X1_init
set_option maxRecDepth 20000 in
theorem ggX4_post_Jx4a65c_add_9ea2d : GoodIn wsX4_post wsJx4a65c_add_9ea2d := goodIn_r _ [69, 70, 71, 44, 27, 72, 73, 74, 25, 75, 76, 77, 78, 79, 80, 81, 82, 83, 84, 85, 86, 87, 88, 89, 90, 91, 92, 93, 94, 95, 96, 97, 98, 99, 100, 101, 102, 103, 104, 105, 106, 107, 108, 109, 110, 111, 112, 113, 114, 115, 116, 117, 118, 241, 242, 243] (by decide +kernel) (by decide +kernel)
set_option maxRecDepth 20000 in
theorem gX4_post_Jx4a65c_add_9ea2d : GoodIn wsX4_post (wsV RX4 40 RJx4a65c yJx4a65c_add_9ea2d wsJx4a65c_add_9ea2d) := goodIn_app (goodIn_of _ (by decide +kernel)) ggX4_post_Jx4a65c_add_9ea2d
set_option maxRecDepth 20000 in
theorem ggX4_post_X0_writePort : GoodIn wsX4_post wsX0_writePort := goodIn_r _ [122, 123, 124, 125, 53, 126, 127, 65, 244, 245] (by decide +kernel) (by decide +kernel)
set_option maxRecDepth 20000 in
theorem gX4_post_X0_writePort : GoodIn wsX4_post (wsV RX4 110 RX0 yX0_writePort wsX0_writePort) := goodIn_app (goodIn_of _ (by decide +kernel)) ggX4_post_X0_writePort
set_option maxRecDepth 20000 in
theorem ggX4_post_X0_writeDay : GoodIn wsX4_post wsX0_writeDay := goodIn_r _ [131, 123, 124, 125, 53, 126, 127, 65, 244, 245] (by decide +kernel) (by decide +kernel)
set_option maxRecDepth 20000 in
theorem gX4_post_X0_writeDay : GoodIn wsX4_post (wsV RX4 115 RX0 yX0_writeDay wsX0_writeDay) := goodIn_app (goodIn_of _ (by decide +kernel)) ggX4_post_X0_writeDay
set_option maxRecDepth 20000 in
theorem ggX4_post_X4_handle : GoodIn wsX4_post wsX4_handle := goodIn_r _ [135, 136, 137, 9, 138, 139, 140, 14, 141, 142, 143, 144, 145, 6, 146, 55, 54, 147, 148, 149, 124, 125, 53, 126, 127, 65, 150, 151, 152, 153, 154, 155, 156, 157, 23, 24, 25, 26, 27, 158, 29, 30, 31, 32, 33, 34, 35, 36, 37, 38, 39, 40, 41, 42, 43, 44, 159, 160, 161, 162, 163, 164, 165, 166, 167, 168, 169, 170, 171, 172, 173, 10, 174, 175, 176, 66, 67, 68, 69, 70, 71, 72, 73, 74, 75, 76, 77, 78, 79, 80, 81, 82, 83, 84, 85, 86, 87, 88, 89, 90, 91, 92, 93, 94, 95, 96, 97, 98, 99, 100, 101, 102, 103, 104, 105, 106, 107, 108, 109, 110, 111, 112, 113, 114, 115, 116, 117, 118, 177, 178, 179, 180, 181, 182, 183, 184, 185, 186, 187, 188, 189, 190, 191, 192, 193, 194, 28, 195, 196, 197, 198, 199, 200, 201, 202, 203, 204, 205, 206, 207, 208, 209, 210, 211, 212, 213, 58, 214, 215, 216, 217, 218, 219, 220, 221, 222, 223, 224, 120, 121, 122, 123, 231, 232, 233, 234, 235, 236, 237, 238, 239, 240, 225, 226, 227, 228, 229, 230, 244, 245, 246, 247, 248, 241, 242, 243, 249, 250, 251, 252, 253, 254] (by decide +kernel) (by decide +kernel)
set_option maxRecDepth 20000 in
theorem gX4_post_X4_handle : GoodIn wsX4_post (wsV RX4 118 RX4 yX4_handle wsX4_handle) := goodIn_app (goodIn_of _ (by decide +kernel)) ggX4_post_X4_handle
theorem dX4_post_0 : decode cX4_post 0 = .ok (.iload_n 1, 1) := by decide +kernel
theorem dX4_post_1 : decode cX4_post 1 = .ok (.invokestatic 48, 3) := by decide +kernel
theorem dX4_post_4 : decode cX4_post 4 = .ok (.aload_n 0, 1) := by decide +kernel
theorem dX4_post_5 : decode cX4_post 5 = .ok (.iload_n 2, 1) := by decide +kernel
theorem dX4_post_6 : decode cX4_post 6 = .ok (.invokevirtual 44, 3) := by decide +kernel
theorem dX4_post_9 : decode cX4_post 9 = .ok (.iload_n 3, 1) := by decide +kernel
theorem dX4_post_10 : decode cX4_post 10 = .ok (.iconst (-1), 1) := by decide +kernel
theorem dX4_post_11 : decode cX4_post 11 = .ok (.if_icmp .eq 7, 3) := by decide +kernel
theorem dX4_post_14 : decode cX4_post 14 = .ok (.iload_n 3, 1) := by decide +kernel
theorem dX4_post_15 : decode cX4_post 15 = .ok (.invokestatic 48, 3) := by decide +kernel
theorem dX4_post_18 : decode cX4_post 18 = .ok (.aload_n 0, 1) := by decide +kernel
theorem dX4_post_19 : decode cX4_post 19 = .ok (.getfield 16, 3) := by decide +kernel
theorem dX4_post_22 : decode cX4_post 22 = .ok (.invokevirtual 26, 3) := by decide +kernel
theorem dX4_post_25 : decode cX4_post 25 = .ok (.bipush 40, 2) := by decide +kernel
theorem dX4_post_27 : decode cX4_post 27 = .ok (.if_icmp .lt 13, 3) := by decide +kernel
theorem dX4_post_30 : decode cX4_post 30 = .ok (.new 30, 3) := by decide +kernel
theorem dX4_post_33 : decode cX4_post 33 = .ok (.dup, 1) := by decide +kernel
theorem dX4_post_34 : decode cX4_post 34 = .ok (.ldc 99, 2) := by decide +kernel
theorem dX4_post_36 : decode cX4_post 36 = .ok (.invokespecial 34, 3) := by decide +kernel
theorem dX4_post_39 : decode cX4_post 39 = .ok (.athrow, 1) := by decide +kernel
theorem dX4_post_40 : decode cX4_post 40 = .ok (.new 101, 3) := by decide +kernel
theorem dX4_post_43 : decode cX4_post 43 = .ok (.dup, 1) := by decide +kernel
theorem dX4_post_44 : decode cX4_post 44 = .ok (.aload_n 0, 1) := by decide +kernel
theorem dX4_post_45 : decode cX4_post 45 = .ok (.getfield 16, 3) := by decide +kernel
theorem dX4_post_48 : decode cX4_post 48 = .ok (.invokevirtual 26, 3) := by decide +kernel
theorem dX4_post_51 : decode cX4_post 51 = .ok (.aload_n 0, 1) := by decide +kernel
theorem dX4_post_52 : decode cX4_post 52 = .ok (.getfield 10, 3) := by decide +kernel
theorem dX4_post_55 : decode cX4_post 55 = .ok (.iload_n 2, 1) := by decide +kernel
theorem dX4_post_56 : decode cX4_post 56 = .ok (.invokevirtual 55, 3) := by decide +kernel
theorem dX4_post_59 : decode cX4_post 59 = .ok (.checkcast 37, 3) := by decide +kernel
theorem dX4_post_62 : decode cX4_post 62 = .ok (.iload_n 1, 1) := by decide +kernel
theorem dX4_post_63 : decode cX4_post 63 = .ok (.iload_n 3, 1) := by decide +kernel
theorem dX4_post_64 : decode cX4_post 64 = .ok (.aload_n 0, 1) := by decide +kernel
theorem dX4_post_65 : decode cX4_post 65 = .ok (.getfield 84, 3) := by decide +kernel
theorem dX4_post_68 : decode cX4_post 68 = .ok (.invokespecial 103, 3) := by decide +kernel
theorem dX4_post_71 : decode cX4_post 71 = .ok (.astore 4, 2) := by decide +kernel
theorem dX4_post_73 : decode cX4_post 73 = .ok (.aload_n 0, 1) := by decide +kernel
theorem dX4_post_74 : decode cX4_post 74 = .ok (.getfield 16, 3) := by decide +kernel
theorem dX4_post_77 : decode cX4_post 77 = .ok (.aload 4, 2) := by decide +kernel
theorem dX4_post_79 : decode cX4_post 79 = .ok (.invokevirtual 40, 3) := by decide +kernel
theorem dX4_post_82 : decode cX4_post 82 = .ok (.pop, 1) := by decide +kernel
theorem dX4_post_83 : decode cX4_post 83 = .ok (.aload 4, 2) := by decide +kernel
theorem dX4_post_85 : decode cX4_post 85 = .ok (.getfield 106, 3) := by decide +kernel
theorem dX4_post_88 : decode cX4_post 88 = .ok (.iload_n 1, 1) := by decide +kernel
theorem dX4_post_89 : decode cX4_post 89 = .ok (.invokevirtual 110, 3) := by decide +kernel
theorem dX4_post_92 : decode cX4_post 92 = .ok (.aload 4, 2) := by decide +kernel
theorem dX4_post_94 : decode cX4_post 94 = .ok (.getfield 106, 3) := by decide +kernel
theorem dX4_post_97 : decode cX4_post 97 = .ok (.aload_n 0, 1) := by decide +kernel
theorem dX4_post_98 : decode cX4_post 98 = .ok (.getfield 84, 3) := by decide +kernel
theorem dX4_post_101 : decode cX4_post 101 = .ok (.invokevirtual 115, 3) := by decide +kernel
theorem dX4_post_104 : decode cX4_post 104 = .ok (.aload_n 0, 1) := by decide +kernel
theorem dX4_post_105 : decode cX4_post 105 = .ok (.aload 4, 2) := by decide +kernel
theorem dX4_post_107 : decode cX4_post 107 = .ok (.invokevirtual 118, 3) := by decide +kernel
theorem dX4_post_110 : decode cX4_post 110 = .ok (.aload 4, 2) := by decide +kernel
theorem dX4_post_112 : decode cX4_post 112 = .ok (.getfield 122, 3) := by decide +kernel
theorem dX4_post_115 : decode cX4_post 115 = .ok (.ireturn, 1) := by decide +kernel
set_option maxRecDepth 20000 in
theorem ggX4_strike_X4_needPort : GoodIn wsX4_strike wsX4_needPort := goodIn_ca (goodIn_r _ [10, 11, 12] (by decide +kernel) (by decide +kernel)) (goodIn_sub (fun _ h => List.mem_cons_of_mem _ (List.mem_append_left _ (List.mem_append_right _ h))) (by decide +kernel))
set_option maxRecDepth 20000 in
theorem gX4_strike_X4_needPort : GoodIn wsX4_strike (va_wsS RX4 48 yX4_needPort wsX4_needPort) := goodIn_app (goodIn_of _ (by decide +kernel)) ggX4_strike_X4_needPort
set_option maxRecDepth 20000 in
theorem ggX4_strike_X4_needRange : GoodIn wsX4_strike wsX4_needRange := goodIn_ca (goodIn_r _ [15, 16, 17] (by decide +kernel) (by decide +kernel)) (goodIn_sub (fun _ h => List.mem_cons_of_mem _ (List.mem_append_right _ h)) (by decide +kernel))
set_option maxRecDepth 20000 in
theorem gX4_strike_X4_needRange : GoodIn wsX4_strike (va_wsS RX4 51 yX4_needRange wsX4_needRange) := goodIn_app (goodIn_of _ (by decide +kernel)) ggX4_strike_X4_needRange
theorem dX4_strike_0 : decode cX4_strike 0 = .ok (.iload_n 1, 1) := by decide +kernel
theorem dX4_strike_1 : decode cX4_strike 1 = .ok (.invokestatic 48, 3) := by decide +kernel
theorem dX4_strike_4 : decode cX4_strike 4 = .ok (.iload_n 2, 1) := by decide +kernel
theorem dX4_strike_5 : decode cX4_strike 5 = .ok (.iconst 1, 1) := by decide +kernel
theorem dX4_strike_6 : decode cX4_strike 6 = .ok (.bipush 60, 2) := by decide +kernel
theorem dX4_strike_8 : decode cX4_strike 8 = .ok (.invokestatic 51, 3) := by decide +kernel
theorem dX4_strike_11 : decode cX4_strike 11 = .ok (.aload_n 0, 1) := by decide +kernel
theorem dX4_strike_12 : decode cX4_strike 12 = .ok (.getfield 22, 3) := by decide +kernel
theorem dX4_strike_15 : decode cX4_strike 15 = .ok (.iload_n 1, 1) := by decide +kernel
theorem dX4_strike_16 : decode cX4_strike 16 = .ok (.aload_n 0, 1) := by decide +kernel
theorem dX4_strike_17 : decode cX4_strike 17 = .ok (.getfield 22, 3) := by decide +kernel
theorem dX4_strike_20 : decode cX4_strike 20 = .ok (.iload_n 1, 1) := by decide +kernel
theorem dX4_strike_21 : decode cX4_strike 21 = .ok (.iaload, 1) := by decide +kernel
theorem dX4_strike_22 : decode cX4_strike 22 = .ok (.aload_n 0, 1) := by decide +kernel
theorem dX4_strike_23 : decode cX4_strike 23 = .ok (.getfield 84, 3) := by decide +kernel
theorem dX4_strike_26 : decode cX4_strike 26 = .ok (.iload_n 2, 1) := by decide +kernel
theorem dX4_strike_27 : decode cX4_strike 27 = .ok (.iadd, 1) := by decide +kernel
theorem dX4_strike_28 : decode cX4_strike 28 = .ok (.invokestatic 125, 3) := by decide +kernel
theorem dX4_strike_31 : decode cX4_strike 31 = .ok (.iastore, 1) := by decide +kernel
theorem dX4_strike_32 : decode cX4_strike 32 = .ok (.aload_n 0, 1) := by decide +kernel
theorem dX4_strike_33 : decode cX4_strike 33 = .ok (.getfield 22, 3) := by decide +kernel
theorem dX4_strike_36 : decode cX4_strike 36 = .ok (.iload_n 1, 1) := by decide +kernel
theorem dX4_strike_37 : decode cX4_strike 37 = .ok (.iaload, 1) := by decide +kernel
theorem dX4_strike_38 : decode cX4_strike 38 = .ok (.ireturn, 1) := by decide +kernel
set_option maxRecDepth 20000 in
theorem ggX4_isClosed_X4_needPort : GoodIn wsX4_isClosed wsX4_needPort := goodIn_ca (goodIn_r _ [4, 5, 6] (by decide +kernel) (by decide +kernel)) (goodIn_sub (fun _ h => List.mem_cons_of_mem _ (List.mem_append_right _ h)) (by decide +kernel))
set_option maxRecDepth 20000 in
theorem gX4_isClosed_X4_needPort : GoodIn wsX4_isClosed (va_wsS RX4 48 yX4_needPort wsX4_needPort) := goodIn_app (goodIn_of _ (by decide +kernel)) ggX4_isClosed_X4_needPort
set_option maxRecDepth 20000 in
theorem ggX4_isClosed_X4_isShut : GoodIn wsX4_isClosed wsX4_isShut := goodIn_r _ [10, 11, 12, 13, 14, 15, 16, 17, 18] (by decide +kernel) (by decide +kernel)
set_option maxRecDepth 20000 in
theorem gX4_isClosed_X4_isShut : GoodIn wsX4_isClosed (wsV RX4 130 RX4 yX4_isShut wsX4_isShut) := goodIn_app (goodIn_of _ (by decide +kernel)) ggX4_isClosed_X4_isShut
theorem dX4_isClosed_0 : decode cX4_isClosed 0 = .ok (.iload_n 1, 1) := by decide +kernel
theorem dX4_isClosed_1 : decode cX4_isClosed 1 = .ok (.invokestatic 48, 3) := by decide +kernel
theorem dX4_isClosed_4 : decode cX4_isClosed 4 = .ok (.aload_n 0, 1) := by decide +kernel
theorem dX4_isClosed_5 : decode cX4_isClosed 5 = .ok (.iload_n 1, 1) := by decide +kernel
theorem dX4_isClosed_6 : decode cX4_isClosed 6 = .ok (.invokevirtual 130, 3) := by decide +kernel
theorem dX4_isClosed_9 : decode cX4_isClosed 9 = .ok (.ireturn, 1) := by decide +kernel
set_option maxRecDepth 20000 in
theorem ggX4_pass_X4_needRange : GoodIn wsX4_pass wsX4_needRange := goodIn_ca (goodIn_r _ [8, 9, 10] (by decide +kernel) (by decide +kernel)) (goodIn_sub (fun _ h => List.mem_cons_of_mem _ (List.mem_append_right _ h)) (by decide +kernel))
set_option maxRecDepth 20000 in
theorem gX4_pass_X4_needRange : GoodIn wsX4_pass (va_wsS RX4 51 yX4_needRange wsX4_needRange) := goodIn_app (goodIn_of _ (by decide +kernel)) ggX4_pass_X4_needRange
set_option maxRecDepth 20000 in
theorem ggX4_pass_X4_passOneDay : GoodIn wsX4_pass wsX4_passOneDay := goodIn_r _ [14, 3, 15, 16, 17, 18, 19, 20, 21, 22, 23, 24, 25, 26, 27, 28, 29, 30, 31, 32, 33, 34, 35, 36, 37, 38, 39, 40, 41, 42, 43, 44, 45, 7, 46, 47, 48, 49, 50, 51, 52, 53, 54, 55, 56, 57, 58, 59, 60, 61, 62, 63, 64, 65, 66, 67, 68, 69, 70, 71, 72, 73, 74, 75, 76, 77, 78, 79, 80, 81, 82, 83, 84, 85, 86, 87, 88, 89, 90, 91, 92, 93, 94, 95, 96, 97, 98, 99, 100, 101, 102, 103, 104, 105, 106, 107, 108, 109, 110, 111, 112, 113, 114, 115, 116, 117, 118, 119, 120, 121, 122, 123, 124, 125, 126, 127, 128, 129, 130, 131, 132, 133, 134, 135, 136, 137, 138, 139, 140, 141, 142, 143, 144, 145, 146, 147, 148, 149, 150, 151, 152, 153, 154, 155, 156, 157, 158, 159, 160, 161, 162, 163, 164, 165, 166, 4, 167, 168, 169, 170, 171, 172, 173, 174, 175, 176, 177, 178, 179, 180, 181, 182, 183, 184, 185, 186, 187, 188, 189, 190, 191, 192, 193, 194, 195, 196, 197, 198, 199, 200, 201, 202, 203, 204, 205, 206, 207, 208, 209, 210, 211, 212, 213, 214, 215, 216, 217, 218, 219, 220, 221, 222, 223, 224, 225, 226, 227, 228, 229, 230, 231, 232, 233, 234, 235, 236, 237, 238, 239, 240, 241, 242, 243, 244, 245, 246, 247, 248, 249, 250, 251, 252, 253, 254, 255, 256] (by decide +kernel) (by decide +kernel)
set_option maxRecDepth 20000 in
theorem gX4_pass_X4_passOneDay : GoodIn wsX4_pass (wsV RX4 139 RX4 yX4_passOneDay wsX4_passOneDay) := goodIn_app (goodIn_of _ (by decide +kernel)) ggX4_pass_X4_passOneDay
theorem dX4_pass_0 : decode cX4_pass 0 = .ok (.iload_n 1, 1) := by decide +kernel
theorem dX4_pass_1 : decode cX4_pass 1 = .ok (.iconst 1, 1) := by decide +kernel
theorem dX4_pass_2 : decode cX4_pass 2 = .ok (.bipush 60, 2) := by decide +kernel
theorem dX4_pass_4 : decode cX4_pass 4 = .ok (.invokestatic 51, 3) := by decide +kernel
theorem dX4_pass_7 : decode cX4_pass 7 = .ok (.aload_n 0, 1) := by decide +kernel
theorem dX4_pass_8 : decode cX4_pass 8 = .ok (.getfield 84, 3) := by decide +kernel
theorem dX4_pass_11 : decode cX4_pass 11 = .ok (.iload_n 1, 1) := by decide +kernel
theorem dX4_pass_12 : decode cX4_pass 12 = .ok (.iadd, 1) := by decide +kernel
theorem dX4_pass_13 : decode cX4_pass 13 = .ok (.sipush 1000, 3) := by decide +kernel
theorem dX4_pass_16 : decode cX4_pass 16 = .ok (.if_icmp .le 13, 3) := by decide +kernel
theorem dX4_pass_19 : decode cX4_pass 19 = .ok (.new 30, 3) := by decide +kernel
theorem dX4_pass_22 : decode cX4_pass 22 = .ok (.dup, 1) := by decide +kernel
theorem dX4_pass_23 : decode cX4_pass 23 = .ok (.ldc 134, 2) := by decide +kernel
theorem dX4_pass_25 : decode cX4_pass 25 = .ok (.invokespecial 34, 3) := by decide +kernel
theorem dX4_pass_28 : decode cX4_pass 28 = .ok (.athrow, 1) := by decide +kernel
theorem dX4_pass_29 : decode cX4_pass 29 = .ok (.aload_n 0, 1) := by decide +kernel
theorem dX4_pass_30 : decode cX4_pass 30 = .ok (.getfield 136, 3) := by decide +kernel
theorem dX4_pass_33 : decode cX4_pass 33 = .ok (.istore_n 2, 1) := by decide +kernel
theorem dX4_pass_34 : decode cX4_pass 34 = .ok (.iconst 0, 1) := by decide +kernel
theorem dX4_pass_35 : decode cX4_pass 35 = .ok (.istore_n 3, 1) := by decide +kernel
theorem dX4_pass_36 : decode cX4_pass 36 = .ok (.iload_n 3, 1) := by decide +kernel
theorem dX4_pass_37 : decode cX4_pass 37 = .ok (.iload_n 1, 1) := by decide +kernel
theorem dX4_pass_38 : decode cX4_pass 38 = .ok (.if_icmp .ge 13, 3) := by decide +kernel
theorem dX4_pass_41 : decode cX4_pass 41 = .ok (.aload_n 0, 1) := by decide +kernel
theorem dX4_pass_42 : decode cX4_pass 42 = .ok (.invokevirtual 139, 3) := by decide +kernel
theorem dX4_pass_45 : decode cX4_pass 45 = .ok (.iinc 3 1, 3) := by decide +kernel
theorem dX4_pass_48 : decode cX4_pass 48 = .ok (.goto (-12), 3) := by decide +kernel
theorem dX4_pass_51 : decode cX4_pass 51 = .ok (.aload_n 0, 1) := by decide +kernel
theorem dX4_pass_52 : decode cX4_pass 52 = .ok (.getfield 136, 3) := by decide +kernel
theorem dX4_pass_55 : decode cX4_pass 55 = .ok (.iload_n 2, 1) := by decide +kernel
theorem dX4_pass_56 : decode cX4_pass 56 = .ok (.isub, 1) := by decide +kernel
theorem dX4_pass_57 : decode cX4_pass 57 = .ok (.ireturn, 1) := by decide +kernel
theorem dX4_today_0 : decode cX4_today 0 = .ok (.aload_n 0, 1) := by decide +kernel
theorem dX4_today_1 : decode cX4_today 1 = .ok (.getfield 84, 3) := by decide +kernel
theorem dX4_today_4 : decode cX4_today 4 = .ok (.ireturn, 1) := by decide +kernel
set_option maxRecDepth 20000 in
theorem ggX4_letters_Jx4a65c_size_8abf5 : GoodIn wsX4_letters wsJx4a65c_size_8abf5 := goodIn_r _ [6, 7, 14, 15, 16] (by decide +kernel) (by decide +kernel)
set_option maxRecDepth 20000 in
theorem gX4_letters_Jx4a65c_size_8abf5 : GoodIn wsX4_letters (wsV RX4 26 RJx4a65c yJx4a65c_size_8abf5 wsJx4a65c_size_8abf5) := goodIn_app (goodIn_of _ (by decide +kernel)) ggX4_letters_Jx4a65c_size_8abf5
theorem dX4_letters_0 : decode cX4_letters 0 = .ok (.aload_n 0, 1) := by decide +kernel
theorem dX4_letters_1 : decode cX4_letters 1 = .ok (.getfield 16, 3) := by decide +kernel
theorem dX4_letters_4 : decode cX4_letters 4 = .ok (.invokevirtual 26, 3) := by decide +kernel
theorem dX4_letters_7 : decode cX4_letters 7 = .ok (.ireturn, 1) := by decide +kernel
set_option maxRecDepth 20000 in
theorem ggX4_state_X4_needLetter : GoodIn wsX4_state wsX4_needLetter := goodIn_ca (goodIn_r _ [8, 9, 10, 1, 11, 12, 13, 14, 15, 16, 34, 35, 36, 37, 38, 39, 50, 51, 52] (by decide +kernel) (by decide +kernel)) (goodIn_sub (fun _ h => List.mem_cons_of_mem _ (List.mem_append_right _ h)) (by decide +kernel))
set_option maxRecDepth 20000 in
theorem gX4_state_X4_needLetter : GoodIn wsX4_state (wsV RX4 142 RX4 yX4_needLetter wsX4_needLetter) := goodIn_app (goodIn_of _ (by decide +kernel)) ggX4_state_X4_needLetter
set_option maxRecDepth 20000 in
theorem ggX4_state_Jx4a65c_get_915e3 : GoodIn wsX4_state wsJx4a65c_get_915e3 := goodIn_r _ [20, 16, 21, 22, 23, 24, 25, 26, 27, 28, 29, 30, 31, 14, 32, 33, 50, 51, 52] (by decide +kernel) (by decide +kernel)
set_option maxRecDepth 20000 in
theorem gX4_state_Jx4a65c_get_915e3 : GoodIn wsX4_state (wsV RX4 55 RJx4a65c yJx4a65c_get_915e3 wsJx4a65c_get_915e3) := goodIn_app (goodIn_of _ (by decide +kernel)) ggX4_state_Jx4a65c_get_915e3
theorem dX4_state_0 : decode cX4_state 0 = .ok (.aload_n 0, 1) := by decide +kernel
theorem dX4_state_1 : decode cX4_state 1 = .ok (.iload_n 1, 1) := by decide +kernel
theorem dX4_state_2 : decode cX4_state 2 = .ok (.invokevirtual 142, 3) := by decide +kernel
theorem dX4_state_5 : decode cX4_state 5 = .ok (.aload_n 0, 1) := by decide +kernel
theorem dX4_state_6 : decode cX4_state 6 = .ok (.getfield 16, 3) := by decide +kernel
theorem dX4_state_9 : decode cX4_state 9 = .ok (.iload_n 1, 1) := by decide +kernel
theorem dX4_state_10 : decode cX4_state 10 = .ok (.invokevirtual 55, 3) := by decide +kernel
theorem dX4_state_13 : decode cX4_state 13 = .ok (.checkcast 101, 3) := by decide +kernel
theorem dX4_state_16 : decode cX4_state 16 = .ok (.getfield 145, 3) := by decide +kernel
theorem dX4_state_19 : decode cX4_state 19 = .ok (.ireturn, 1) := by decide +kernel
set_option maxRecDepth 20000 in
theorem ggX4_where_X4_needLetter : GoodIn wsX4_where wsX4_needLetter := goodIn_ca (goodIn_r _ [7, 8, 9, 1, 10, 11, 12, 13, 14, 15, 40, 41, 42, 43, 44, 45, 46, 47, 48] (by decide +kernel) (by decide +kernel)) (goodIn_sub (fun _ h => List.mem_cons_of_mem _ (List.mem_append_right _ h)) (by decide +kernel))
set_option maxRecDepth 20000 in
theorem gX4_where_X4_needLetter : GoodIn wsX4_where (wsV RX4 142 RX4 yX4_needLetter wsX4_needLetter) := goodIn_app (goodIn_of _ (by decide +kernel)) ggX4_where_X4_needLetter
set_option maxRecDepth 20000 in
theorem ggX4_where_Jx4a65c_get_915e3 : GoodIn wsX4_where wsJx4a65c_get_915e3 := goodIn_r _ [19, 15, 20, 21, 22, 23, 24, 25, 26, 27, 28, 29, 30, 13, 31, 32, 46, 47, 48] (by decide +kernel) (by decide +kernel)
set_option maxRecDepth 20000 in
theorem gX4_where_Jx4a65c_get_915e3 : GoodIn wsX4_where (wsV RX4 55 RJx4a65c yJx4a65c_get_915e3 wsJx4a65c_get_915e3) := goodIn_app (goodIn_of _ (by decide +kernel)) ggX4_where_Jx4a65c_get_915e3
set_option maxRecDepth 20000 in
theorem ggX4_where_X1_place : GoodIn wsX4_where wsX1_place := goodIn_r _ [37, 38, 39, 49, 50, 51, 52, 53, 54, 55, 56, 57, 58] (by decide +kernel) (by decide +kernel)
set_option maxRecDepth 20000 in
theorem gX4_where_X1_place : GoodIn wsX4_where (wsV RX4 148 RX1 yX1_place wsX1_place) := goodIn_app (goodIn_of _ (by decide +kernel)) ggX4_where_X1_place
theorem dX4_where_0 : decode cX4_where 0 = .ok (.aload_n 0, 1) := by decide +kernel
theorem dX4_where_1 : decode cX4_where 1 = .ok (.iload_n 1, 1) := by decide +kernel
theorem dX4_where_2 : decode cX4_where 2 = .ok (.invokevirtual 142, 3) := by decide +kernel
theorem dX4_where_5 : decode cX4_where 5 = .ok (.aload_n 0, 1) := by decide +kernel
theorem dX4_where_6 : decode cX4_where 6 = .ok (.getfield 16, 3) := by decide +kernel
theorem dX4_where_9 : decode cX4_where 9 = .ok (.iload_n 1, 1) := by decide +kernel
theorem dX4_where_10 : decode cX4_where 10 = .ok (.invokevirtual 55, 3) := by decide +kernel
theorem dX4_where_13 : decode cX4_where 13 = .ok (.checkcast 101, 3) := by decide +kernel
theorem dX4_where_16 : decode cX4_where 16 = .ok (.invokevirtual 148, 3) := by decide +kernel
theorem dX4_where_19 : decode cX4_where 19 = .ok (.ireturn, 1) := by decide +kernel
set_option maxRecDepth 20000 in
theorem ggX4_whereByMarks_X4_needLetter : GoodIn wsX4_whereByMarks wsX4_needLetter := goodIn_ca (goodIn_r _ [8, 9, 10, 1, 11, 12, 13, 14, 15, 16, 49, 50, 51, 52, 53, 54, 65, 66, 67] (by decide +kernel) (by decide +kernel)) (goodIn_sub (fun _ h => List.mem_cons_of_mem _ (List.mem_append_right _ h)) (by decide +kernel))
set_option maxRecDepth 20000 in
theorem gX4_whereByMarks_X4_needLetter : GoodIn wsX4_whereByMarks (wsV RX4 142 RX4 yX4_needLetter wsX4_needLetter) := goodIn_app (goodIn_of _ (by decide +kernel)) ggX4_whereByMarks_X4_needLetter
set_option maxRecDepth 20000 in
theorem ggX4_whereByMarks_Jx4a65c_get_915e3 : GoodIn wsX4_whereByMarks wsJx4a65c_get_915e3 := goodIn_r _ [20, 16, 21, 22, 23, 24, 25, 26, 27, 28, 29, 30, 31, 14, 32, 33, 65, 66, 67] (by decide +kernel) (by decide +kernel)
set_option maxRecDepth 20000 in
theorem gX4_whereByMarks_Jx4a65c_get_915e3 : GoodIn wsX4_whereByMarks (wsV RX4 55 RJx4a65c yJx4a65c_get_915e3 wsJx4a65c_get_915e3) := goodIn_app (goodIn_of _ (by decide +kernel)) ggX4_whereByMarks_Jx4a65c_get_915e3
set_option maxRecDepth 20000 in
theorem ggX4_whereByMarks_X0_placeRead : GoodIn wsX4_whereByMarks wsX0_placeRead := goodIn_r _ [38, 39, 40, 41, 42, 43, 37, 44, 45, 46, 47, 48, 68, 69] (by decide +kernel) (by decide +kernel)
set_option maxRecDepth 20000 in
theorem gX4_whereByMarks_X0_placeRead : GoodIn wsX4_whereByMarks (wsV RX4 151 RX0 yX0_placeRead wsX0_placeRead) := goodIn_app (goodIn_of _ (by decide +kernel)) ggX4_whereByMarks_X0_placeRead
theorem dX4_whereByMarks_0 : decode cX4_whereByMarks 0 = .ok (.aload_n 0, 1) := by decide +kernel
theorem dX4_whereByMarks_1 : decode cX4_whereByMarks 1 = .ok (.iload_n 1, 1) := by decide +kernel
theorem dX4_whereByMarks_2 : decode cX4_whereByMarks 2 = .ok (.invokevirtual 142, 3) := by decide +kernel
theorem dX4_whereByMarks_5 : decode cX4_whereByMarks 5 = .ok (.aload_n 0, 1) := by decide +kernel
theorem dX4_whereByMarks_6 : decode cX4_whereByMarks 6 = .ok (.getfield 16, 3) := by decide +kernel
theorem dX4_whereByMarks_9 : decode cX4_whereByMarks 9 = .ok (.iload_n 1, 1) := by decide +kernel
theorem dX4_whereByMarks_10 : decode cX4_whereByMarks 10 = .ok (.invokevirtual 55, 3) := by decide +kernel
theorem dX4_whereByMarks_13 : decode cX4_whereByMarks 13 = .ok (.checkcast 101, 3) := by decide +kernel
theorem dX4_whereByMarks_16 : decode cX4_whereByMarks 16 = .ok (.getfield 106, 3) := by decide +kernel
theorem dX4_whereByMarks_19 : decode cX4_whereByMarks 19 = .ok (.invokevirtual 151, 3) := by decide +kernel
theorem dX4_whereByMarks_22 : decode cX4_whereByMarks 22 = .ok (.ireturn, 1) := by decide +kernel
set_option maxRecDepth 20000 in
theorem ggX4_comesTo_X4_needLetter : GoodIn wsX4_comesTo wsX4_needLetter := goodIn_ca (goodIn_r _ [10, 11, 12, 1, 13, 14, 15, 16, 17, 18, 36, 37, 38, 39, 40, 41, 52, 53, 54] (by decide +kernel) (by decide +kernel)) (goodIn_sub (fun _ h => List.mem_cons_of_mem _ (List.mem_append_right _ h)) (by decide +kernel))
set_option maxRecDepth 20000 in
theorem gX4_comesTo_X4_needLetter : GoodIn wsX4_comesTo (wsV RX4 142 RX4 yX4_needLetter wsX4_needLetter) := goodIn_app (goodIn_of _ (by decide +kernel)) ggX4_comesTo_X4_needLetter
set_option maxRecDepth 20000 in
theorem ggX4_comesTo_Jx4a65c_get_915e3 : GoodIn wsX4_comesTo wsJx4a65c_get_915e3 := goodIn_r _ [22, 18, 23, 24, 25, 26, 27, 28, 29, 30, 31, 32, 33, 16, 34, 35, 52, 53, 54] (by decide +kernel) (by decide +kernel)
set_option maxRecDepth 20000 in
theorem gX4_comesTo_Jx4a65c_get_915e3 : GoodIn wsX4_comesTo (wsV RX4 55 RJx4a65c yJx4a65c_get_915e3 wsJx4a65c_get_915e3) := goodIn_app (goodIn_of _ (by decide +kernel)) ggX4_comesTo_Jx4a65c_get_915e3
theorem dX4_comesTo_0 : decode cX4_comesTo 0 = .ok (.aload_n 0, 1) := by decide +kernel
theorem dX4_comesTo_1 : decode cX4_comesTo 1 = .ok (.iload_n 1, 1) := by decide +kernel
theorem dX4_comesTo_2 : decode cX4_comesTo 2 = .ok (.invokevirtual 142, 3) := by decide +kernel
theorem dX4_comesTo_5 : decode cX4_comesTo 5 = .ok (.aload_n 0, 1) := by decide +kernel
theorem dX4_comesTo_6 : decode cX4_comesTo 6 = .ok (.getfield 16, 3) := by decide +kernel
theorem dX4_comesTo_9 : decode cX4_comesTo 9 = .ok (.iload_n 1, 1) := by decide +kernel
theorem dX4_comesTo_10 : decode cX4_comesTo 10 = .ok (.invokevirtual 55, 3) := by decide +kernel
theorem dX4_comesTo_13 : decode cX4_comesTo 13 = .ok (.checkcast 101, 3) := by decide +kernel
theorem dX4_comesTo_16 : decode cX4_comesTo 16 = .ok (.astore_n 2, 1) := by decide +kernel
theorem dX4_comesTo_17 : decode cX4_comesTo 17 = .ok (.aload_n 2, 1) := by decide +kernel
theorem dX4_comesTo_18 : decode cX4_comesTo 18 = .ok (.getfield 145, 3) := by decide +kernel
theorem dX4_comesTo_21 : decode cX4_comesTo 21 = .ok (.iconst 3, 1) := by decide +kernel
theorem dX4_comesTo_22 : decode cX4_comesTo 22 = .ok (.if_icmp .ne 18, 3) := by decide +kernel
theorem dX4_comesTo_25 : decode cX4_comesTo 25 = .ok (.bipush 100, 2) := by decide +kernel
theorem dX4_comesTo_27 : decode cX4_comesTo 27 = .ok (.aload_n 2, 1) := by decide +kernel
theorem dX4_comesTo_28 : decode cX4_comesTo 28 = .ok (.getfield 154, 3) := by decide +kernel
theorem dX4_comesTo_31 : decode cX4_comesTo 31 = .ok (.imul, 1) := by decide +kernel
theorem dX4_comesTo_32 : decode cX4_comesTo 32 = .ok (.aload_n 2, 1) := by decide +kernel
theorem dX4_comesTo_33 : decode cX4_comesTo 33 = .ok (.getfield 157, 3) := by decide +kernel
theorem dX4_comesTo_36 : decode cX4_comesTo 36 = .ok (.iadd, 1) := by decide +kernel
theorem dX4_comesTo_37 : decode cX4_comesTo 37 = .ok (.goto 4, 3) := by decide +kernel
theorem dX4_comesTo_40 : decode cX4_comesTo 40 = .ok (.iconst (-1), 1) := by decide +kernel
theorem dX4_comesTo_41 : decode cX4_comesTo 41 = .ok (.ireturn, 1) := by decide +kernel
set_option maxRecDepth 20000 in
theorem ggX4_sentOn_X4_needLetter : GoodIn wsX4_sentOn wsX4_needLetter := goodIn_ca (goodIn_r _ [8, 9, 10, 1, 11, 12, 13, 14, 15, 16, 34, 35, 36, 37, 38, 39, 50, 51, 52] (by decide +kernel) (by decide +kernel)) (goodIn_sub (fun _ h => List.mem_cons_of_mem _ (List.mem_append_right _ h)) (by decide +kernel))
set_option maxRecDepth 20000 in
theorem gX4_sentOn_X4_needLetter : GoodIn wsX4_sentOn (wsV RX4 142 RX4 yX4_needLetter wsX4_needLetter) := goodIn_app (goodIn_of _ (by decide +kernel)) ggX4_sentOn_X4_needLetter
set_option maxRecDepth 20000 in
theorem ggX4_sentOn_Jx4a65c_get_915e3 : GoodIn wsX4_sentOn wsJx4a65c_get_915e3 := goodIn_r _ [20, 16, 21, 22, 23, 24, 25, 26, 27, 28, 29, 30, 31, 14, 32, 33, 50, 51, 52] (by decide +kernel) (by decide +kernel)
set_option maxRecDepth 20000 in
theorem gX4_sentOn_Jx4a65c_get_915e3 : GoodIn wsX4_sentOn (wsV RX4 55 RJx4a65c yJx4a65c_get_915e3 wsJx4a65c_get_915e3) := goodIn_app (goodIn_of _ (by decide +kernel)) ggX4_sentOn_Jx4a65c_get_915e3
theorem dX4_sentOn_0 : decode cX4_sentOn 0 = .ok (.aload_n 0, 1) := by decide +kernel
theorem dX4_sentOn_1 : decode cX4_sentOn 1 = .ok (.iload_n 1, 1) := by decide +kernel
theorem dX4_sentOn_2 : decode cX4_sentOn 2 = .ok (.invokevirtual 142, 3) := by decide +kernel
theorem dX4_sentOn_5 : decode cX4_sentOn 5 = .ok (.aload_n 0, 1) := by decide +kernel
theorem dX4_sentOn_6 : decode cX4_sentOn 6 = .ok (.getfield 16, 3) := by decide +kernel
theorem dX4_sentOn_9 : decode cX4_sentOn 9 = .ok (.iload_n 1, 1) := by decide +kernel
theorem dX4_sentOn_10 : decode cX4_sentOn 10 = .ok (.invokevirtual 55, 3) := by decide +kernel
theorem dX4_sentOn_13 : decode cX4_sentOn 13 = .ok (.checkcast 101, 3) := by decide +kernel
theorem dX4_sentOn_16 : decode cX4_sentOn 16 = .ok (.getfield 160, 3) := by decide +kernel
theorem dX4_sentOn_19 : decode cX4_sentOn 19 = .ok (.ireturn, 1) := by decide +kernel
set_option maxRecDepth 20000 in
theorem ggX4_overtaken_X4_needLetter : GoodIn wsX4_overtaken wsX4_needLetter := goodIn_ca (goodIn_r _ [9, 10, 11, 1, 12, 13, 14, 15, 16, 17, 46, 47, 48, 49, 50, 51, 62, 63, 64] (by decide +kernel) (by decide +kernel)) (goodIn_sub (fun _ h => List.mem_cons_of_mem _ (List.mem_append_right _ h)) (by decide +kernel))
set_option maxRecDepth 20000 in
theorem gX4_overtaken_X4_needLetter : GoodIn wsX4_overtaken (wsV RX4 142 RX4 yX4_needLetter wsX4_needLetter) := goodIn_app (goodIn_of _ (by decide +kernel)) ggX4_overtaken_X4_needLetter
set_option maxRecDepth 20000 in
theorem ggX4_overtaken_Jx4a65c_get_915e3 : GoodIn wsX4_overtaken wsJx4a65c_get_915e3 := goodIn_r _ [21, 17, 22, 23, 24, 25, 26, 27, 28, 29, 30, 31, 32, 15, 33, 34, 62, 63, 64] (by decide +kernel) (by decide +kernel)
set_option maxRecDepth 20000 in
theorem gX4_overtaken_Jx4a65c_get_915e3 : GoodIn wsX4_overtaken (wsV RX4 55 RJx4a65c yJx4a65c_get_915e3 wsJx4a65c_get_915e3) := goodIn_app (goodIn_of _ (by decide +kernel)) ggX4_overtaken_Jx4a65c_get_915e3
set_option maxRecDepth 20000 in
theorem ggX4_overtaken_X3_countOvertakenBy : GoodIn wsX4_overtaken wsX3_countOvertakenBy := goodIn_r _ [39, 40, 41, 42, 43, 44, 13, 14, 15, 16, 17, 45, 19, 20, 21, 22, 23, 24, 25, 26, 27, 28, 29, 30, 31, 32, 33, 34, 65, 66, 67, 52, 53, 54, 55, 56, 57, 58, 59, 60, 61, 62, 63, 64] (by decide +kernel) (by decide +kernel)
set_option maxRecDepth 20000 in
theorem gX4_overtaken_X3_countOvertakenBy : GoodIn wsX4_overtaken (wsV RX4 167 RX3 yX3_countOvertakenBy wsX3_countOvertakenBy) := goodIn_app (goodIn_of _ (by decide +kernel)) ggX4_overtaken_X3_countOvertakenBy
theorem dX4_overtaken_0 : decode cX4_overtaken 0 = .ok (.aload_n 0, 1) := by decide +kernel
theorem dX4_overtaken_1 : decode cX4_overtaken 1 = .ok (.iload_n 1, 1) := by decide +kernel
theorem dX4_overtaken_2 : decode cX4_overtaken 2 = .ok (.invokevirtual 142, 3) := by decide +kernel
theorem dX4_overtaken_5 : decode cX4_overtaken 5 = .ok (.aload_n 0, 1) := by decide +kernel
theorem dX4_overtaken_6 : decode cX4_overtaken 6 = .ok (.getfield 16, 3) := by decide +kernel
theorem dX4_overtaken_9 : decode cX4_overtaken 9 = .ok (.iload_n 1, 1) := by decide +kernel
theorem dX4_overtaken_10 : decode cX4_overtaken 10 = .ok (.invokevirtual 55, 3) := by decide +kernel
theorem dX4_overtaken_13 : decode cX4_overtaken 13 = .ok (.checkcast 101, 3) := by decide +kernel
theorem dX4_overtaken_16 : decode cX4_overtaken 16 = .ok (.astore_n 2, 1) := by decide +kernel
theorem dX4_overtaken_17 : decode cX4_overtaken 17 = .ok (.aload_n 2, 1) := by decide +kernel
theorem dX4_overtaken_18 : decode cX4_overtaken 18 = .ok (.getfield 145, 3) := by decide +kernel
theorem dX4_overtaken_21 : decode cX4_overtaken 21 = .ok (.iconst 1, 1) := by decide +kernel
theorem dX4_overtaken_22 : decode cX4_overtaken 22 = .ok (.if_icmp .ne 14, 3) := by decide +kernel
theorem dX4_overtaken_25 : decode cX4_overtaken 25 = .ok (.aload_n 2, 1) := by decide +kernel
theorem dX4_overtaken_26 : decode cX4_overtaken 26 = .ok (.getfield 163, 3) := by decide +kernel
theorem dX4_overtaken_29 : decode cX4_overtaken 29 = .ok (.aload_n 2, 1) := by decide +kernel
theorem dX4_overtaken_30 : decode cX4_overtaken 30 = .ok (.invokevirtual 167, 3) := by decide +kernel
theorem dX4_overtaken_33 : decode cX4_overtaken 33 = .ok (.goto 4, 3) := by decide +kernel
theorem dX4_overtaken_36 : decode cX4_overtaken 36 = .ok (.iconst 0, 1) := by decide +kernel
theorem dX4_overtaken_37 : decode cX4_overtaken 37 = .ok (.ireturn, 1) := by decide +kernel
set_option maxRecDepth 20000 in
theorem ggX4_lying_X4_needPort : GoodIn wsX4_lying wsX4_needPort := goodIn_ca (goodIn_r _ [7, 8, 9] (by decide +kernel) (by decide +kernel)) (goodIn_sub (fun _ h => List.mem_cons_of_mem _ (List.mem_append_right _ h)) (by decide +kernel))
set_option maxRecDepth 20000 in
theorem gX4_lying_X4_needPort : GoodIn wsX4_lying (va_wsS RX4 48 yX4_needPort wsX4_needPort) := goodIn_app (goodIn_of _ (by decide +kernel)) ggX4_lying_X4_needPort
set_option maxRecDepth 20000 in
theorem ggX4_lying_Jx4a65c_size_8abf5 : GoodIn wsX4_lying wsJx4a65c_size_8abf5 := goodIn_r _ [14, 15, 55, 56, 57] (by decide +kernel) (by decide +kernel)
set_option maxRecDepth 20000 in
theorem gX4_lying_Jx4a65c_size_8abf5 : GoodIn wsX4_lying (wsV RX4 26 RJx4a65c yJx4a65c_size_8abf5 wsJx4a65c_size_8abf5) := goodIn_app (goodIn_of _ (by decide +kernel)) ggX4_lying_Jx4a65c_size_8abf5
set_option maxRecDepth 20000 in
theorem ggX4_lying_Jx4a65c_get_915e3 : GoodIn wsX4_lying wsJx4a65c_get_915e3 := goodIn_r _ [19, 15, 20, 21, 22, 23, 24, 25, 26, 27, 28, 29, 30, 13, 31, 32, 55, 56, 57] (by decide +kernel) (by decide +kernel)
set_option maxRecDepth 20000 in
theorem gX4_lying_Jx4a65c_get_915e3 : GoodIn wsX4_lying (wsV RX4 55 RJx4a65c yJx4a65c_get_915e3 wsJx4a65c_get_915e3) := goodIn_app (goodIn_of _ (by decide +kernel)) ggX4_lying_Jx4a65c_get_915e3
set_option maxRecDepth 20000 in
theorem ggX4_lying_X1_isLying : GoodIn wsX4_lying wsX1_isLying := goodIn_r _ [37, 38, 45, 46, 47, 48, 49, 50, 51, 52, 53, 54] (by decide +kernel) (by decide +kernel)
set_option maxRecDepth 20000 in
theorem gX4_lying_X1_isLying : GoodIn wsX4_lying (wsV RX4 171 RX1 yX1_isLying wsX1_isLying) := goodIn_app (goodIn_of _ (by decide +kernel)) ggX4_lying_X1_isLying
theorem dX4_lying_0 : decode cX4_lying 0 = .ok (.iload_n 1, 1) := by decide +kernel
theorem dX4_lying_1 : decode cX4_lying 1 = .ok (.invokestatic 48, 3) := by decide +kernel
theorem dX4_lying_4 : decode cX4_lying 4 = .ok (.iconst 0, 1) := by decide +kernel
theorem dX4_lying_5 : decode cX4_lying 5 = .ok (.istore_n 2, 1) := by decide +kernel
theorem dX4_lying_6 : decode cX4_lying 6 = .ok (.iconst 0, 1) := by decide +kernel
theorem dX4_lying_7 : decode cX4_lying 7 = .ok (.istore_n 3, 1) := by decide +kernel
theorem dX4_lying_8 : decode cX4_lying 8 = .ok (.iload_n 3, 1) := by decide +kernel
theorem dX4_lying_9 : decode cX4_lying 9 = .ok (.aload_n 0, 1) := by decide +kernel
theorem dX4_lying_10 : decode cX4_lying 10 = .ok (.getfield 16, 3) := by decide +kernel
theorem dX4_lying_13 : decode cX4_lying 13 = .ok (.invokevirtual 26, 3) := by decide +kernel
theorem dX4_lying_16 : decode cX4_lying 16 = .ok (.if_icmp .ge 42, 3) := by decide +kernel
theorem dX4_lying_19 : decode cX4_lying 19 = .ok (.aload_n 0, 1) := by decide +kernel
theorem dX4_lying_20 : decode cX4_lying 20 = .ok (.getfield 16, 3) := by decide +kernel
theorem dX4_lying_23 : decode cX4_lying 23 = .ok (.iload_n 3, 1) := by decide +kernel
theorem dX4_lying_24 : decode cX4_lying 24 = .ok (.invokevirtual 55, 3) := by decide +kernel
theorem dX4_lying_27 : decode cX4_lying 27 = .ok (.checkcast 101, 3) := by decide +kernel
theorem dX4_lying_30 : decode cX4_lying 30 = .ok (.astore 4, 2) := by decide +kernel
theorem dX4_lying_32 : decode cX4_lying 32 = .ok (.aload 4, 2) := by decide +kernel
theorem dX4_lying_34 : decode cX4_lying 34 = .ok (.invokevirtual 171, 3) := by decide +kernel
theorem dX4_lying_37 : decode cX4_lying 37 = .ok (.ifCond .eq 15, 3) := by decide +kernel
theorem dX4_lying_40 : decode cX4_lying 40 = .ok (.aload 4, 2) := by decide +kernel
theorem dX4_lying_42 : decode cX4_lying 42 = .ok (.getfield 157, 3) := by decide +kernel
theorem dX4_lying_45 : decode cX4_lying 45 = .ok (.iload_n 1, 1) := by decide +kernel
theorem dX4_lying_46 : decode cX4_lying 46 = .ok (.if_icmp .ne 6, 3) := by decide +kernel
theorem dX4_lying_49 : decode cX4_lying 49 = .ok (.iinc 2 1, 3) := by decide +kernel
theorem dX4_lying_52 : decode cX4_lying 52 = .ok (.iinc 3 1, 3) := by decide +kernel
theorem dX4_lying_55 : decode cX4_lying 55 = .ok (.goto (-47), 3) := by decide +kernel
theorem dX4_lying_58 : decode cX4_lying 58 = .ok (.iload_n 2, 1) := by decide +kernel
theorem dX4_lying_59 : decode cX4_lying 59 = .ok (.ireturn, 1) := by decide +kernel
set_option maxRecDepth 20000 in
theorem ggX4_deadAt_Jx4a65c_size_8abf5 : GoodIn wsX4_deadAt wsJx4a65c_size_8abf5 := goodIn_r _ [10, 11, 45, 46, 47] (by decide +kernel) (by decide +kernel)
set_option maxRecDepth 20000 in
theorem gX4_deadAt_Jx4a65c_size_8abf5 : GoodIn wsX4_deadAt (wsV RX4 26 RJx4a65c yJx4a65c_size_8abf5 wsJx4a65c_size_8abf5) := goodIn_app (goodIn_of _ (by decide +kernel)) ggX4_deadAt_Jx4a65c_size_8abf5
set_option maxRecDepth 20000 in
theorem ggX4_deadAt_Jx4a65c_get_915e3 : GoodIn wsX4_deadAt wsJx4a65c_get_915e3 := goodIn_r _ [15, 11, 16, 17, 18, 19, 20, 21, 22, 23, 24, 25, 26, 9, 27, 28, 45, 46, 47] (by decide +kernel) (by decide +kernel)
set_option maxRecDepth 20000 in
theorem gX4_deadAt_Jx4a65c_get_915e3 : GoodIn wsX4_deadAt (wsV RX4 55 RJx4a65c yJx4a65c_get_915e3 wsJx4a65c_get_915e3) := goodIn_app (goodIn_of _ (by decide +kernel)) ggX4_deadAt_Jx4a65c_get_915e3
theorem dX4_deadAt_0 : decode cX4_deadAt 0 = .ok (.iload_n 1, 1) := by decide +kernel
theorem dX4_deadAt_1 : decode cX4_deadAt 1 = .ok (.ifCond .lt 14, 3) := by decide +kernel
theorem dX4_deadAt_4 : decode cX4_deadAt 4 = .ok (.iload_n 1, 1) := by decide +kernel
theorem dX4_deadAt_5 : decode cX4_deadAt 5 = .ok (.aload_n 0, 1) := by decide +kernel
theorem dX4_deadAt_6 : decode cX4_deadAt 6 = .ok (.getfield 19, 3) := by decide +kernel
theorem dX4_deadAt_9 : decode cX4_deadAt 9 = .ok (.invokevirtual 26, 3) := by decide +kernel
theorem dX4_deadAt_12 : decode cX4_deadAt 12 = .ok (.if_icmp .lt 13, 3) := by decide +kernel
theorem dX4_deadAt_15 : decode cX4_deadAt 15 = .ok (.new 175, 3) := by decide +kernel
theorem dX4_deadAt_18 : decode cX4_deadAt 18 = .ok (.dup, 1) := by decide +kernel
theorem dX4_deadAt_19 : decode cX4_deadAt 19 = .ok (.ldc 177, 2) := by decide +kernel
theorem dX4_deadAt_21 : decode cX4_deadAt 21 = .ok (.invokespecial 179, 3) := by decide +kernel
theorem dX4_deadAt_24 : decode cX4_deadAt 24 = .ok (.athrow, 1) := by decide +kernel
theorem dX4_deadAt_25 : decode cX4_deadAt 25 = .ok (.aload_n 0, 1) := by decide +kernel
theorem dX4_deadAt_26 : decode cX4_deadAt 26 = .ok (.getfield 19, 3) := by decide +kernel
theorem dX4_deadAt_29 : decode cX4_deadAt 29 = .ok (.iload_n 1, 1) := by decide +kernel
theorem dX4_deadAt_30 : decode cX4_deadAt 30 = .ok (.invokevirtual 55, 3) := by decide +kernel
theorem dX4_deadAt_33 : decode cX4_deadAt 33 = .ok (.checkcast 101, 3) := by decide +kernel
theorem dX4_deadAt_36 : decode cX4_deadAt 36 = .ok (.getfield 122, 3) := by decide +kernel
theorem dX4_deadAt_39 : decode cX4_deadAt 39 = .ok (.ireturn, 1) := by decide +kernel
set_option maxRecDepth 20000 in
theorem ggX4_deliveredAs_X4_needShip : GoodIn wsX4_deliveredAs wsX4_needShip := goodIn_ca (goodIn_r _ [12, 13, 14, 3, 15, 16, 17, 18, 19, 20, 38, 39, 40, 41, 42, 43, 57, 58, 59] (by decide +kernel) (by decide +kernel)) (goodIn_sub (fun _ h => List.mem_cons_of_mem _ (List.mem_append_right _ h)) (by decide +kernel))
set_option maxRecDepth 20000 in
theorem gX4_deliveredAs_X4_needShip : GoodIn wsX4_deliveredAs (wsV RX4 44 RX4 yX4_needShip wsX4_needShip) := goodIn_app (goodIn_of _ (by decide +kernel)) ggX4_deliveredAs_X4_needShip
set_option maxRecDepth 20000 in
theorem ggX4_deliveredAs_Jx4a65c_get_915e3 : GoodIn wsX4_deliveredAs wsJx4a65c_get_915e3 := goodIn_r _ [24, 20, 25, 26, 27, 28, 29, 30, 31, 32, 33, 34, 35, 18, 36, 37, 57, 58, 59] (by decide +kernel) (by decide +kernel)
set_option maxRecDepth 20000 in
theorem gX4_deliveredAs_Jx4a65c_get_915e3 : GoodIn wsX4_deliveredAs (wsV RX4 55 RJx4a65c yJx4a65c_get_915e3 wsJx4a65c_get_915e3) := goodIn_app (goodIn_of _ (by decide +kernel)) ggX4_deliveredAs_Jx4a65c_get_915e3
set_option maxRecDepth 20000 in
theorem ggX4_deliveredAs_Jx4a65c_size_8abf5 : GoodIn wsX4_deliveredAs wsJx4a65c_size_8abf5 := goodIn_r _ [19, 20, 57, 58, 59] (by decide +kernel) (by decide +kernel)
set_option maxRecDepth 20000 in
theorem gX4_deliveredAs_Jx4a65c_size_8abf5 : GoodIn wsX4_deliveredAs (wsV RX4 26 RJx4a65c yJx4a65c_size_8abf5 wsJx4a65c_size_8abf5) := goodIn_app (goodIn_of _ (by decide +kernel)) ggX4_deliveredAs_Jx4a65c_size_8abf5
theorem dX4_deliveredAs_0 : decode cX4_deliveredAs 0 = .ok (.aload_n 0, 1) := by decide +kernel
theorem dX4_deliveredAs_1 : decode cX4_deliveredAs 1 = .ok (.iload_n 1, 1) := by decide +kernel
theorem dX4_deliveredAs_2 : decode cX4_deliveredAs 2 = .ok (.invokevirtual 44, 3) := by decide +kernel
theorem dX4_deliveredAs_5 : decode cX4_deliveredAs 5 = .ok (.iload_n 2, 1) := by decide +kernel
theorem dX4_deliveredAs_6 : decode cX4_deliveredAs 6 = .ok (.ifCond .ge 13, 3) := by decide +kernel
theorem dX4_deliveredAs_9 : decode cX4_deliveredAs 9 = .ok (.new 180, 3) := by decide +kernel
theorem dX4_deliveredAs_12 : decode cX4_deliveredAs 12 = .ok (.dup, 1) := by decide +kernel
theorem dX4_deliveredAs_13 : decode cX4_deliveredAs 13 = .ok (.ldc 182, 2) := by decide +kernel
theorem dX4_deliveredAs_15 : decode cX4_deliveredAs 15 = .ok (.invokespecial 184, 3) := by decide +kernel
theorem dX4_deliveredAs_18 : decode cX4_deliveredAs 18 = .ok (.athrow, 1) := by decide +kernel
theorem dX4_deliveredAs_19 : decode cX4_deliveredAs 19 = .ok (.aload_n 0, 1) := by decide +kernel
theorem dX4_deliveredAs_20 : decode cX4_deliveredAs 20 = .ok (.getfield 10, 3) := by decide +kernel
theorem dX4_deliveredAs_23 : decode cX4_deliveredAs 23 = .ok (.iload_n 1, 1) := by decide +kernel
theorem dX4_deliveredAs_24 : decode cX4_deliveredAs 24 = .ok (.invokevirtual 55, 3) := by decide +kernel
theorem dX4_deliveredAs_27 : decode cX4_deliveredAs 27 = .ok (.checkcast 37, 3) := by decide +kernel
theorem dX4_deliveredAs_30 : decode cX4_deliveredAs 30 = .ok (.getfield 185, 3) := by decide +kernel
theorem dX4_deliveredAs_33 : decode cX4_deliveredAs 33 = .ok (.astore_n 3, 1) := by decide +kernel
theorem dX4_deliveredAs_34 : decode cX4_deliveredAs 34 = .ok (.iload_n 2, 1) := by decide +kernel
theorem dX4_deliveredAs_35 : decode cX4_deliveredAs 35 = .ok (.aload_n 3, 1) := by decide +kernel
theorem dX4_deliveredAs_36 : decode cX4_deliveredAs 36 = .ok (.invokevirtual 26, 3) := by decide +kernel
theorem dX4_deliveredAs_39 : decode cX4_deliveredAs 39 = .ok (.if_icmp .ge 17, 3) := by decide +kernel
theorem dX4_deliveredAs_42 : decode cX4_deliveredAs 42 = .ok (.aload_n 3, 1) := by decide +kernel
theorem dX4_deliveredAs_43 : decode cX4_deliveredAs 43 = .ok (.iload_n 2, 1) := by decide +kernel
theorem dX4_deliveredAs_44 : decode cX4_deliveredAs 44 = .ok (.invokevirtual 55, 3) := by decide +kernel
theorem dX4_deliveredAs_47 : decode cX4_deliveredAs 47 = .ok (.checkcast 101, 3) := by decide +kernel
theorem dX4_deliveredAs_50 : decode cX4_deliveredAs 50 = .ok (.getfield 122, 3) := by decide +kernel
theorem dX4_deliveredAs_53 : decode cX4_deliveredAs 53 = .ok (.goto 4, 3) := by decide +kernel
theorem dX4_deliveredAs_56 : decode cX4_deliveredAs 56 = .ok (.iconst (-1), 1) := by decide +kernel
theorem dX4_deliveredAs_57 : decode cX4_deliveredAs 57 = .ok (.ireturn, 1) := by decide +kernel
set_option maxRecDepth 20000 in
theorem ggX4_marks_X4_needLetter : GoodIn wsX4_marks wsX4_needLetter := goodIn_ca (goodIn_r _ [9, 10, 11, 1, 12, 13, 14, 15, 16, 17, 35, 36, 37, 38, 39, 40, 53, 54, 55] (by decide +kernel) (by decide +kernel)) (goodIn_sub (fun _ h => List.mem_cons_of_mem _ (List.mem_append_right _ h)) (by decide +kernel))
set_option maxRecDepth 20000 in
theorem gX4_marks_X4_needLetter : GoodIn wsX4_marks (wsV RX4 142 RX4 yX4_needLetter wsX4_needLetter) := goodIn_app (goodIn_of _ (by decide +kernel)) ggX4_marks_X4_needLetter
set_option maxRecDepth 20000 in
theorem ggX4_marks_Jx4a65c_get_915e3 : GoodIn wsX4_marks wsJx4a65c_get_915e3 := goodIn_r _ [21, 17, 22, 23, 24, 25, 26, 27, 28, 29, 30, 31, 32, 15, 33, 34, 53, 54, 55] (by decide +kernel) (by decide +kernel)
set_option maxRecDepth 20000 in
theorem gX4_marks_Jx4a65c_get_915e3 : GoodIn wsX4_marks (wsV RX4 55 RJx4a65c yJx4a65c_get_915e3 wsJx4a65c_get_915e3) := goodIn_app (goodIn_of _ (by decide +kernel)) ggX4_marks_Jx4a65c_get_915e3
theorem dX4_marks_0 : decode cX4_marks 0 = .ok (.aload_n 0, 1) := by decide +kernel
theorem dX4_marks_1 : decode cX4_marks 1 = .ok (.iload_n 1, 1) := by decide +kernel
theorem dX4_marks_2 : decode cX4_marks 2 = .ok (.invokevirtual 142, 3) := by decide +kernel
theorem dX4_marks_5 : decode cX4_marks 5 = .ok (.aload_n 0, 1) := by decide +kernel
theorem dX4_marks_6 : decode cX4_marks 6 = .ok (.getfield 16, 3) := by decide +kernel
theorem dX4_marks_9 : decode cX4_marks 9 = .ok (.iload_n 1, 1) := by decide +kernel
theorem dX4_marks_10 : decode cX4_marks 10 = .ok (.invokevirtual 55, 3) := by decide +kernel
theorem dX4_marks_13 : decode cX4_marks 13 = .ok (.checkcast 101, 3) := by decide +kernel
theorem dX4_marks_16 : decode cX4_marks 16 = .ok (.getfield 106, 3) := by decide +kernel
theorem dX4_marks_19 : decode cX4_marks 19 = .ok (.getfield 188, 3) := by decide +kernel
theorem dX4_marks_22 : decode cX4_marks 22 = .ok (.ireturn, 1) := by decide +kernel
set_option maxRecDepth 20000 in
theorem ggX4_markAt_X4_needLetter : GoodIn wsX4_markAt wsX4_needLetter := goodIn_ca (goodIn_r _ [12, 1, 2, 3, 13, 14, 15, 16, 17, 18, 36, 37, 38, 39, 40, 41, 54, 55, 56] (by decide +kernel) (by decide +kernel)) (goodIn_sub (fun _ h => List.mem_cons_of_mem _ (List.mem_append_right _ h)) (by decide +kernel))
set_option maxRecDepth 20000 in
theorem gX4_markAt_X4_needLetter : GoodIn wsX4_markAt (wsV RX4 142 RX4 yX4_needLetter wsX4_needLetter) := goodIn_app (goodIn_of _ (by decide +kernel)) ggX4_markAt_X4_needLetter
set_option maxRecDepth 20000 in
theorem ggX4_markAt_Jx4a65c_get_915e3 : GoodIn wsX4_markAt wsJx4a65c_get_915e3 := goodIn_r _ [22, 18, 23, 24, 25, 26, 27, 28, 29, 30, 31, 32, 33, 16, 34, 35, 54, 55, 56] (by decide +kernel) (by decide +kernel)
set_option maxRecDepth 20000 in
theorem gX4_markAt_Jx4a65c_get_915e3 : GoodIn wsX4_markAt (wsV RX4 55 RJx4a65c yJx4a65c_get_915e3 wsJx4a65c_get_915e3) := goodIn_app (goodIn_of _ (by decide +kernel)) ggX4_markAt_Jx4a65c_get_915e3
theorem dX4_markAt_0 : decode cX4_markAt 0 = .ok (.aload_n 0, 1) := by decide +kernel
theorem dX4_markAt_1 : decode cX4_markAt 1 = .ok (.iload_n 1, 1) := by decide +kernel
theorem dX4_markAt_2 : decode cX4_markAt 2 = .ok (.invokevirtual 142, 3) := by decide +kernel
theorem dX4_markAt_5 : decode cX4_markAt 5 = .ok (.aload_n 0, 1) := by decide +kernel
theorem dX4_markAt_6 : decode cX4_markAt 6 = .ok (.getfield 16, 3) := by decide +kernel
theorem dX4_markAt_9 : decode cX4_markAt 9 = .ok (.iload_n 1, 1) := by decide +kernel
theorem dX4_markAt_10 : decode cX4_markAt 10 = .ok (.invokevirtual 55, 3) := by decide +kernel
theorem dX4_markAt_13 : decode cX4_markAt 13 = .ok (.checkcast 101, 3) := by decide +kernel
theorem dX4_markAt_16 : decode cX4_markAt 16 = .ok (.getfield 106, 3) := by decide +kernel
theorem dX4_markAt_19 : decode cX4_markAt 19 = .ok (.astore_n 3, 1) := by decide +kernel
theorem dX4_markAt_20 : decode cX4_markAt 20 = .ok (.iload_n 2, 1) := by decide +kernel
theorem dX4_markAt_21 : decode cX4_markAt 21 = .ok (.ifCond .lt 11, 3) := by decide +kernel
theorem dX4_markAt_24 : decode cX4_markAt 24 = .ok (.iload_n 2, 1) := by decide +kernel
theorem dX4_markAt_25 : decode cX4_markAt 25 = .ok (.aload_n 3, 1) := by decide +kernel
theorem dX4_markAt_26 : decode cX4_markAt 26 = .ok (.getfield 188, 3) := by decide +kernel
theorem dX4_markAt_29 : decode cX4_markAt 29 = .ok (.if_icmp .lt 13, 3) := by decide +kernel
theorem dX4_markAt_32 : decode cX4_markAt 32 = .ok (.new 175, 3) := by decide +kernel
theorem dX4_markAt_35 : decode cX4_markAt 35 = .ok (.dup, 1) := by decide +kernel
theorem dX4_markAt_36 : decode cX4_markAt 36 = .ok (.ldc 191, 2) := by decide +kernel
theorem dX4_markAt_38 : decode cX4_markAt 38 = .ok (.invokespecial 179, 3) := by decide +kernel
theorem dX4_markAt_41 : decode cX4_markAt 41 = .ok (.athrow, 1) := by decide +kernel
theorem dX4_markAt_42 : decode cX4_markAt 42 = .ok (.aload_n 3, 1) := by decide +kernel
theorem dX4_markAt_43 : decode cX4_markAt 43 = .ok (.getfield 193, 3) := by decide +kernel
theorem dX4_markAt_46 : decode cX4_markAt 46 = .ok (.iload_n 2, 1) := by decide +kernel
theorem dX4_markAt_47 : decode cX4_markAt 47 = .ok (.caload, 1) := by decide +kernel
theorem dX4_markAt_48 : decode cX4_markAt 48 = .ok (.ireturn, 1) := by decide +kernel
set_option maxRecDepth 20000 in
theorem ggX4_written_X4_needLetter : GoodIn wsX4_written wsX4_needLetter := goodIn_ca (goodIn_r _ [11, 1, 2, 3, 12, 13, 14, 15, 16, 17, 46, 47, 48, 49, 50, 51, 64, 65, 66] (by decide +kernel) (by decide +kernel)) (goodIn_sub (fun _ h => List.mem_cons_of_mem _ (List.mem_append_right _ h)) (by decide +kernel))
set_option maxRecDepth 20000 in
theorem gX4_written_X4_needLetter : GoodIn wsX4_written (wsV RX4 142 RX4 yX4_needLetter wsX4_needLetter) := goodIn_app (goodIn_of _ (by decide +kernel)) ggX4_written_X4_needLetter
set_option maxRecDepth 20000 in
theorem ggX4_written_Jx4a65c_get_915e3 : GoodIn wsX4_written wsJx4a65c_get_915e3 := goodIn_r _ [21, 17, 22, 23, 24, 25, 26, 27, 28, 29, 30, 31, 32, 15, 33, 34, 64, 65, 66] (by decide +kernel) (by decide +kernel)
set_option maxRecDepth 20000 in
theorem gX4_written_Jx4a65c_get_915e3 : GoodIn wsX4_written (wsV RX4 55 RJx4a65c yJx4a65c_get_915e3 wsJx4a65c_get_915e3) := goodIn_app (goodIn_of _ (by decide +kernel)) ggX4_written_Jx4a65c_get_915e3
set_option maxRecDepth 20000 in
theorem ggX4_written_X0_portIndex : GoodIn wsX4_written wsX0_portIndex := goodIn_r _ [39, 40, 41, 62, 63] (by decide +kernel) (by decide +kernel)
set_option maxRecDepth 20000 in
theorem gX4_written_X0_portIndex : GoodIn wsX4_written (wsV RX4 197 RX0 yX0_portIndex wsX0_portIndex) := goodIn_app (goodIn_of _ (by decide +kernel)) ggX4_written_X0_portIndex
set_option maxRecDepth 20000 in
theorem ggX4_written_X0_standsBehind : GoodIn wsX4_written wsX0_standsBehind := goodIn_r _ [45, 40, 41, 62, 63] (by decide +kernel) (by decide +kernel)
set_option maxRecDepth 20000 in
theorem gX4_written_X0_standsBehind : GoodIn wsX4_written (wsV RX4 202 RX0 yX0_standsBehind wsX0_standsBehind) := goodIn_app (goodIn_of _ (by decide +kernel)) ggX4_written_X0_standsBehind
theorem dX4_written_0 : decode cX4_written 0 = .ok (.aload_n 0, 1) := by decide +kernel
theorem dX4_written_1 : decode cX4_written 1 = .ok (.iload_n 1, 1) := by decide +kernel
theorem dX4_written_2 : decode cX4_written 2 = .ok (.invokevirtual 142, 3) := by decide +kernel
theorem dX4_written_5 : decode cX4_written 5 = .ok (.aload_n 0, 1) := by decide +kernel
theorem dX4_written_6 : decode cX4_written 6 = .ok (.getfield 16, 3) := by decide +kernel
theorem dX4_written_9 : decode cX4_written 9 = .ok (.iload_n 1, 1) := by decide +kernel
theorem dX4_written_10 : decode cX4_written 10 = .ok (.invokevirtual 55, 3) := by decide +kernel
theorem dX4_written_13 : decode cX4_written 13 = .ok (.checkcast 101, 3) := by decide +kernel
theorem dX4_written_16 : decode cX4_written 16 = .ok (.getfield 106, 3) := by decide +kernel
theorem dX4_written_19 : decode cX4_written 19 = .ok (.astore_n 3, 1) := by decide +kernel
theorem dX4_written_20 : decode cX4_written 20 = .ok (.aload_n 3, 1) := by decide +kernel
theorem dX4_written_21 : decode cX4_written 21 = .ok (.iload_n 2, 1) := by decide +kernel
theorem dX4_written_22 : decode cX4_written 22 = .ok (.invokevirtual 197, 3) := by decide +kernel
theorem dX4_written_25 : decode cX4_written 25 = .ok (.istore 4, 2) := by decide +kernel
theorem dX4_written_27 : decode cX4_written 27 = .ok (.iload 4, 2) := by decide +kernel
theorem dX4_written_29 : decode cX4_written 29 = .ok (.iconst (-1), 1) := by decide +kernel
theorem dX4_written_30 : decode cX4_written 30 = .ok (.if_icmp .ne 13, 3) := by decide +kernel
theorem dX4_written_33 : decode cX4_written 33 = .ok (.new 175, 3) := by decide +kernel
theorem dX4_written_36 : decode cX4_written 36 = .ok (.dup, 1) := by decide +kernel
theorem dX4_written_37 : decode cX4_written 37 = .ok (.ldc 200, 2) := by decide +kernel
theorem dX4_written_39 : decode cX4_written 39 = .ok (.invokespecial 179, 3) := by decide +kernel
theorem dX4_written_42 : decode cX4_written 42 = .ok (.athrow, 1) := by decide +kernel
theorem dX4_written_43 : decode cX4_written 43 = .ok (.bipush 10, 2) := by decide +kernel
theorem dX4_written_45 : decode cX4_written 45 = .ok (.aload_n 3, 1) := by decide +kernel
theorem dX4_written_46 : decode cX4_written 46 = .ok (.getfield 193, 3) := by decide +kernel
theorem dX4_written_49 : decode cX4_written 49 = .ok (.iload 4, 2) := by decide +kernel
theorem dX4_written_51 : decode cX4_written 51 = .ok (.caload, 1) := by decide +kernel
theorem dX4_written_52 : decode cX4_written 52 = .ok (.bipush 65, 2) := by decide +kernel
theorem dX4_written_54 : decode cX4_written 54 = .ok (.isub, 1) := by decide +kernel
theorem dX4_written_55 : decode cX4_written 55 = .ok (.imul, 1) := by decide +kernel
theorem dX4_written_56 : decode cX4_written 56 = .ok (.aload_n 3, 1) := by decide +kernel
theorem dX4_written_57 : decode cX4_written 57 = .ok (.iload 4, 2) := by decide +kernel
theorem dX4_written_59 : decode cX4_written 59 = .ok (.bipush 45, 2) := by decide +kernel
theorem dX4_written_61 : decode cX4_written 61 = .ok (.invokevirtual 202, 3) := by decide +kernel
theorem dX4_written_64 : decode cX4_written 64 = .ok (.ifCond .eq 7, 3) := by decide +kernel
theorem dX4_written_67 : decode cX4_written 67 = .ok (.iconst 1, 1) := by decide +kernel
theorem dX4_written_68 : decode cX4_written 68 = .ok (.goto 4, 3) := by decide +kernel
theorem dX4_written_71 : decode cX4_written 71 = .ok (.iconst 0, 1) := by decide +kernel
theorem dX4_written_72 : decode cX4_written 72 = .ok (.iadd, 1) := by decide +kernel
theorem dX4_written_73 : decode cX4_written 73 = .ok (.ireturn, 1) := by decide +kernel
theorem dX4_needPort_0 : decode cX4_needPort 0 = .ok (.iload_n 0, 1) := by decide +kernel
theorem dX4_needPort_1 : decode cX4_needPort 1 = .ok (.ifCond .lt 9, 3) := by decide +kernel
theorem dX4_needPort_4 : decode cX4_needPort 4 = .ok (.iload_n 0, 1) := by decide +kernel
theorem dX4_needPort_5 : decode cX4_needPort 5 = .ok (.bipush 10, 2) := by decide +kernel
theorem dX4_needPort_7 : decode cX4_needPort 7 = .ok (.if_icmp .lt 13, 3) := by decide +kernel
theorem dX4_needPort_10 : decode cX4_needPort 10 = .ok (.new 175, 3) := by decide +kernel
theorem dX4_needPort_13 : decode cX4_needPort 13 = .ok (.dup, 1) := by decide +kernel
theorem dX4_needPort_14 : decode cX4_needPort 14 = .ok (.ldc 206, 2) := by decide +kernel
theorem dX4_needPort_16 : decode cX4_needPort 16 = .ok (.invokespecial 179, 3) := by decide +kernel
theorem dX4_needPort_19 : decode cX4_needPort 19 = .ok (.athrow, 1) := by decide +kernel
theorem dX4_needPort_20 : decode cX4_needPort 20 = .ok (.return_, 1) := by decide +kernel
set_option maxRecDepth 20000 in
theorem ggX4_needShip_Jx4a65c_size_8abf5 : GoodIn wsX4_needShip wsJx4a65c_size_8abf5 := goodIn_r _ [8, 9, 16, 17, 18] (by decide +kernel) (by decide +kernel)
set_option maxRecDepth 20000 in
theorem gX4_needShip_Jx4a65c_size_8abf5 : GoodIn wsX4_needShip (wsV RX4 26 RJx4a65c yJx4a65c_size_8abf5 wsJx4a65c_size_8abf5) := goodIn_app (goodIn_of _ (by decide +kernel)) ggX4_needShip_Jx4a65c_size_8abf5
theorem dX4_needShip_0 : decode cX4_needShip 0 = .ok (.iload_n 1, 1) := by decide +kernel
