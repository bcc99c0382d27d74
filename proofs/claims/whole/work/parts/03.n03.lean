theorem dX4_needShip_1 : decode cX4_needShip 1 = .ok (.ifCond .lt 14, 3) := by decide +kernel
theorem dX4_needShip_4 : decode cX4_needShip 4 = .ok (.iload_n 1, 1) := by decide +kernel
theorem dX4_needShip_5 : decode cX4_needShip 5 = .ok (.aload_n 0, 1) := by decide +kernel
theorem dX4_needShip_6 : decode cX4_needShip 6 = .ok (.getfield 10, 3) := by decide +kernel
theorem dX4_needShip_9 : decode cX4_needShip 9 = .ok (.invokevirtual 26, 3) := by decide +kernel
theorem dX4_needShip_12 : decode cX4_needShip 12 = .ok (.if_icmp .lt 13, 3) := by decide +kernel
theorem dX4_needShip_15 : decode cX4_needShip 15 = .ok (.new 175, 3) := by decide +kernel
theorem dX4_needShip_18 : decode cX4_needShip 18 = .ok (.dup, 1) := by decide +kernel
theorem dX4_needShip_19 : decode cX4_needShip 19 = .ok (.ldc 208, 2) := by decide +kernel
theorem dX4_needShip_21 : decode cX4_needShip 21 = .ok (.invokespecial 179, 3) := by decide +kernel
theorem dX4_needShip_24 : decode cX4_needShip 24 = .ok (.athrow, 1) := by decide +kernel
theorem dX4_needShip_25 : decode cX4_needShip 25 = .ok (.return_, 1) := by decide +kernel
set_option maxRecDepth 20000 in
theorem ggX4_needLetter_Jx4a65c_size_8abf5 : GoodIn wsX4_needLetter wsJx4a65c_size_8abf5 := goodIn_r _ [8, 9, 16, 17, 18] (by decide +kernel) (by decide +kernel)
set_option maxRecDepth 20000 in
theorem gX4_needLetter_Jx4a65c_size_8abf5 : GoodIn wsX4_needLetter (wsV RX4 26 RJx4a65c yJx4a65c_size_8abf5 wsJx4a65c_size_8abf5) := goodIn_app (goodIn_of _ (by decide +kernel)) ggX4_needLetter_Jx4a65c_size_8abf5
theorem dX4_needLetter_0 : decode cX4_needLetter 0 = .ok (.iload_n 1, 1) := by decide +kernel
theorem dX4_needLetter_1 : decode cX4_needLetter 1 = .ok (.ifCond .lt 14, 3) := by decide +kernel
theorem dX4_needLetter_4 : decode cX4_needLetter 4 = .ok (.iload_n 1, 1) := by decide +kernel
theorem dX4_needLetter_5 : decode cX4_needLetter 5 = .ok (.aload_n 0, 1) := by decide +kernel
theorem dX4_needLetter_6 : decode cX4_needLetter 6 = .ok (.getfield 16, 3) := by decide +kernel
theorem dX4_needLetter_9 : decode cX4_needLetter 9 = .ok (.invokevirtual 26, 3) := by decide +kernel
theorem dX4_needLetter_12 : decode cX4_needLetter 12 = .ok (.if_icmp .lt 13, 3) := by decide +kernel
theorem dX4_needLetter_15 : decode cX4_needLetter 15 = .ok (.new 175, 3) := by decide +kernel
theorem dX4_needLetter_18 : decode cX4_needLetter 18 = .ok (.dup, 1) := by decide +kernel
theorem dX4_needLetter_19 : decode cX4_needLetter 19 = .ok (.ldc 210, 2) := by decide +kernel
theorem dX4_needLetter_21 : decode cX4_needLetter 21 = .ok (.invokespecial 179, 3) := by decide +kernel
theorem dX4_needLetter_24 : decode cX4_needLetter 24 = .ok (.athrow, 1) := by decide +kernel
theorem dX4_needLetter_25 : decode cX4_needLetter 25 = .ok (.return_, 1) := by decide +kernel
theorem dX4_needRange_0 : decode cX4_needRange 0 = .ok (.iload_n 0, 1) := by decide +kernel
theorem dX4_needRange_1 : decode cX4_needRange 1 = .ok (.iload_n 1, 1) := by decide +kernel
theorem dX4_needRange_2 : decode cX4_needRange 2 = .ok (.if_icmp .lt 8, 3) := by decide +kernel
theorem dX4_needRange_5 : decode cX4_needRange 5 = .ok (.iload_n 0, 1) := by decide +kernel
theorem dX4_needRange_6 : decode cX4_needRange 6 = .ok (.iload_n 2, 1) := by decide +kernel
theorem dX4_needRange_7 : decode cX4_needRange 7 = .ok (.if_icmp .le 13, 3) := by decide +kernel
theorem dX4_needRange_10 : decode cX4_needRange 10 = .ok (.new 180, 3) := by decide +kernel
theorem dX4_needRange_13 : decode cX4_needRange 13 = .ok (.dup, 1) := by decide +kernel
theorem dX4_needRange_14 : decode cX4_needRange 14 = .ok (.ldc 212, 2) := by decide +kernel
theorem dX4_needRange_16 : decode cX4_needRange 16 = .ok (.invokespecial 184, 3) := by decide +kernel
theorem dX4_needRange_19 : decode cX4_needRange 19 = .ok (.athrow, 1) := by decide +kernel
theorem dX4_needRange_20 : decode cX4_needRange 20 = .ok (.return_, 1) := by decide +kernel
theorem dX4_mailDays_0 : decode cX4_mailDays 0 = .ok (.iload_n 0, 1) := by decide +kernel
theorem dX4_mailDays_1 : decode cX4_mailDays 1 = .ok (.iload_n 1, 1) := by decide +kernel
theorem dX4_mailDays_2 : decode cX4_mailDays 2 = .ok (.isub, 1) := by decide +kernel
theorem dX4_mailDays_3 : decode cX4_mailDays 3 = .ok (.invokestatic 214, 3) := by decide +kernel
theorem dX4_mailDays_6 : decode cX4_mailDays 6 = .ok (.iconst 1, 1) := by decide +kernel
theorem dX4_mailDays_7 : decode cX4_mailDays 7 = .ok (.iadd, 1) := by decide +kernel
theorem dX4_mailDays_8 : decode cX4_mailDays 8 = .ok (.ireturn, 1) := by decide +kernel
theorem dX4_wordDays_0 : decode cX4_wordDays 0 = .ok (.iload_n 0, 1) := by decide +kernel
theorem dX4_wordDays_1 : decode cX4_wordDays 1 = .ok (.iload_n 1, 1) := by decide +kernel
theorem dX4_wordDays_2 : decode cX4_wordDays 2 = .ok (.isub, 1) := by decide +kernel
theorem dX4_wordDays_3 : decode cX4_wordDays 3 = .ok (.invokestatic 214, 3) := by decide +kernel
theorem dX4_wordDays_6 : decode cX4_wordDays 6 = .ok (.iconst 2, 1) := by decide +kernel
theorem dX4_wordDays_7 : decode cX4_wordDays 7 = .ok (.iadd, 1) := by decide +kernel
theorem dX4_wordDays_8 : decode cX4_wordDays 8 = .ok (.iconst 3, 1) := by decide +kernel
theorem dX4_wordDays_9 : decode cX4_wordDays 9 = .ok (.idiv, 1) := by decide +kernel
theorem dX4_wordDays_10 : decode cX4_wordDays 10 = .ok (.ireturn, 1) := by decide +kernel
theorem dX4_isShut_0 : decode cX4_isShut 0 = .ok (.aload_n 0, 1) := by decide +kernel
theorem dX4_isShut_1 : decode cX4_isShut 1 = .ok (.getfield 84, 3) := by decide +kernel
theorem dX4_isShut_4 : decode cX4_isShut 4 = .ok (.aload_n 0, 1) := by decide +kernel
theorem dX4_isShut_5 : decode cX4_isShut 5 = .ok (.getfield 22, 3) := by decide +kernel
theorem dX4_isShut_8 : decode cX4_isShut 8 = .ok (.iload_n 1, 1) := by decide +kernel
theorem dX4_isShut_9 : decode cX4_isShut 9 = .ok (.iaload, 1) := by decide +kernel
theorem dX4_isShut_10 : decode cX4_isShut 10 = .ok (.if_icmp .ge 7, 3) := by decide +kernel
theorem dX4_isShut_13 : decode cX4_isShut 13 = .ok (.iconst 1, 1) := by decide +kernel
theorem dX4_isShut_14 : decode cX4_isShut 14 = .ok (.goto 4, 3) := by decide +kernel
theorem dX4_isShut_17 : decode cX4_isShut 17 = .ok (.iconst 0, 1) := by decide +kernel
theorem dX4_isShut_18 : decode cX4_isShut 18 = .ok (.ireturn, 1) := by decide +kernel
set_option maxRecDepth 20000 in
theorem ggX4_passOneDay_Jx4a65c_size_8abf5 : GoodIn wsX4_passOneDay wsJx4a65c_size_8abf5 := goodIn_r _ [11, 12, 232, 233, 234] (by decide +kernel) (by decide +kernel)
set_option maxRecDepth 20000 in
theorem gX4_passOneDay_Jx4a65c_size_8abf5 : GoodIn wsX4_passOneDay (wsV RX4 26 RJx4a65c yJx4a65c_size_8abf5 wsJx4a65c_size_8abf5) := goodIn_app (goodIn_of _ (by decide +kernel)) ggX4_passOneDay_Jx4a65c_size_8abf5
set_option maxRecDepth 20000 in
theorem ggX4_passOneDay_Jx4a65c_get_915e3 : GoodIn wsX4_passOneDay wsJx4a65c_get_915e3 := goodIn_r _ [16, 12, 17, 18, 19, 20, 21, 22, 23, 24, 25, 26, 27, 10, 28, 29, 232, 233, 234] (by decide +kernel) (by decide +kernel)
set_option maxRecDepth 20000 in
theorem gX4_passOneDay_Jx4a65c_get_915e3 : GoodIn wsX4_passOneDay (wsV RX4 55 RJx4a65c yJx4a65c_get_915e3 wsJx4a65c_get_915e3) := goodIn_app (goodIn_of _ (by decide +kernel)) ggX4_passOneDay_Jx4a65c_get_915e3
set_option maxRecDepth 20000 in
theorem ggX4_passOneDay_X4_isDue : GoodIn wsX4_passOneDay wsX4_isDue := goodIn_r _ [34, 4, 1, 35, 36, 37, 38, 39, 33, 40, 41, 42, 43, 44, 45, 46, 47, 222, 223, 224, 225, 226, 227, 228, 229, 230, 231, 216, 217, 218, 219, 220, 221] (by decide +kernel) (by decide +kernel)
set_option maxRecDepth 20000 in
theorem gX4_passOneDay_X4_isDue : GoodIn wsX4_passOneDay (wsV RX4 217 RX4 yX4_isDue wsX4_isDue) := goodIn_app (goodIn_of _ (by decide +kernel)) ggX4_passOneDay_X4_isDue
set_option maxRecDepth 20000 in
theorem ggX4_passOneDay_X0_writeDay : GoodIn wsX4_passOneDay wsX0_writeDay := goodIn_r _ [52, 53, 54, 55, 51, 56, 57, 58, 235, 236] (by decide +kernel) (by decide +kernel)
set_option maxRecDepth 20000 in
theorem gX4_passOneDay_X0_writeDay : GoodIn wsX4_passOneDay (wsV RX4 115 RX0 yX0_writeDay wsX0_writeDay) := goodIn_app (goodIn_of _ (by decide +kernel)) ggX4_passOneDay_X0_writeDay
set_option maxRecDepth 20000 in
theorem ggX4_passOneDay_X4_bury : GoodIn wsX4_passOneDay wsX4_bury := goodIn_r _ [62, 4, 5, 63, 64, 54, 55, 51, 56, 57, 58, 65, 66, 67, 10, 68, 69, 70, 29, 12, 71, 72, 73, 74, 75, 76, 77, 78, 79, 80, 81, 82, 83, 84, 85, 86, 87, 88, 89, 90, 91, 92, 93, 94, 95, 96, 97, 98, 99, 100, 101, 102, 103, 104, 105, 106, 107, 108, 109, 110, 111, 112, 113, 114, 115, 116, 117, 222, 223, 224, 225, 226, 227, 228, 229, 230, 231, 216, 217, 218, 219, 220, 221, 235, 236, 232, 233, 234] (by decide +kernel) (by decide +kernel)
set_option maxRecDepth 20000 in
theorem gX4_passOneDay_X4_bury : GoodIn wsX4_passOneDay (wsV RX4 224 RX4 yX4_bury wsX4_bury) := goodIn_app (goodIn_of _ (by decide +kernel)) ggX4_passOneDay_X4_bury
set_option maxRecDepth 20000 in
theorem ggX4_passOneDay_X4_handle : GoodIn wsX4_passOneDay wsX4_handle := goodIn_r _ [121, 36, 122, 1, 37, 38, 39, 33, 40, 41, 123, 124, 125, 45, 126, 47, 127, 128, 129, 130, 54, 55, 51, 56, 57, 58, 131, 132, 133, 134, 135, 136, 137, 138, 8, 9, 10, 11, 12, 139, 14, 15, 16, 17, 18, 19, 20, 21, 22, 23, 24, 25, 26, 27, 28, 29, 140, 141, 142, 143, 144, 145, 146, 147, 148, 149, 150, 151, 152, 4, 153, 5, 154, 155, 64, 65, 66, 67, 68, 69, 70, 71, 72, 73, 74, 75, 76, 77, 78, 79, 80, 81, 82, 83, 84, 85, 86, 87, 88, 89, 90, 91, 92, 93, 94, 95, 96, 97, 98, 99, 100, 101, 102, 103, 104, 105, 106, 107, 108, 109, 110, 111, 112, 113, 114, 115, 116, 117, 156, 157, 158, 159, 160, 161, 162, 163, 164, 165, 166, 167, 168, 169, 170, 171, 172, 173, 13, 174, 175, 176, 177, 178, 179, 180, 181, 182, 183, 59, 60, 61, 62, 63, 184, 185, 186, 187, 188, 189, 190, 191, 192, 193, 194, 195, 196, 197, 198, 199, 200, 201, 202, 53, 222, 223, 224, 225, 226, 227, 228, 229, 230, 231, 216, 217, 218, 219, 220, 221, 235, 236, 237, 238, 239, 232, 233, 234, 240, 241, 242, 243, 244, 245] (by decide +kernel) (by decide +kernel)
set_option maxRecDepth 20000 in
theorem gX4_passOneDay_X4_handle : GoodIn wsX4_passOneDay (wsV RX4 118 RX4 yX4_handle wsX4_handle) := goodIn_app (goodIn_of _ (by decide +kernel)) ggX4_passOneDay_X4_handle
set_option maxRecDepth 20000 in
theorem ggX4_passOneDay_X4_openDeadMail : GoodIn wsX4_passOneDay wsX4_openDeadMail := goodIn_r _ [206, 63, 3, 7, 8, 9, 10, 11, 12, 13, 14, 15, 16, 17, 18, 19, 20, 21, 22, 23, 24, 25, 26, 27, 28, 29, 207, 208, 209, 45, 210, 211, 47, 127, 188, 130, 54, 55, 51, 56, 57, 58, 199, 200, 201, 202, 53, 212, 213, 214, 215, 69, 70, 216, 217, 218, 219, 220, 221, 232, 233, 234, 222, 223, 224, 225, 226, 227, 228, 229, 230, 231, 235, 236] (by decide +kernel) (by decide +kernel)
set_option maxRecDepth 20000 in
theorem gX4_passOneDay_X4_openDeadMail : GoodIn wsX4_passOneDay (wsV RX4 227 RX4 yX4_openDeadMail wsX4_openDeadMail) := goodIn_app (goodIn_of _ (by decide +kernel)) ggX4_passOneDay_X4_openDeadMail
theorem dX4_passOneDay_0 : decode cX4_passOneDay 0 = .ok (.aload_n 0, 1) := by decide +kernel
theorem dX4_passOneDay_1 : decode cX4_passOneDay 1 = .ok (.dup, 1) := by decide +kernel
theorem dX4_passOneDay_2 : decode cX4_passOneDay 2 = .ok (.getfield 84, 3) := by decide +kernel
theorem dX4_passOneDay_5 : decode cX4_passOneDay 5 = .ok (.iconst 1, 1) := by decide +kernel
theorem dX4_passOneDay_6 : decode cX4_passOneDay 6 = .ok (.iadd, 1) := by decide +kernel
theorem dX4_passOneDay_7 : decode cX4_passOneDay 7 = .ok (.putfield 84, 3) := by decide +kernel
theorem dX4_passOneDay_10 : decode cX4_passOneDay 10 = .ok (.iconst 0, 1) := by decide +kernel
theorem dX4_passOneDay_11 : decode cX4_passOneDay 11 = .ok (.istore_n 1, 1) := by decide +kernel
theorem dX4_passOneDay_12 : decode cX4_passOneDay 12 = .ok (.iload_n 1, 1) := by decide +kernel
theorem dX4_passOneDay_13 : decode cX4_passOneDay 13 = .ok (.aload_n 0, 1) := by decide +kernel
theorem dX4_passOneDay_14 : decode cX4_passOneDay 14 = .ok (.getfield 16, 3) := by decide +kernel
theorem dX4_passOneDay_17 : decode cX4_passOneDay 17 = .ok (.invokevirtual 26, 3) := by decide +kernel
theorem dX4_passOneDay_20 : decode cX4_passOneDay 20 = .ok (.if_icmp .ge 78, 3) := by decide +kernel
theorem dX4_passOneDay_23 : decode cX4_passOneDay 23 = .ok (.aload_n 0, 1) := by decide +kernel
theorem dX4_passOneDay_24 : decode cX4_passOneDay 24 = .ok (.getfield 16, 3) := by decide +kernel
theorem dX4_passOneDay_27 : decode cX4_passOneDay 27 = .ok (.iload_n 1, 1) := by decide +kernel
theorem dX4_passOneDay_28 : decode cX4_passOneDay 28 = .ok (.invokevirtual 55, 3) := by decide +kernel
theorem dX4_passOneDay_31 : decode cX4_passOneDay 31 = .ok (.checkcast 101, 3) := by decide +kernel
theorem dX4_passOneDay_34 : decode cX4_passOneDay 34 = .ok (.astore_n 2, 1) := by decide +kernel
theorem dX4_passOneDay_35 : decode cX4_passOneDay 35 = .ok (.aload_n 0, 1) := by decide +kernel
theorem dX4_passOneDay_36 : decode cX4_passOneDay 36 = .ok (.aload_n 2, 1) := by decide +kernel
theorem dX4_passOneDay_37 : decode cX4_passOneDay 37 = .ok (.invokevirtual 217, 3) := by decide +kernel
theorem dX4_passOneDay_40 : decode cX4_passOneDay 40 = .ok (.ifCond .ne 6, 3) := by decide +kernel
theorem dX4_passOneDay_43 : decode cX4_passOneDay 43 = .ok (.goto 49, 3) := by decide +kernel
theorem dX4_passOneDay_46 : decode cX4_passOneDay 46 = .ok (.aload_n 2, 1) := by decide +kernel
theorem dX4_passOneDay_47 : decode cX4_passOneDay 47 = .ok (.getfield 145, 3) := by decide +kernel
theorem dX4_passOneDay_50 : decode cX4_passOneDay 50 = .ok (.iconst 3, 1) := by decide +kernel
theorem dX4_passOneDay_51 : decode cX4_passOneDay 51 = .ok (.if_icmp .ne 14, 3) := by decide +kernel
theorem dX4_passOneDay_54 : decode cX4_passOneDay 54 = .ok (.aload_n 2, 1) := by decide +kernel
theorem dX4_passOneDay_55 : decode cX4_passOneDay 55 = .ok (.getfield 106, 3) := by decide +kernel
theorem dX4_passOneDay_58 : decode cX4_passOneDay 58 = .ok (.aload_n 0, 1) := by decide +kernel
theorem dX4_passOneDay_59 : decode cX4_passOneDay 59 = .ok (.getfield 84, 3) := by decide +kernel
theorem dX4_passOneDay_62 : decode cX4_passOneDay 62 = .ok (.invokevirtual 115, 3) := by decide +kernel
theorem dX4_passOneDay_65 : decode cX4_passOneDay 65 = .ok (.aload_n 0, 1) := by decide +kernel
theorem dX4_passOneDay_66 : decode cX4_passOneDay 66 = .ok (.getfield 84, 3) := by decide +kernel
theorem dX4_passOneDay_69 : decode cX4_passOneDay 69 = .ok (.aload_n 2, 1) := by decide +kernel
theorem dX4_passOneDay_70 : decode cX4_passOneDay 70 = .ok (.getfield 221, 3) := by decide +kernel
theorem dX4_passOneDay_73 : decode cX4_passOneDay 73 = .ok (.isub, 1) := by decide +kernel
theorem dX4_passOneDay_74 : decode cX4_passOneDay 74 = .ok (.bipush 60, 2) := by decide +kernel
theorem dX4_passOneDay_76 : decode cX4_passOneDay 76 = .ok (.if_icmp .lt 11, 3) := by decide +kernel
theorem dX4_passOneDay_79 : decode cX4_passOneDay 79 = .ok (.aload_n 0, 1) := by decide +kernel
theorem dX4_passOneDay_80 : decode cX4_passOneDay 80 = .ok (.aload_n 2, 1) := by decide +kernel
theorem dX4_passOneDay_81 : decode cX4_passOneDay 81 = .ok (.invokevirtual 224, 3) := by decide +kernel
theorem dX4_passOneDay_84 : decode cX4_passOneDay 84 = .ok (.goto 8, 3) := by decide +kernel
theorem dX4_passOneDay_87 : decode cX4_passOneDay 87 = .ok (.aload_n 0, 1) := by decide +kernel
theorem dX4_passOneDay_88 : decode cX4_passOneDay 88 = .ok (.aload_n 2, 1) := by decide +kernel
theorem dX4_passOneDay_89 : decode cX4_passOneDay 89 = .ok (.invokevirtual 118, 3) := by decide +kernel
theorem dX4_passOneDay_92 : decode cX4_passOneDay 92 = .ok (.iinc 1 1, 3) := by decide +kernel
theorem dX4_passOneDay_95 : decode cX4_passOneDay 95 = .ok (.goto (-83), 3) := by decide +kernel
theorem dX4_passOneDay_98 : decode cX4_passOneDay 98 = .ok (.aload_n 0, 1) := by decide +kernel
theorem dX4_passOneDay_99 : decode cX4_passOneDay 99 = .ok (.getfield 84, 3) := by decide +kernel
theorem dX4_passOneDay_102 : decode cX4_passOneDay 102 = .ok (.bipush 10, 2) := by decide +kernel
theorem dX4_passOneDay_104 : decode cX4_passOneDay 104 = .ok (.irem, 1) := by decide +kernel
theorem dX4_passOneDay_105 : decode cX4_passOneDay 105 = .ok (.ifCond .ne 7, 3) := by decide +kernel
theorem dX4_passOneDay_108 : decode cX4_passOneDay 108 = .ok (.aload_n 0, 1) := by decide +kernel
theorem dX4_passOneDay_109 : decode cX4_passOneDay 109 = .ok (.invokevirtual 227, 3) := by decide +kernel
theorem dX4_passOneDay_112 : decode cX4_passOneDay 112 = .ok (.return_, 1) := by decide +kernel
set_option maxRecDepth 20000 in
theorem ggX4_isDue_X4_isShut : GoodIn wsX4_isDue wsX4_isShut := goodIn_r _ [9, 2, 10, 27, 28, 29, 30, 31, 32] (by decide +kernel) (by decide +kernel)
set_option maxRecDepth 20000 in
theorem gX4_isDue_X4_isShut : GoodIn wsX4_isDue (wsV RX4 130 RX4 yX4_isShut wsX4_isShut) := goodIn_app (goodIn_of _ (by decide +kernel)) ggX4_isDue_X4_isShut
set_option maxRecDepth 20000 in
theorem ggX4_isDue_X1_isLying : GoodIn wsX4_isDue wsX1_isLying := goodIn_r _ [15, 16, 17, 18, 19, 20, 21, 22, 23, 24, 25, 26] (by decide +kernel) (by decide +kernel)
set_option maxRecDepth 20000 in
theorem gX4_isDue_X1_isLying : GoodIn wsX4_isDue (wsV RX4 171 RX1 yX1_isLying wsX1_isLying) := goodIn_app (goodIn_of _ (by decide +kernel)) ggX4_isDue_X1_isLying
theorem dX4_isDue_0 : decode cX4_isDue 0 = .ok (.aload_n 1, 1) := by decide +kernel
theorem dX4_isDue_1 : decode cX4_isDue 1 = .ok (.getfield 145, 3) := by decide +kernel
theorem dX4_isDue_4 : decode cX4_isDue 4 = .ok (.iconst 3, 1) := by decide +kernel
theorem dX4_isDue_5 : decode cX4_isDue 5 = .ok (.if_icmp .ne 31, 3) := by decide +kernel
theorem dX4_isDue_8 : decode cX4_isDue 8 = .ok (.aload_n 0, 1) := by decide +kernel
theorem dX4_isDue_9 : decode cX4_isDue 9 = .ok (.getfield 84, 3) := by decide +kernel
theorem dX4_isDue_12 : decode cX4_isDue 12 = .ok (.aload_n 1, 1) := by decide +kernel
theorem dX4_isDue_13 : decode cX4_isDue 13 = .ok (.getfield 154, 3) := by decide +kernel
theorem dX4_isDue_16 : decode cX4_isDue 16 = .ok (.if_icmp .lt 18, 3) := by decide +kernel
theorem dX4_isDue_19 : decode cX4_isDue 19 = .ok (.aload_n 0, 1) := by decide +kernel
theorem dX4_isDue_20 : decode cX4_isDue 20 = .ok (.aload_n 1, 1) := by decide +kernel
theorem dX4_isDue_21 : decode cX4_isDue 21 = .ok (.getfield 157, 3) := by decide +kernel
theorem dX4_isDue_24 : decode cX4_isDue 24 = .ok (.invokevirtual 130, 3) := by decide +kernel
theorem dX4_isDue_27 : decode cX4_isDue 27 = .ok (.ifCond .ne 7, 3) := by decide +kernel
theorem dX4_isDue_30 : decode cX4_isDue 30 = .ok (.iconst 1, 1) := by decide +kernel
theorem dX4_isDue_31 : decode cX4_isDue 31 = .ok (.goto 4, 3) := by decide +kernel
theorem dX4_isDue_34 : decode cX4_isDue 34 = .ok (.iconst 0, 1) := by decide +kernel
theorem dX4_isDue_35 : decode cX4_isDue 35 = .ok (.ireturn, 1) := by decide +kernel
theorem dX4_isDue_36 : decode cX4_isDue 36 = .ok (.aload_n 1, 1) := by decide +kernel
theorem dX4_isDue_37 : decode cX4_isDue 37 = .ok (.invokevirtual 171, 3) := by decide +kernel
theorem dX4_isDue_40 : decode cX4_isDue 40 = .ok (.ireturn, 1) := by decide +kernel
set_option maxRecDepth 20000 in
theorem ggX4_openDeadMail_Jx4a65c_size_8abf5 : GoodIn wsX4_openDeadMail wsJx4a65c_size_8abf5 := goodIn_r _ [7, 8, 59, 60, 61] (by decide +kernel) (by decide +kernel)
set_option maxRecDepth 20000 in
theorem gX4_openDeadMail_Jx4a65c_size_8abf5 : GoodIn wsX4_openDeadMail (wsV RX4 26 RJx4a65c yJx4a65c_size_8abf5 wsJx4a65c_size_8abf5) := goodIn_app (goodIn_of _ (by decide +kernel)) ggX4_openDeadMail_Jx4a65c_size_8abf5
set_option maxRecDepth 20000 in
theorem ggX4_openDeadMail_Jx4a65c_get_915e3 : GoodIn wsX4_openDeadMail wsJx4a65c_get_915e3 := goodIn_r _ [12, 8, 13, 14, 15, 16, 17, 18, 19, 20, 21, 22, 23, 6, 24, 25, 59, 60, 61] (by decide +kernel) (by decide +kernel)
set_option maxRecDepth 20000 in
theorem gX4_openDeadMail_Jx4a65c_get_915e3 : GoodIn wsX4_openDeadMail (wsV RX4 55 RJx4a65c yJx4a65c_get_915e3 wsJx4a65c_get_915e3) := goodIn_app (goodIn_of _ (by decide +kernel)) ggX4_openDeadMail_Jx4a65c_get_915e3
set_option maxRecDepth 20000 in
theorem ggX4_openDeadMail_X1_open : GoodIn wsX4_openDeadMail wsX1_open := goodIn_r _ [30, 31, 32, 33, 34, 35, 36, 37, 38, 39, 40, 41, 42, 43, 44, 45, 46, 62, 63, 64, 65, 66, 67, 68, 69, 70, 71, 72, 73] (by decide +kernel) (by decide +kernel)
set_option maxRecDepth 20000 in
theorem gX4_openDeadMail_X1_open : GoodIn wsX4_openDeadMail (wsV RX4 230 RX1 yX1_open wsX1_open) := goodIn_app (goodIn_of _ (by decide +kernel)) ggX4_openDeadMail_X1_open
set_option maxRecDepth 20000 in
theorem ggX4_openDeadMail_Jx4a65c_clear_da8c8 : GoodIn wsX4_openDeadMail wsJx4a65c_clear_da8c8 := goodIn_r _ [50, 51, 52, 25, 8, 59, 60, 61] (by decide +kernel) (by decide +kernel)
set_option maxRecDepth 20000 in
theorem gX4_openDeadMail_Jx4a65c_clear_da8c8 : GoodIn wsX4_openDeadMail (wsV RX4 233 RJx4a65c yJx4a65c_clear_da8c8 wsJx4a65c_clear_da8c8) := goodIn_app (goodIn_of _ (by decide +kernel)) ggX4_openDeadMail_Jx4a65c_clear_da8c8
theorem dX4_openDeadMail_0 : decode cX4_openDeadMail 0 = .ok (.iconst 0, 1) := by decide +kernel
theorem dX4_openDeadMail_1 : decode cX4_openDeadMail 1 = .ok (.istore_n 1, 1) := by decide +kernel
theorem dX4_openDeadMail_2 : decode cX4_openDeadMail 2 = .ok (.iload_n 1, 1) := by decide +kernel
theorem dX4_openDeadMail_3 : decode cX4_openDeadMail 3 = .ok (.aload_n 0, 1) := by decide +kernel
theorem dX4_openDeadMail_4 : decode cX4_openDeadMail 4 = .ok (.getfield 19, 3) := by decide +kernel
theorem dX4_openDeadMail_7 : decode cX4_openDeadMail 7 = .ok (.invokevirtual 26, 3) := by decide +kernel
theorem dX4_openDeadMail_10 : decode cX4_openDeadMail 10 = .ok (.if_icmp .ge 23, 3) := by decide +kernel
theorem dX4_openDeadMail_13 : decode cX4_openDeadMail 13 = .ok (.aload_n 0, 1) := by decide +kernel
theorem dX4_openDeadMail_14 : decode cX4_openDeadMail 14 = .ok (.getfield 19, 3) := by decide +kernel
theorem dX4_openDeadMail_17 : decode cX4_openDeadMail 17 = .ok (.iload_n 1, 1) := by decide +kernel
theorem dX4_openDeadMail_18 : decode cX4_openDeadMail 18 = .ok (.invokevirtual 55, 3) := by decide +kernel
theorem dX4_openDeadMail_21 : decode cX4_openDeadMail 21 = .ok (.checkcast 101, 3) := by decide +kernel
theorem dX4_openDeadMail_24 : decode cX4_openDeadMail 24 = .ok (.invokevirtual 230, 3) := by decide +kernel
theorem dX4_openDeadMail_27 : decode cX4_openDeadMail 27 = .ok (.iinc 1 1, 3) := by decide +kernel
theorem dX4_openDeadMail_30 : decode cX4_openDeadMail 30 = .ok (.goto (-28), 3) := by decide +kernel
theorem dX4_openDeadMail_33 : decode cX4_openDeadMail 33 = .ok (.aload_n 0, 1) := by decide +kernel
theorem dX4_openDeadMail_34 : decode cX4_openDeadMail 34 = .ok (.getfield 19, 3) := by decide +kernel
theorem dX4_openDeadMail_37 : decode cX4_openDeadMail 37 = .ok (.invokevirtual 233, 3) := by decide +kernel
theorem dX4_openDeadMail_40 : decode cX4_openDeadMail 40 = .ok (.return_, 1) := by decide +kernel
set_option maxRecDepth 20000 in
theorem ggX4_handle_X4_isShut : GoodIn wsX4_handle wsX4_isShut := goodIn_r _ [8, 3, 9, 192, 193, 194, 195, 196, 197] (by decide +kernel) (by decide +kernel)
set_option maxRecDepth 20000 in
theorem gX4_handle_X4_isShut : GoodIn wsX4_handle (wsV RX4 130 RX4 yX4_isShut wsX4_isShut) := goodIn_app (goodIn_of _ (by decide +kernel)) ggX4_handle_X4_isShut
set_option maxRecDepth 20000 in
theorem ggX4_handle_X1_hold : GoodIn wsX4_handle wsX1_hold := goodIn_r _ [14, 15, 16, 17, 18, 19, 20, 21, 22, 23, 24, 25, 182, 183, 184, 185, 186, 187, 188, 189, 190, 191, 198, 199] (by decide +kernel) (by decide +kernel)
set_option maxRecDepth 20000 in
theorem gX4_handle_X1_hold : GoodIn wsX4_handle (wsV RX4 236 RX1 yX1_hold wsX1_hold) := goodIn_app (goodIn_of _ (by decide +kernel)) ggX4_handle_X1_hold
set_option maxRecDepth 20000 in
theorem ggX4_handle_X3_portOn : GoodIn wsX4_handle wsX3_portOn := goodIn_r _ [30, 31, 32, 33, 34, 35, 36, 37, 38, 39, 40, 41, 42, 43, 44, 45, 46, 47, 48, 49, 50, 51, 52, 53, 54, 55, 56, 57, 58, 59, 60, 61, 62, 63, 64, 200, 201, 202, 203, 204, 205, 206, 207, 208, 209, 210, 211] (by decide +kernel) (by decide +kernel)
set_option maxRecDepth 20000 in
theorem gX4_handle_X3_portOn : GoodIn wsX4_handle (wsV RX4 91 RX3 yX3_portOn wsX3_portOn) := goodIn_app (goodIn_of _ (by decide +kernel)) ggX4_handle_X3_portOn
set_option maxRecDepth 20000 in
theorem ggX4_handle_X4_deliver : GoodIn wsX4_handle wsX4_deliver := goodIn_r _ [68, 69, 3, 70, 71, 2, 72, 73, 74, 20, 21, 22, 23, 24, 25, 75, 76, 77, 36, 78, 79, 80, 55, 38, 81, 82, 83, 84, 85, 86, 87, 88, 89, 90, 91, 92, 93, 94, 95, 96, 97, 98, 99, 100, 101, 102, 103, 104, 105, 106, 107, 108, 109, 110, 111, 112, 113, 114, 115, 116, 117, 118, 119, 120, 121, 122, 123, 124, 125, 126, 127, 182, 183, 184, 185, 186, 187, 188, 189, 190, 191, 192, 193, 194, 195, 196, 197, 200, 201, 202, 198, 199, 203, 204, 205] (by decide +kernel) (by decide +kernel)
set_option maxRecDepth 20000 in
theorem gX4_handle_X4_deliver : GoodIn wsX4_handle (wsV RX4 239 RX4 yX4_deliver wsX4_deliver) := goodIn_app (goodIn_of _ (by decide +kernel)) ggX4_handle_X4_deliver
set_option maxRecDepth 20000 in
theorem ggX4_handle_X4_handleByWord : GoodIn wsX4_handle wsX4_handleByWord := goodIn_r _ [131, 2, 1, 3, 69, 132, 133, 134, 135, 136, 137, 29, 138, 31, 32, 139, 140, 33, 34, 35, 36, 37, 38, 39, 40, 41, 42, 43, 44, 45, 46, 47, 48, 49, 50, 51, 52, 53, 54, 55, 141, 7, 142, 143, 144, 96, 145, 146, 147, 148, 149, 59, 150, 61, 64, 62, 151, 152, 153, 154, 63, 155, 156, 157, 158, 159, 160, 71, 161, 74, 20, 21, 22, 23, 24, 25, 75, 76, 77, 78, 79, 80, 81, 82, 83, 84, 85, 86, 87, 88, 89, 90, 91, 92, 93, 94, 95, 97, 98, 99, 100, 101, 102, 103, 104, 105, 106, 107, 108, 109, 110, 111, 112, 113, 114, 115, 116, 117, 118, 119, 120, 121, 122, 123, 124, 125, 126, 127, 162, 163, 164, 13, 165, 166, 167, 15, 168, 16, 169, 170, 171, 172, 173, 174, 175, 176, 19, 177, 178, 179, 180, 181, 182, 183, 184, 185, 186, 187, 188, 189, 190, 191, 192, 193, 194, 195, 196, 197, 200, 201, 202, 206, 207, 208, 209, 210, 211, 203, 204, 205, 198, 199] (by decide +kernel) (by decide +kernel)
set_option maxRecDepth 20000 in
theorem gX4_handle_X4_handleByWord : GoodIn wsX4_handle (wsV RX4 242 RX4 yX4_handleByWord wsX4_handleByWord) := goodIn_app (goodIn_of _ (by decide +kernel)) ggX4_handle_X4_handleByWord
theorem dX4_handle_0 : decode cX4_handle 0 = .ok (.aload_n 0, 1) := by decide +kernel
theorem dX4_handle_1 : decode cX4_handle 1 = .ok (.aload_n 1, 1) := by decide +kernel
theorem dX4_handle_2 : decode cX4_handle 2 = .ok (.getfield 157, 3) := by decide +kernel
theorem dX4_handle_5 : decode cX4_handle 5 = .ok (.invokevirtual 130, 3) := by decide +kernel
theorem dX4_handle_8 : decode cX4_handle 8 = .ok (.ifCond .eq 10, 3) := by decide +kernel
theorem dX4_handle_11 : decode cX4_handle 11 = .ok (.aload_n 1, 1) := by decide +kernel
theorem dX4_handle_12 : decode cX4_handle 12 = .ok (.invokevirtual 236, 3) := by decide +kernel
theorem dX4_handle_15 : decode cX4_handle 15 = .ok (.goto 34, 3) := by decide +kernel
theorem dX4_handle_18 : decode cX4_handle 18 = .ok (.aload_n 1, 1) := by decide +kernel
theorem dX4_handle_19 : decode cX4_handle 19 = .ok (.getfield 163, 3) := by decide +kernel
theorem dX4_handle_22 : decode cX4_handle 22 = .ok (.aload_n 0, 1) := by decide +kernel
theorem dX4_handle_23 : decode cX4_handle 23 = .ok (.getfield 84, 3) := by decide +kernel
theorem dX4_handle_26 : decode cX4_handle 26 = .ok (.invokevirtual 91, 3) := by decide +kernel
theorem dX4_handle_29 : decode cX4_handle 29 = .ok (.aload_n 1, 1) := by decide +kernel
theorem dX4_handle_30 : decode cX4_handle 30 = .ok (.getfield 157, 3) := by decide +kernel
theorem dX4_handle_33 : decode cX4_handle 33 = .ok (.if_icmp .ne 11, 3) := by decide +kernel
theorem dX4_handle_36 : decode cX4_handle 36 = .ok (.aload_n 0, 1) := by decide +kernel
theorem dX4_handle_37 : decode cX4_handle 37 = .ok (.aload_n 1, 1) := by decide +kernel
theorem dX4_handle_38 : decode cX4_handle 38 = .ok (.invokevirtual 239, 3) := by decide +kernel
theorem dX4_handle_41 : decode cX4_handle 41 = .ok (.goto 8, 3) := by decide +kernel
theorem dX4_handle_44 : decode cX4_handle 44 = .ok (.aload_n 0, 1) := by decide +kernel
theorem dX4_handle_45 : decode cX4_handle 45 = .ok (.aload_n 1, 1) := by decide +kernel
theorem dX4_handle_46 : decode cX4_handle 46 = .ok (.invokevirtual 242, 3) := by decide +kernel
theorem dX4_handle_49 : decode cX4_handle 49 = .ok (.return_, 1) := by decide +kernel
set_option maxRecDepth 20000 in
theorem ggX4_handleByWord_X3_wordIn : GoodIn wsX4_handleByWord wsX3_wordIn := goodIn_r _ [12, 13, 14, 15, 16, 17, 18, 19, 20, 21, 22, 23, 24, 25, 26, 27, 28, 29, 30, 31, 32, 33, 34, 35, 36, 37, 38, 39, 40, 41, 42, 43, 44, 45, 46, 168, 169, 170, 171, 172, 173, 174, 175, 176, 177, 178, 179] (by decide +kernel) (by decide +kernel)
set_option maxRecDepth 20000 in
theorem gX4_handleByWord_X3_wordIn : GoodIn wsX4_handleByWord (wsV RX4 95 RX3 yX3_wordIn wsX3_wordIn) := goodIn_app (goodIn_of _ (by decide +kernel)) ggX4_handleByWord_X3_wordIn
set_option maxRecDepth 20000 in
theorem ggX4_handleByWord_Jx4a65c_get_915e3 : GoodIn wsX4_handleByWord wsJx4a65c_get_915e3 := goodIn_r _ [26, 22, 27, 28, 29, 30, 31, 32, 33, 34, 35, 36, 37, 20, 38, 39, 177, 178, 179] (by decide +kernel) (by decide +kernel)
set_option maxRecDepth 20000 in
theorem gX4_handleByWord_Jx4a65c_get_915e3 : GoodIn wsX4_handleByWord (wsV RX4 55 RJx4a65c yJx4a65c_get_915e3 wsJx4a65c_get_915e3) := goodIn_app (goodIn_of _ (by decide +kernel)) ggX4_handleByWord_Jx4a65c_get_915e3
set_option maxRecDepth 20000 in
theorem ggX4_handleByWord_X2_arrivesBehind : GoodIn wsX4_handleByWord wsX2_arrivesBehind := goodIn_r _ [52, 53, 54, 55, 171, 172, 173, 174, 175, 176] (by decide +kernel) (by decide +kernel)
set_option maxRecDepth 20000 in
theorem gX4_handleByWord_X2_arrivesBehind : GoodIn wsX4_handleByWord (wsV RX4 245 RX2 yX2_arrivesBehind wsX2_arrivesBehind) := goodIn_app (goodIn_of _ (by decide +kernel)) ggX4_handleByWord_X2_arrivesBehind
set_option maxRecDepth 20000 in
theorem ggX4_handleByWord_X2_portOfMeeting : GoodIn wsX4_handleByWord wsX2_portOfMeeting := goodIn_r _ [59, 53, 54, 60, 61, 41, 62, 43, 44, 45, 46, 171, 172, 173, 174, 175, 176] (by decide +kernel) (by decide +kernel)
set_option maxRecDepth 20000 in
theorem gX4_handleByWord_X2_portOfMeeting : GoodIn wsX4_handleByWord (wsV RX4 249 RX2 yX2_portOfMeeting wsX2_portOfMeeting) := goodIn_app (goodIn_of _ (by decide +kernel)) ggX4_handleByWord_X2_portOfMeeting
set_option maxRecDepth 20000 in
theorem ggX4_handleByWord_X4_bury : GoodIn wsX4_handleByWord wsX4_bury := goodIn_r _ [66, 4, 67, 68, 69, 70, 71, 72, 73, 74, 75, 76, 77, 78, 20, 79, 80, 81, 39, 22, 82, 83, 84, 85, 86, 87, 88, 89, 90, 91, 92, 93, 94, 95, 96, 45, 97, 98, 99, 100, 101, 102, 103, 104, 105, 106, 107, 108, 109, 110, 111, 112, 113, 114, 115, 116, 117, 118, 119, 120, 121, 122, 123, 124, 125, 126, 127, 152, 153, 154, 155, 156, 157, 158, 159, 160, 161, 162, 163, 164, 165, 166, 167, 180, 181, 177, 178, 179] (by decide +kernel) (by decide +kernel)
set_option maxRecDepth 20000 in
theorem gX4_handleByWord_X4_bury : GoodIn wsX4_handleByWord (wsV RX4 224 RX4 yX4_bury wsX4_bury) := goodIn_app (goodIn_of _ (by decide +kernel)) ggX4_handleByWord_X4_bury
set_option maxRecDepth 20000 in
theorem ggX4_handleByWord_X1_sendTo : GoodIn wsX4_handleByWord wsX1_sendTo := goodIn_r _ [132, 133, 134, 135, 136, 137, 61, 41, 62, 43, 44, 45, 46, 138, 139, 140, 72, 141, 74, 75, 142, 143, 144, 145, 146, 70, 71, 73, 147, 148, 149, 150, 151, 152, 153, 154, 155, 156, 157, 158, 159, 160, 161, 180, 181] (by decide +kernel) (by decide +kernel)
set_option maxRecDepth 20000 in
theorem gX4_handleByWord_X1_sendTo : GoodIn wsX4_handleByWord (wsV RX4 252 RX1 yX1_sendTo wsX1_sendTo) := goodIn_app (goodIn_of _ (by decide +kernel)) ggX4_handleByWord_X1_sendTo
theorem dX4_handleByWord_0 : decode cX4_handleByWord 0 = .ok (.aload_n 1, 1) := by decide +kernel
theorem dX4_handleByWord_1 : decode cX4_handleByWord 1 = .ok (.getfield 163, 3) := by decide +kernel
theorem dX4_handleByWord_4 : decode cX4_handleByWord 4 = .ok (.aload_n 1, 1) := by decide +kernel
theorem dX4_handleByWord_5 : decode cX4_handleByWord 5 = .ok (.getfield 157, 3) := by decide +kernel
theorem dX4_handleByWord_8 : decode cX4_handleByWord 8 = .ok (.aload_n 0, 1) := by decide +kernel
theorem dX4_handleByWord_9 : decode cX4_handleByWord 9 = .ok (.getfield 84, 3) := by decide +kernel
theorem dX4_handleByWord_12 : decode cX4_handleByWord 12 = .ok (.invokevirtual 95, 3) := by decide +kernel
theorem dX4_handleByWord_15 : decode cX4_handleByWord 15 = .ok (.istore_n 2, 1) := by decide +kernel
theorem dX4_handleByWord_16 : decode cX4_handleByWord 16 = .ok (.iload_n 2, 1) := by decide +kernel
theorem dX4_handleByWord_17 : decode cX4_handleByWord 17 = .ok (.iconst (-1), 1) := by decide +kernel
theorem dX4_handleByWord_18 : decode cX4_handleByWord 18 = .ok (.if_icmp .ne 9, 3) := by decide +kernel
theorem dX4_handleByWord_21 : decode cX4_handleByWord 21 = .ok (.aload_n 1, 1) := by decide +kernel
theorem dX4_handleByWord_22 : decode cX4_handleByWord 22 = .ok (.iconst 4, 1) := by decide +kernel
theorem dX4_handleByWord_23 : decode cX4_handleByWord 23 = .ok (.putfield 145, 3) := by decide +kernel
theorem dX4_handleByWord_26 : decode cX4_handleByWord 26 = .ok (.return_, 1) := by decide +kernel
theorem dX4_handleByWord_27 : decode cX4_handleByWord 27 = .ok (.aload_n 1, 1) := by decide +kernel
theorem dX4_handleByWord_28 : decode cX4_handleByWord 28 = .ok (.getfield 163, 3) := by decide +kernel
theorem dX4_handleByWord_31 : decode cX4_handleByWord 31 = .ok (.getfield 79, 3) := by decide +kernel
theorem dX4_handleByWord_34 : decode cX4_handleByWord 34 = .ok (.iload_n 2, 1) := by decide +kernel
theorem dX4_handleByWord_35 : decode cX4_handleByWord 35 = .ok (.invokevirtual 55, 3) := by decide +kernel
theorem dX4_handleByWord_38 : decode cX4_handleByWord 38 = .ok (.checkcast 64, 3) := by decide +kernel
theorem dX4_handleByWord_41 : decode cX4_handleByWord 41 = .ok (.astore_n 3, 1) := by decide +kernel
theorem dX4_handleByWord_42 : decode cX4_handleByWord 42 = .ok (.aload_n 3, 1) := by decide +kernel
theorem dX4_handleByWord_43 : decode cX4_handleByWord 43 = .ok (.aload_n 1, 1) := by decide +kernel
theorem dX4_handleByWord_44 : decode cX4_handleByWord 44 = .ok (.getfield 157, 3) := by decide +kernel
theorem dX4_handleByWord_47 : decode cX4_handleByWord 47 = .ok (.aload_n 0, 1) := by decide +kernel
theorem dX4_handleByWord_48 : decode cX4_handleByWord 48 = .ok (.getfield 84, 3) := by decide +kernel
theorem dX4_handleByWord_51 : decode cX4_handleByWord 51 = .ok (.invokevirtual 245, 3) := by decide +kernel
theorem dX4_handleByWord_54 : decode cX4_handleByWord 54 = .ok (.ifCond .eq 9, 3) := by decide +kernel
theorem dX4_handleByWord_57 : decode cX4_handleByWord 57 = .ok (.aload_n 1, 1) := by decide +kernel
theorem dX4_handleByWord_58 : decode cX4_handleByWord 58 = .ok (.iconst 2, 1) := by decide +kernel
theorem dX4_handleByWord_59 : decode cX4_handleByWord 59 = .ok (.putfield 145, 3) := by decide +kernel
theorem dX4_handleByWord_62 : decode cX4_handleByWord 62 = .ok (.return_, 1) := by decide +kernel
theorem dX4_handleByWord_63 : decode cX4_handleByWord 63 = .ok (.aload_n 3, 1) := by decide +kernel
theorem dX4_handleByWord_64 : decode cX4_handleByWord 64 = .ok (.aload_n 1, 1) := by decide +kernel
theorem dX4_handleByWord_65 : decode cX4_handleByWord 65 = .ok (.getfield 157, 3) := by decide +kernel
theorem dX4_handleByWord_68 : decode cX4_handleByWord 68 = .ok (.aload_n 0, 1) := by decide +kernel
theorem dX4_handleByWord_69 : decode cX4_handleByWord 69 = .ok (.getfield 84, 3) := by decide +kernel
theorem dX4_handleByWord_72 : decode cX4_handleByWord 72 = .ok (.invokevirtual 249, 3) := by decide +kernel
theorem dX4_handleByWord_75 : decode cX4_handleByWord 75 = .ok (.istore 4, 2) := by decide +kernel
theorem dX4_handleByWord_77 : decode cX4_handleByWord 77 = .ok (.iload 4, 2) := by decide +kernel
theorem dX4_handleByWord_79 : decode cX4_handleByWord 79 = .ok (.iconst (-1), 1) := by decide +kernel
theorem dX4_handleByWord_80 : decode cX4_handleByWord 80 = .ok (.if_icmp .ne 11, 3) := by decide +kernel
theorem dX4_handleByWord_83 : decode cX4_handleByWord 83 = .ok (.aload_n 1, 1) := by decide +kernel
theorem dX4_handleByWord_84 : decode cX4_handleByWord 84 = .ok (.iconst 4, 1) := by decide +kernel
theorem dX4_handleByWord_85 : decode cX4_handleByWord 85 = .ok (.putfield 145, 3) := by decide +kernel
theorem dX4_handleByWord_88 : decode cX4_handleByWord 88 = .ok (.goto 30, 3) := by decide +kernel
theorem dX4_handleByWord_91 : decode cX4_handleByWord 91 = .ok (.aload_n 1, 1) := by decide +kernel
theorem dX4_handleByWord_92 : decode cX4_handleByWord 92 = .ok (.getfield 160, 3) := by decide +kernel
theorem dX4_handleByWord_95 : decode cX4_handleByWord 95 = .ok (.bipush 6, 2) := by decide +kernel
theorem dX4_handleByWord_97 : decode cX4_handleByWord 97 = .ok (.if_icmp .lt 11, 3) := by decide +kernel
theorem dX4_handleByWord_100 : decode cX4_handleByWord 100 = .ok (.aload_n 0, 1) := by decide +kernel
theorem dX4_handleByWord_101 : decode cX4_handleByWord 101 = .ok (.aload_n 1, 1) := by decide +kernel
theorem dX4_handleByWord_102 : decode cX4_handleByWord 102 = .ok (.invokevirtual 224, 3) := by decide +kernel
theorem dX4_handleByWord_105 : decode cX4_handleByWord 105 = .ok (.goto 13, 3) := by decide +kernel
theorem dX4_handleByWord_108 : decode cX4_handleByWord 108 = .ok (.aload_n 1, 1) := by decide +kernel
theorem dX4_handleByWord_109 : decode cX4_handleByWord 109 = .ok (.iload 4, 2) := by decide +kernel
theorem dX4_handleByWord_111 : decode cX4_handleByWord 111 = .ok (.aload_n 0, 1) := by decide +kernel
theorem dX4_handleByWord_112 : decode cX4_handleByWord 112 = .ok (.getfield 84, 3) := by decide +kernel
theorem dX4_handleByWord_115 : decode cX4_handleByWord 115 = .ok (.invokevirtual 252, 3) := by decide +kernel
theorem dX4_handleByWord_118 : decode cX4_handleByWord 118 = .ok (.return_, 1) := by decide +kernel
set_option maxRecDepth 20000 in
theorem ggX4_deliver_X0_write : GoodIn wsX4_deliver wsX0_write := goodIn_r _ [12, 13, 14, 90, 91] (by decide +kernel) (by decide +kernel)
set_option maxRecDepth 20000 in
theorem gX4_deliver_X0_write : GoodIn wsX4_deliver (wsV RX4 258 RX0 yX0_write wsX0_write) := goodIn_app (goodIn_of _ (by decide +kernel)) ggX4_deliver_X0_write
set_option maxRecDepth 20000 in
theorem ggX4_deliver_Jx4a65c_add_9ea2d : GoodIn wsX4_deliver wsJx4a65c_add_9ea2d := goodIn_r _ [19, 20, 21, 22, 23, 24, 25, 26, 18, 27, 28, 29, 30, 31, 32, 33, 34, 35, 36, 37, 38, 39, 40, 41, 42, 43, 44, 45, 46, 47, 48, 49, 50, 51, 52, 53, 54, 55, 56, 57, 58, 59, 60, 61, 62, 63, 64, 65, 66, 67, 68, 69, 70, 92, 93, 94] (by decide +kernel) (by decide +kernel)
set_option maxRecDepth 20000 in
theorem gX4_deliver_Jx4a65c_add_9ea2d : GoodIn wsX4_deliver (wsV RX4 40 RJx4a65c yJx4a65c_add_9ea2d wsJx4a65c_add_9ea2d) := goodIn_app (goodIn_of _ (by decide +kernel)) ggX4_deliver_Jx4a65c_add_9ea2d
theorem dX4_deliver_0 : decode cX4_deliver 0 = .ok (.aload_n 1, 1) := by decide +kernel
theorem dX4_deliver_1 : decode cX4_deliver 1 = .ok (.iconst 1, 1) := by decide +kernel
theorem dX4_deliver_2 : decode cX4_deliver 2 = .ok (.putfield 145, 3) := by decide +kernel
theorem dX4_deliver_5 : decode cX4_deliver 5 = .ok (.aload_n 1, 1) := by decide +kernel
theorem dX4_deliver_6 : decode cX4_deliver 6 = .ok (.aload_n 0, 1) := by decide +kernel
theorem dX4_deliver_7 : decode cX4_deliver 7 = .ok (.getfield 84, 3) := by decide +kernel
theorem dX4_deliver_10 : decode cX4_deliver 10 = .ok (.putfield 255, 3) := by decide +kernel
theorem dX4_deliver_13 : decode cX4_deliver 13 = .ok (.aload_n 1, 1) := by decide +kernel
theorem dX4_deliver_14 : decode cX4_deliver 14 = .ok (.getfield 106, 3) := by decide +kernel
theorem dX4_deliver_17 : decode cX4_deliver 17 = .ok (.bipush 33, 2) := by decide +kernel
theorem dX4_deliver_19 : decode cX4_deliver 19 = .ok (.invokevirtual 258, 3) := by decide +kernel
theorem dX4_deliver_22 : decode cX4_deliver 22 = .ok (.aload_n 1, 1) := by decide +kernel
theorem dX4_deliver_23 : decode cX4_deliver 23 = .ok (.getfield 163, 3) := by decide +kernel
theorem dX4_deliver_26 : decode cX4_deliver 26 = .ok (.getfield 185, 3) := by decide +kernel
theorem dX4_deliver_29 : decode cX4_deliver 29 = .ok (.aload_n 1, 1) := by decide +kernel
theorem dX4_deliver_30 : decode cX4_deliver 30 = .ok (.invokevirtual 40, 3) := by decide +kernel
theorem dX4_deliver_33 : decode cX4_deliver 33 = .ok (.pop, 1) := by decide +kernel
theorem dX4_deliver_34 : decode cX4_deliver 34 = .ok (.aload_n 0, 1) := by decide +kernel
theorem dX4_deliver_35 : decode cX4_deliver 35 = .ok (.dup, 1) := by decide +kernel
theorem dX4_deliver_36 : decode cX4_deliver 36 = .ok (.getfield 136, 3) := by decide +kernel
theorem dX4_deliver_39 : decode cX4_deliver 39 = .ok (.iconst 1, 1) := by decide +kernel
theorem dX4_deliver_40 : decode cX4_deliver 40 = .ok (.iadd, 1) := by decide +kernel
theorem dX4_deliver_41 : decode cX4_deliver 41 = .ok (.putfield 136, 3) := by decide +kernel
theorem dX4_deliver_44 : decode cX4_deliver 44 = .ok (.return_, 1) := by decide +kernel
set_option maxRecDepth 20000 in
theorem ggX4_bury_X0_write : GoodIn wsX4_bury wsX0_write := goodIn_r _ [8, 9, 10, 83, 84] (by decide +kernel) (by decide +kernel)
set_option maxRecDepth 20000 in
theorem gX4_bury_X0_write : GoodIn wsX4_bury (wsV RX4 258 RX0 yX0_write wsX0_write) := goodIn_app (goodIn_of _ (by decide +kernel)) ggX4_bury_X0_write
set_option maxRecDepth 20000 in
theorem ggX4_bury_Jx4a65c_add_9ea2d : GoodIn wsX4_bury wsJx4a65c_add_9ea2d := goodIn_r _ [15, 16, 17, 18, 19, 20, 21, 22, 14, 23, 24, 25, 26, 27, 28, 29, 30, 31, 32, 33, 34, 35, 36, 37, 38, 39, 40, 41, 42, 43, 44, 45, 46, 47, 48, 49, 50, 51, 52, 53, 54, 55, 56, 57, 58, 59, 60, 61, 62, 63, 64, 65, 66, 85, 86, 87] (by decide +kernel) (by decide +kernel)
set_option maxRecDepth 20000 in
theorem gX4_bury_Jx4a65c_add_9ea2d : GoodIn wsX4_bury (wsV RX4 40 RJx4a65c yJx4a65c_add_9ea2d wsJx4a65c_add_9ea2d) := goodIn_app (goodIn_of _ (by decide +kernel)) ggX4_bury_Jx4a65c_add_9ea2d
theorem dX4_bury_0 : decode cX4_bury 0 = .ok (.aload_n 1, 1) := by decide +kernel
theorem dX4_bury_1 : decode cX4_bury 1 = .ok (.iconst 5, 1) := by decide +kernel
theorem dX4_bury_2 : decode cX4_bury 2 = .ok (.putfield 145, 3) := by decide +kernel
theorem dX4_bury_5 : decode cX4_bury 5 = .ok (.aload_n 1, 1) := by decide +kernel
theorem dX4_bury_6 : decode cX4_bury 6 = .ok (.getfield 106, 3) := by decide +kernel
theorem dX4_bury_9 : decode cX4_bury 9 = .ok (.bipush 43, 2) := by decide +kernel
theorem dX4_bury_11 : decode cX4_bury 11 = .ok (.invokevirtual 258, 3) := by decide +kernel
theorem dX4_bury_14 : decode cX4_bury 14 = .ok (.aload_n 0, 1) := by decide +kernel
theorem dX4_bury_15 : decode cX4_bury 15 = .ok (.getfield 19, 3) := by decide +kernel
theorem dX4_bury_18 : decode cX4_bury 18 = .ok (.aload_n 1, 1) := by decide +kernel
theorem dX4_bury_19 : decode cX4_bury 19 = .ok (.invokevirtual 40, 3) := by decide +kernel
theorem dX4_bury_22 : decode cX4_bury 22 = .ok (.pop, 1) := by decide +kernel
theorem dX4_bury_23 : decode cX4_bury 23 = .ok (.return_, 1) := by decide +kernel
theorem dX5_init_0 : decode cX5_init 0 = .ok (.aload_n 0, 1) := by decide +kernel
theorem dX5_init_1 : decode cX5_init 1 = .ok (.invokespecial 1, 3) := by decide +kernel
theorem dX5_init_4 : decode cX5_init 4 = .ok (.aload_n 0, 1) := by decide +kernel
theorem dX5_init_5 : decode cX5_init 5 = .ok (.sipush 168, 3) := by decide +kernel
theorem dX5_init_8 : decode cX5_init 8 = .ok (.newarray .int, 2) := by decide +kernel
theorem dX5_init_10 : decode cX5_init 10 = .ok (.putfield 7, 3) := by decide +kernel
theorem dX5_init_13 : decode cX5_init 13 = .ok (.aload_n 0, 1) := by decide +kernel
theorem dX5_init_14 : decode cX5_init 14 = .ok (.sipush 168, 3) := by decide +kernel
theorem dX5_init_17 : decode cX5_init 17 = .ok (.newarray .int, 2) := by decide +kernel
theorem dX5_init_19 : decode cX5_init 19 = .ok (.putfield 13, 3) := by decide +kernel
theorem dX5_init_22 : decode cX5_init 22 = .ok (.aload_n 0, 1) := by decide +kernel
theorem dX5_init_23 : decode cX5_init 23 = .ok (.sipush 168, 3) := by decide +kernel
theorem dX5_init_26 : decode cX5_init 26 = .ok (.newarray .int, 2) := by decide +kernel
theorem dX5_init_28 : decode cX5_init 28 = .ok (.putfield 16, 3) := by decide +kernel
theorem dX5_init_31 : decode cX5_init 31 = .ok (.aload_n 0, 1) := by decide +kernel
theorem dX5_init_32 : decode cX5_init 32 = .ok (.sipush 1008, 3) := by decide +kernel
theorem dX5_init_35 : decode cX5_init 35 = .ok (.newarray .int, 2) := by decide +kernel
theorem dX5_init_37 : decode cX5_init 37 = .ok (.putfield 19, 3) := by decide +kernel
theorem dX5_init_40 : decode cX5_init 40 = .ok (.aload_n 0, 1) := by decide +kernel
theorem dX5_init_41 : decode cX5_init 41 = .ok (.sipush 1008, 3) := by decide +kernel
theorem dX5_init_44 : decode cX5_init 44 = .ok (.newarray .int, 2) := by decide +kernel
theorem dX5_init_46 : decode cX5_init 46 = .ok (.putfield 22, 3) := by decide +kernel
theorem dX5_init_49 : decode cX5_init 49 = .ok (.aload_n 0, 1) := by decide +kernel
theorem dX5_init_50 : decode cX5_init 50 = .ok (.sipush 1008, 3) := by decide +kernel
theorem dX5_init_53 : decode cX5_init 53 = .ok (.newarray .int, 2) := by decide +kernel
theorem dX5_init_55 : decode cX5_init 55 = .ok (.putfield 25, 3) := by decide +kernel
theorem dX5_init_58 : decode cX5_init 58 = .ok (.aload_n 0, 1) := by decide +kernel
theorem dX5_init_59 : decode cX5_init 59 = .ok (.bipush 8, 2) := by decide +kernel
theorem dX5_init_61 : decode cX5_init 61 = .ok (.newarray .int, 2) := by decide +kernel
theorem dX5_init_63 : decode cX5_init 63 = .ok (.putfield 28, 3) := by decide +kernel
theorem dX5_init_66 : decode cX5_init 66 = .ok (.aload_n 0, 1) := by decide +kernel
theorem dX5_init_67 : decode cX5_init 67 = .ok (.bipush 40, 2) := by decide +kernel
theorem dX5_init_69 : decode cX5_init 69 = .ok (.newarray .int, 2) := by decide +kernel
theorem dX5_init_71 : decode cX5_init 71 = .ok (.putfield 31, 3) := by decide +kernel
theorem dX5_init_74 : decode cX5_init 74 = .ok (.aload_n 0, 1) := by decide +kernel
theorem dX5_init_75 : decode cX5_init 75 = .ok (.bipush 40, 2) := by decide +kernel
theorem dX5_init_77 : decode cX5_init 77 = .ok (.newarray .int, 2) := by decide +kernel
theorem dX5_init_79 : decode cX5_init 79 = .ok (.putfield 34, 3) := by decide +kernel
theorem dX5_init_82 : decode cX5_init 82 = .ok (.aload_n 0, 1) := by decide +kernel
theorem dX5_init_83 : decode cX5_init 83 = .ok (.bipush 40, 2) := by decide +kernel
theorem dX5_init_85 : decode cX5_init 85 = .ok (.newarray .int, 2) := by decide +kernel
theorem dX5_init_87 : decode cX5_init 87 = .ok (.putfield 37, 3) := by decide +kernel
theorem dX5_init_90 : decode cX5_init 90 = .ok (.aload_n 0, 1) := by decide +kernel
theorem dX5_init_91 : decode cX5_init 91 = .ok (.bipush 40, 2) := by decide +kernel
theorem dX5_init_93 : decode cX5_init 93 = .ok (.newarray .int, 2) := by decide +kernel
theorem dX5_init_95 : decode cX5_init 95 = .ok (.putfield 40, 3) := by decide +kernel
theorem dX5_init_98 : decode cX5_init 98 = .ok (.aload_n 0, 1) := by decide +kernel
theorem dX5_init_99 : decode cX5_init 99 = .ok (.bipush 40, 2) := by decide +kernel
theorem dX5_init_101 : decode cX5_init 101 = .ok (.newarray .int, 2) := by decide +kernel
theorem dX5_init_103 : decode cX5_init 103 = .ok (.putfield 43, 3) := by decide +kernel
theorem dX5_init_106 : decode cX5_init 106 = .ok (.aload_n 0, 1) := by decide +kernel
theorem dX5_init_107 : decode cX5_init 107 = .ok (.bipush 40, 2) := by decide +kernel
theorem dX5_init_109 : decode cX5_init 109 = .ok (.newarray .int, 2) := by decide +kernel
theorem dX5_init_111 : decode cX5_init 111 = .ok (.putfield 46, 3) := by decide +kernel
theorem dX5_init_114 : decode cX5_init 114 = .ok (.aload_n 0, 1) := by decide +kernel
theorem dX5_init_115 : decode cX5_init 115 = .ok (.bipush 40, 2) := by decide +kernel
theorem dX5_init_117 : decode cX5_init 117 = .ok (.newarray .int, 2) := by decide +kernel
theorem dX5_init_119 : decode cX5_init 119 = .ok (.putfield 49, 3) := by decide +kernel
theorem dX5_init_122 : decode cX5_init 122 = .ok (.aload_n 0, 1) := by decide +kernel
theorem dX5_init_123 : decode cX5_init 123 = .ok (.bipush 40, 2) := by decide +kernel
theorem dX5_init_125 : decode cX5_init 125 = .ok (.newarray .int, 2) := by decide +kernel
theorem dX5_init_127 : decode cX5_init 127 = .ok (.putfield 52, 3) := by decide +kernel
theorem dX5_init_130 : decode cX5_init 130 = .ok (.aload_n 0, 1) := by decide +kernel
theorem dX5_init_131 : decode cX5_init 131 = .ok (.sipush 8000, 3) := by decide +kernel
theorem dX5_init_134 : decode cX5_init 134 = .ok (.newarray .int, 2) := by decide +kernel
theorem dX5_init_136 : decode cX5_init 136 = .ok (.putfield 55, 3) := by decide +kernel
theorem dX5_init_139 : decode cX5_init 139 = .ok (.aload_n 0, 1) := by decide +kernel
theorem dX5_init_140 : decode cX5_init 140 = .ok (.bipush 40, 2) := by decide +kernel
theorem dX5_init_142 : decode cX5_init 142 = .ok (.newarray .int, 2) := by decide +kernel
theorem dX5_init_144 : decode cX5_init 144 = .ok (.putfield 58, 3) := by decide +kernel
theorem dX5_init_147 : decode cX5_init 147 = .ok (.aload_n 0, 1) := by decide +kernel
theorem dX5_init_148 : decode cX5_init 148 = .ok (.bipush 40, 2) := by decide +kernel
theorem dX5_init_150 : decode cX5_init 150 = .ok (.newarray .int, 2) := by decide +kernel
theorem dX5_init_152 : decode cX5_init 152 = .ok (.putfield 61, 3) := by decide +kernel
theorem dX5_init_155 : decode cX5_init 155 = .ok (.aload_n 0, 1) := by decide +kernel
theorem dX5_init_156 : decode cX5_init 156 = .ok (.bipush 40, 2) := by decide +kernel
theorem dX5_init_158 : decode cX5_init 158 = .ok (.newarray .int, 2) := by decide +kernel
theorem dX5_init_160 : decode cX5_init 160 = .ok (.putfield 64, 3) := by decide +kernel
theorem dX5_init_163 : decode cX5_init 163 = .ok (.aload_n 0, 1) := by decide +kernel
theorem dX5_init_164 : decode cX5_init 164 = .ok (.bipush 10, 2) := by decide +kernel
theorem dX5_init_166 : decode cX5_init 166 = .ok (.newarray .int, 2) := by decide +kernel
theorem dX5_init_168 : decode cX5_init 168 = .ok (.putfield 67, 3) := by decide +kernel
theorem dX5_init_171 : decode cX5_init 171 = .ok (.return_, 1) := by decide +kernel
theorem dX5_thrown_0 : decode cX5_thrown 0 = .ok (.aload_n 0, 1) := by decide +kernel
theorem dX5_thrown_1 : decode cX5_thrown 1 = .ok (.getfield 70, 3) := by decide +kernel
theorem dX5_thrown_4 : decode cX5_thrown 4 = .ok (.ireturn, 1) := by decide +kernel
theorem dX5_in_0 : decode cX5_in 0 = .ok (.iload_n 0, 1) := by decide +kernel
theorem dX5_in_1 : decode cX5_in 1 = .ok (.iload_n 1, 1) := by decide +kernel
theorem dX5_in_2 : decode cX5_in 2 = .ok (.if_icmp .lt 12, 3) := by decide +kernel
theorem dX5_in_5 : decode cX5_in 5 = .ok (.iload_n 0, 1) := by decide +kernel
theorem dX5_in_6 : decode cX5_in 6 = .ok (.iload_n 2, 1) := by decide +kernel
theorem dX5_in_7 : decode cX5_in 7 = .ok (.if_icmp .gt 7, 3) := by decide +kernel
theorem dX5_in_10 : decode cX5_in 10 = .ok (.iconst 1, 1) := by decide +kernel
theorem dX5_in_11 : decode cX5_in 11 = .ok (.goto 4, 3) := by decide +kernel
theorem dX5_in_14 : decode cX5_in 14 = .ok (.iconst 0, 1) := by decide +kernel
theorem dX5_in_15 : decode cX5_in 15 = .ok (.ireturn, 1) := by decide +kernel
set_option maxRecDepth 20000 in
theorem ggX5_isPort_X5_in : GoodIn wsX5_isPort wsX5_in := goodIn_r _ [4] (by decide +kernel) (by decide +kernel)
set_option maxRecDepth 20000 in
theorem gX5_isPort_X5_in : GoodIn wsX5_isPort (va_wsS RX5 74 yX5_in wsX5_in) := goodIn_app (goodIn_of _ (by decide +kernel)) ggX5_isPort_X5_in
theorem dX5_isPort_0 : decode cX5_isPort 0 = .ok (.iload_n 0, 1) := by decide +kernel
theorem dX5_isPort_1 : decode cX5_isPort 1 = .ok (.iconst 0, 1) := by decide +kernel
theorem dX5_isPort_2 : decode cX5_isPort 2 = .ok (.bipush 9, 2) := by decide +kernel
theorem dX5_isPort_4 : decode cX5_isPort 4 = .ok (.invokestatic 74, 3) := by decide +kernel
theorem dX5_isPort_7 : decode cX5_isPort 7 = .ok (.ireturn, 1) := by decide +kernel
set_option maxRecDepth 20000 in
theorem ggX5_isShip_X5_in : GoodIn wsX5_isShip wsX5_in := goodIn_r _ [5] (by decide +kernel) (by decide +kernel)
set_option maxRecDepth 20000 in
theorem gX5_isShip_X5_in : GoodIn wsX5_isShip (va_wsS RX5 74 yX5_in wsX5_in) := goodIn_app (goodIn_of _ (by decide +kernel)) ggX5_isShip_X5_in
theorem dX5_isShip_0 : decode cX5_isShip 0 = .ok (.iload_n 1, 1) := by decide +kernel
theorem dX5_isShip_1 : decode cX5_isShip 1 = .ok (.iconst 0, 1) := by decide +kernel
theorem dX5_isShip_2 : decode cX5_isShip 2 = .ok (.aload_n 0, 1) := by decide +kernel
theorem dX5_isShip_3 : decode cX5_isShip 3 = .ok (.getfield 78, 3) := by decide +kernel
theorem dX5_isShip_6 : decode cX5_isShip 6 = .ok (.iconst 1, 1) := by decide +kernel
theorem dX5_isShip_7 : decode cX5_isShip 7 = .ok (.isub, 1) := by decide +kernel
theorem dX5_isShip_8 : decode cX5_isShip 8 = .ok (.invokestatic 74, 3) := by decide +kernel
theorem dX5_isShip_11 : decode cX5_isShip 11 = .ok (.ireturn, 1) := by decide +kernel
theorem dX5_apart_0 : decode cX5_apart 0 = .ok (.iload_n 0, 1) := by decide +kernel
theorem dX5_apart_1 : decode cX5_apart 1 = .ok (.iload_n 1, 1) := by decide +kernel
theorem dX5_apart_2 : decode cX5_apart 2 = .ok (.if_icmp .le 9, 3) := by decide +kernel
theorem dX5_apart_5 : decode cX5_apart 5 = .ok (.iload_n 0, 1) := by decide +kernel
theorem dX5_apart_6 : decode cX5_apart 6 = .ok (.iload_n 1, 1) := by decide +kernel
theorem dX5_apart_7 : decode cX5_apart 7 = .ok (.isub, 1) := by decide +kernel
theorem dX5_apart_8 : decode cX5_apart 8 = .ok (.goto 6, 3) := by decide +kernel
theorem dX5_apart_11 : decode cX5_apart 11 = .ok (.iload_n 1, 1) := by decide +kernel
theorem dX5_apart_12 : decode cX5_apart 12 = .ok (.iload_n 0, 1) := by decide +kernel
theorem dX5_apart_13 : decode cX5_apart 13 = .ok (.isub, 1) := by decide +kernel
theorem dX5_apart_14 : decode cX5_apart 14 = .ok (.ireturn, 1) := by decide +kernel
theorem dX5_rowOf_0 : decode cX5_rowOf 0 = .ok (.bipush 21, 2) := by decide +kernel
theorem dX5_rowOf_2 : decode cX5_rowOf 2 = .ok (.iload_n 0, 1) := by decide +kernel
theorem dX5_rowOf_3 : decode cX5_rowOf 3 = .ok (.imul, 1) := by decide +kernel
theorem dX5_rowOf_4 : decode cX5_rowOf 4 = .ok (.iload_n 1, 1) := by decide +kernel
theorem dX5_rowOf_5 : decode cX5_rowOf 5 = .ok (.iadd, 1) := by decide +kernel
theorem dX5_rowOf_6 : decode cX5_rowOf 6 = .ok (.ireturn, 1) := by decide +kernel
theorem dX5_addShip_0 : decode cX5_addShip 0 = .ok (.aload_n 0, 1) := by decide +kernel
theorem dX5_addShip_1 : decode cX5_addShip 1 = .ok (.aload_n 0, 1) := by decide +kernel
theorem dX5_addShip_2 : decode cX5_addShip 2 = .ok (.getfield 78, 3) := by decide +kernel
theorem dX5_addShip_5 : decode cX5_addShip 5 = .ok (.bipush 8, 2) := by decide +kernel
theorem dX5_addShip_7 : decode cX5_addShip 7 = .ok (.if_icmp .ne 7, 3) := by decide +kernel
theorem dX5_addShip_10 : decode cX5_addShip 10 = .ok (.iconst 1, 1) := by decide +kernel
theorem dX5_addShip_11 : decode cX5_addShip 11 = .ok (.goto 4, 3) := by decide +kernel
theorem dX5_addShip_14 : decode cX5_addShip 14 = .ok (.iconst 0, 1) := by decide +kernel
theorem dX5_addShip_15 : decode cX5_addShip 15 = .ok (.putfield 70, 3) := by decide +kernel
theorem dX5_addShip_18 : decode cX5_addShip 18 = .ok (.aload_n 0, 1) := by decide +kernel
theorem dX5_addShip_19 : decode cX5_addShip 19 = .ok (.getfield 70, 3) := by decide +kernel
theorem dX5_addShip_22 : decode cX5_addShip 22 = .ok (.ifCond .eq 5, 3) := by decide +kernel
theorem dX5_addShip_25 : decode cX5_addShip 25 = .ok (.iconst 0, 1) := by decide +kernel
theorem dX5_addShip_26 : decode cX5_addShip 26 = .ok (.ireturn, 1) := by decide +kernel
theorem dX5_addShip_27 : decode cX5_addShip 27 = .ok (.aload_n 0, 1) := by decide +kernel
theorem dX5_addShip_28 : decode cX5_addShip 28 = .ok (.dup, 1) := by decide +kernel
theorem dX5_addShip_29 : decode cX5_addShip 29 = .ok (.getfield 78, 3) := by decide +kernel
theorem dX5_addShip_32 : decode cX5_addShip 32 = .ok (.iconst 1, 1) := by decide +kernel
theorem dX5_addShip_33 : decode cX5_addShip 33 = .ok (.iadd, 1) := by decide +kernel
theorem dX5_addShip_34 : decode cX5_addShip 34 = .ok (.putfield 78, 3) := by decide +kernel
theorem dX5_addShip_37 : decode cX5_addShip 37 = .ok (.aload_n 0, 1) := by decide +kernel
theorem dX5_addShip_38 : decode cX5_addShip 38 = .ok (.getfield 78, 3) := by decide +kernel
theorem dX5_addShip_41 : decode cX5_addShip 41 = .ok (.iconst 1, 1) := by decide +kernel
theorem dX5_addShip_42 : decode cX5_addShip 42 = .ok (.isub, 1) := by decide +kernel
theorem dX5_addShip_43 : decode cX5_addShip 43 = .ok (.ireturn, 1) := by decide +kernel
set_option maxRecDepth 20000 in
theorem ggX5_call_X5_isShip : GoodIn wsX5_call wsX5_isShip := goodIn_r _ [10, 11, 12, 13, 9, 14, 21, 22, 23, 24, 25, 26, 27, 28, 29, 30, 31, 32, 33, 34, 35, 36, 37, 38, 39, 40, 41, 42, 43, 44, 45, 46] (by decide +kernel) (by decide +kernel)
set_option maxRecDepth 20000 in
theorem gX5_call_X5_isShip : GoodIn wsX5_call (wsV RX5 81 RX5 yX5_isShip wsX5_isShip) := goodIn_app (goodIn_of _ (by decide +kernel)) ggX5_call_X5_isShip
set_option maxRecDepth 20000 in
theorem ggX5_call_X5_isPort : GoodIn wsX5_call wsX5_isPort := goodIn_r _ [17, 12, 13, 9, 14] (by decide +kernel) (by decide +kernel)
set_option maxRecDepth 20000 in
theorem gX5_call_X5_isPort : GoodIn wsX5_call (va_wsS RX5 85 yX5_isPort wsX5_isPort) := goodIn_app (goodIn_of _ (by decide +kernel)) ggX5_call_X5_isPort
set_option maxRecDepth 20000 in
theorem ggX5_call_X5_in : GoodIn wsX5_call wsX5_in := goodIn_r _ [14] (by decide +kernel) (by decide +kernel)
set_option maxRecDepth 20000 in
theorem gX5_call_X5_in : GoodIn wsX5_call (va_wsS RX5 74 yX5_in wsX5_in) := goodIn_app (goodIn_of _ (by decide +kernel)) ggX5_call_X5_in
set_option maxRecDepth 20000 in
theorem ggX5_call_X5_rowOf : GoodIn wsX5_call wsX5_rowOf := goodIn_r _ [20] (by decide +kernel) (by decide +kernel)
set_option maxRecDepth 20000 in
theorem gX5_call_X5_rowOf : GoodIn wsX5_call (va_wsS RX5 88 yX5_rowOf wsX5_rowOf) := goodIn_app (goodIn_of _ (by decide +kernel)) ggX5_call_X5_rowOf
theorem dX5_call_0 : decode cX5_call 0 = .ok (.aload_n 0, 1) := by decide +kernel
theorem dX5_call_1 : decode cX5_call 1 = .ok (.aload_n 0, 1) := by decide +kernel
theorem dX5_call_2 : decode cX5_call 2 = .ok (.iload_n 1, 1) := by decide +kernel
theorem dX5_call_3 : decode cX5_call 3 = .ok (.invokevirtual 81, 3) := by decide +kernel
theorem dX5_call_6 : decode cX5_call 6 = .ok (.ifCond .eq 10, 3) := by decide +kernel
theorem dX5_call_9 : decode cX5_call 9 = .ok (.iload_n 2, 1) := by decide +kernel
theorem dX5_call_10 : decode cX5_call 10 = .ok (.invokestatic 85, 3) := by decide +kernel
theorem dX5_call_13 : decode cX5_call 13 = .ok (.ifCond .ne 7, 3) := by decide +kernel
theorem dX5_call_16 : decode cX5_call 16 = .ok (.iconst 1, 1) := by decide +kernel
theorem dX5_call_17 : decode cX5_call 17 = .ok (.goto 30, 3) := by decide +kernel
theorem dX5_call_20 : decode cX5_call 20 = .ok (.iload_n 3, 1) := by decide +kernel
theorem dX5_call_21 : decode cX5_call 21 = .ok (.iconst 0, 1) := by decide +kernel
theorem dX5_call_22 : decode cX5_call 22 = .ok (.sipush 1000, 3) := by decide +kernel
theorem dX5_call_25 : decode cX5_call 25 = .ok (.invokestatic 74, 3) := by decide +kernel
theorem dX5_call_28 : decode cX5_call 28 = .ok (.ifCond .eq 14, 3) := by decide +kernel
theorem dX5_call_31 : decode cX5_call 31 = .ok (.iload 4, 2) := by decide +kernel
theorem dX5_call_33 : decode cX5_call 33 = .ok (.iconst 0, 1) := by decide +kernel
theorem dX5_call_34 : decode cX5_call 34 = .ok (.bipush 30, 2) := by decide +kernel
theorem dX5_call_36 : decode cX5_call 36 = .ok (.invokestatic 74, 3) := by decide +kernel
theorem dX5_call_39 : decode cX5_call 39 = .ok (.ifCond .ne 7, 3) := by decide +kernel
theorem dX5_call_42 : decode cX5_call 42 = .ok (.iconst 2, 1) := by decide +kernel
theorem dX5_call_43 : decode cX5_call 43 = .ok (.goto 4, 3) := by decide +kernel
theorem dX5_call_46 : decode cX5_call 46 = .ok (.iconst 0, 1) := by decide +kernel
theorem dX5_call_47 : decode cX5_call 47 = .ok (.putfield 70, 3) := by decide +kernel
theorem dX5_call_50 : decode cX5_call 50 = .ok (.aload_n 0, 1) := by decide +kernel
theorem dX5_call_51 : decode cX5_call 51 = .ok (.getfield 70, 3) := by decide +kernel
theorem dX5_call_54 : decode cX5_call 54 = .ok (.ifCond .eq 5, 3) := by decide +kernel
theorem dX5_call_57 : decode cX5_call 57 = .ok (.iconst 0, 1) := by decide +kernel
theorem dX5_call_58 : decode cX5_call 58 = .ok (.ireturn, 1) := by decide +kernel
theorem dX5_call_59 : decode cX5_call 59 = .ok (.iload_n 1, 1) := by decide +kernel
theorem dX5_call_60 : decode cX5_call 60 = .ok (.bipush 20, 2) := by decide +kernel
theorem dX5_call_62 : decode cX5_call 62 = .ok (.invokestatic 88, 3) := by decide +kernel
theorem dX5_call_65 : decode cX5_call 65 = .ok (.istore 5, 2) := by decide +kernel
theorem dX5_call_67 : decode cX5_call 67 = .ok (.aload_n 0, 1) := by decide +kernel
theorem dX5_call_68 : decode cX5_call 68 = .ok (.getfield 16, 3) := by decide +kernel
theorem dX5_call_71 : decode cX5_call 71 = .ok (.iload 5, 2) := by decide +kernel
theorem dX5_call_73 : decode cX5_call 73 = .ok (.iaload, 1) := by decide +kernel
theorem dX5_call_74 : decode cX5_call 74 = .ok (.istore 6, 2) := by decide +kernel
theorem dX5_call_76 : decode cX5_call 76 = .ok (.iload 6, 2) := by decide +kernel
theorem dX5_call_78 : decode cX5_call 78 = .ok (.bipush 6, 2) := by decide +kernel
theorem dX5_call_80 : decode cX5_call 80 = .ok (.if_icmp .ge 31, 3) := by decide +kernel
theorem dX5_call_83 : decode cX5_call 83 = .ok (.iload 6, 2) := by decide +kernel
theorem dX5_call_85 : decode cX5_call 85 = .ok (.ifCond .eq 22, 3) := by decide +kernel
theorem dX5_call_88 : decode cX5_call 88 = .ok (.iload_n 3, 1) := by decide +kernel
theorem dX5_call_89 : decode cX5_call 89 = .ok (.aload_n 0, 1) := by decide +kernel
theorem dX5_call_90 : decode cX5_call 90 = .ok (.getfield 25, 3) := by decide +kernel
theorem dX5_call_93 : decode cX5_call 93 = .ok (.bipush 6, 2) := by decide +kernel
theorem dX5_call_95 : decode cX5_call 95 = .ok (.iload 5, 2) := by decide +kernel
theorem dX5_call_97 : decode cX5_call 97 = .ok (.imul, 1) := by decide +kernel
theorem dX5_call_98 : decode cX5_call 98 = .ok (.iload 6, 2) := by decide +kernel
theorem dX5_call_100 : decode cX5_call 100 = .ok (.iadd, 1) := by decide +kernel
theorem dX5_call_101 : decode cX5_call 101 = .ok (.iconst 1, 1) := by decide +kernel
theorem dX5_call_102 : decode cX5_call 102 = .ok (.isub, 1) := by decide +kernel
theorem dX5_call_103 : decode cX5_call 103 = .ok (.iaload, 1) := by decide +kernel
theorem dX5_call_104 : decode cX5_call 104 = .ok (.if_icmp .le 7, 3) := by decide +kernel
theorem dX5_call_107 : decode cX5_call 107 = .ok (.iconst 1, 1) := by decide +kernel
theorem dX5_call_108 : decode cX5_call 108 = .ok (.goto 4, 3) := by decide +kernel
theorem dX5_call_111 : decode cX5_call 111 = .ok (.iconst 0, 1) := by decide +kernel
theorem dX5_call_112 : decode cX5_call 112 = .ok (.istore 7, 2) := by decide +kernel
theorem dX5_call_114 : decode cX5_call 114 = .ok (.aload_n 0, 1) := by decide +kernel
theorem dX5_call_115 : decode cX5_call 115 = .ok (.iload 7, 2) := by decide +kernel
theorem dX5_call_117 : decode cX5_call 117 = .ok (.ifCond .eq 7, 3) := by decide +kernel
theorem dX5_call_120 : decode cX5_call 120 = .ok (.iconst 0, 1) := by decide +kernel
theorem dX5_call_121 : decode cX5_call 121 = .ok (.goto 4, 3) := by decide +kernel
theorem dX5_call_124 : decode cX5_call 124 = .ok (.iconst 3, 1) := by decide +kernel
theorem dX5_call_125 : decode cX5_call 125 = .ok (.putfield 70, 3) := by decide +kernel
theorem dX5_call_128 : decode cX5_call 128 = .ok (.aload_n 0, 1) := by decide +kernel
theorem dX5_call_129 : decode cX5_call 129 = .ok (.getfield 70, 3) := by decide +kernel
theorem dX5_call_132 : decode cX5_call 132 = .ok (.ifCond .eq 5, 3) := by decide +kernel
theorem dX5_call_135 : decode cX5_call 135 = .ok (.iconst 0, 1) := by decide +kernel
theorem dX5_call_136 : decode cX5_call 136 = .ok (.ireturn, 1) := by decide +kernel
theorem dX5_call_137 : decode cX5_call 137 = .ok (.aload_n 0, 1) := by decide +kernel
theorem dX5_call_138 : decode cX5_call 138 = .ok (.getfield 19, 3) := by decide +kernel
theorem dX5_call_141 : decode cX5_call 141 = .ok (.bipush 6, 2) := by decide +kernel
theorem dX5_call_143 : decode cX5_call 143 = .ok (.iload 5, 2) := by decide +kernel
theorem dX5_call_145 : decode cX5_call 145 = .ok (.imul, 1) := by decide +kernel
theorem dX5_call_146 : decode cX5_call 146 = .ok (.iload 6, 2) := by decide +kernel
theorem dX5_call_148 : decode cX5_call 148 = .ok (.iadd, 1) := by decide +kernel
theorem dX5_call_149 : decode cX5_call 149 = .ok (.iload_n 2, 1) := by decide +kernel
theorem dX5_call_150 : decode cX5_call 150 = .ok (.iastore, 1) := by decide +kernel
theorem dX5_call_151 : decode cX5_call 151 = .ok (.aload_n 0, 1) := by decide +kernel
theorem dX5_call_152 : decode cX5_call 152 = .ok (.getfield 22, 3) := by decide +kernel
theorem dX5_call_155 : decode cX5_call 155 = .ok (.bipush 6, 2) := by decide +kernel
theorem dX5_call_157 : decode cX5_call 157 = .ok (.iload 5, 2) := by decide +kernel
theorem dX5_call_159 : decode cX5_call 159 = .ok (.imul, 1) := by decide +kernel
theorem dX5_call_160 : decode cX5_call 160 = .ok (.iload 6, 2) := by decide +kernel
theorem dX5_call_162 : decode cX5_call 162 = .ok (.iadd, 1) := by decide +kernel
theorem dX5_call_163 : decode cX5_call 163 = .ok (.iload_n 3, 1) := by decide +kernel
theorem dX5_call_164 : decode cX5_call 164 = .ok (.iastore, 1) := by decide +kernel
theorem dX5_call_165 : decode cX5_call 165 = .ok (.aload_n 0, 1) := by decide +kernel
theorem dX5_call_166 : decode cX5_call 166 = .ok (.getfield 25, 3) := by decide +kernel
theorem dX5_call_169 : decode cX5_call 169 = .ok (.bipush 6, 2) := by decide +kernel
theorem dX5_call_171 : decode cX5_call 171 = .ok (.iload 5, 2) := by decide +kernel
theorem dX5_call_173 : decode cX5_call 173 = .ok (.imul, 1) := by decide +kernel
theorem dX5_call_174 : decode cX5_call 174 = .ok (.iload 6, 2) := by decide +kernel
theorem dX5_call_176 : decode cX5_call 176 = .ok (.iadd, 1) := by decide +kernel
theorem dX5_call_177 : decode cX5_call 177 = .ok (.iload_n 3, 1) := by decide +kernel
theorem dX5_call_178 : decode cX5_call 178 = .ok (.iload 4, 2) := by decide +kernel
theorem dX5_call_180 : decode cX5_call 180 = .ok (.iadd, 1) := by decide +kernel
theorem dX5_call_181 : decode cX5_call 181 = .ok (.iastore, 1) := by decide +kernel
theorem dX5_call_182 : decode cX5_call 182 = .ok (.aload_n 0, 1) := by decide +kernel
theorem dX5_call_183 : decode cX5_call 183 = .ok (.getfield 16, 3) := by decide +kernel
theorem dX5_call_186 : decode cX5_call 186 = .ok (.iload 5, 2) := by decide +kernel
theorem dX5_call_188 : decode cX5_call 188 = .ok (.dup2, 1) := by decide +kernel
theorem dX5_call_189 : decode cX5_call 189 = .ok (.iaload, 1) := by decide +kernel
theorem dX5_call_190 : decode cX5_call 190 = .ok (.iconst 1, 1) := by decide +kernel
theorem dX5_call_191 : decode cX5_call 191 = .ok (.iadd, 1) := by decide +kernel
theorem dX5_call_192 : decode cX5_call 192 = .ok (.iastore, 1) := by decide +kernel
theorem dX5_call_193 : decode cX5_call 193 = .ok (.aload_n 0, 1) := by decide +kernel
theorem dX5_call_194 : decode cX5_call 194 = .ok (.getfield 16, 3) := by decide +kernel
theorem dX5_call_197 : decode cX5_call 197 = .ok (.iload 5, 2) := by decide +kernel
theorem dX5_call_199 : decode cX5_call 199 = .ok (.iaload, 1) := by decide +kernel
theorem dX5_call_200 : decode cX5_call 200 = .ok (.ireturn, 1) := by decide +kernel
set_option maxRecDepth 20000 in
theorem ggX5_tell_X5_isShip : GoodIn wsX5_tell wsX5_isShip := goodIn_r _ [14, 15, 16, 17, 13, 18, 25, 26, 27, 28, 29, 30, 31, 32, 33, 34, 35, 36, 37, 38, 39, 40, 41, 42, 43, 44, 45, 46, 47, 48, 49, 50] (by decide +kernel) (by decide +kernel)
set_option maxRecDepth 20000 in
theorem gX5_tell_X5_isShip : GoodIn wsX5_tell (wsV RX5 81 RX5 yX5_isShip wsX5_isShip) := goodIn_app (goodIn_of _ (by decide +kernel)) ggX5_tell_X5_isShip
set_option maxRecDepth 20000 in
theorem ggX5_tell_X5_isPort : GoodIn wsX5_tell wsX5_isPort := goodIn_r _ [21, 16, 17, 13, 18] (by decide +kernel) (by decide +kernel)
set_option maxRecDepth 20000 in
theorem gX5_tell_X5_isPort : GoodIn wsX5_tell (va_wsS RX5 85 yX5_isPort wsX5_isPort) := goodIn_app (goodIn_of _ (by decide +kernel)) ggX5_tell_X5_isPort
set_option maxRecDepth 20000 in
theorem ggX5_tell_X5_rowOf : GoodIn wsX5_tell wsX5_rowOf := goodIn_r _ [24] (by decide +kernel) (by decide +kernel)
set_option maxRecDepth 20000 in
theorem gX5_tell_X5_rowOf : GoodIn wsX5_tell (va_wsS RX5 88 yX5_rowOf wsX5_rowOf) := goodIn_app (goodIn_of _ (by decide +kernel)) ggX5_tell_X5_rowOf
theorem dX5_tell_0 : decode cX5_tell 0 = .ok (.aload_n 0, 1) := by decide +kernel
theorem dX5_tell_1 : decode cX5_tell 1 = .ok (.aload_n 0, 1) := by decide +kernel
theorem dX5_tell_2 : decode cX5_tell 2 = .ok (.iload_n 1, 1) := by decide +kernel
theorem dX5_tell_3 : decode cX5_tell 3 = .ok (.invokevirtual 81, 3) := by decide +kernel
theorem dX5_tell_6 : decode cX5_tell 6 = .ok (.ifCond .eq 10, 3) := by decide +kernel
theorem dX5_tell_9 : decode cX5_tell 9 = .ok (.iload_n 2, 1) := by decide +kernel
theorem dX5_tell_10 : decode cX5_tell 10 = .ok (.invokestatic 85, 3) := by decide +kernel
theorem dX5_tell_13 : decode cX5_tell 13 = .ok (.ifCond .ne 7, 3) := by decide +kernel
theorem dX5_tell_16 : decode cX5_tell 16 = .ok (.iconst 1, 1) := by decide +kernel
theorem dX5_tell_17 : decode cX5_tell 17 = .ok (.goto 19, 3) := by decide +kernel
theorem dX5_tell_20 : decode cX5_tell 20 = .ok (.aload_n 0, 1) := by decide +kernel
theorem dX5_tell_21 : decode cX5_tell 21 = .ok (.getfield 28, 3) := by decide +kernel
theorem dX5_tell_24 : decode cX5_tell 24 = .ok (.iload_n 1, 1) := by decide +kernel
theorem dX5_tell_25 : decode cX5_tell 25 = .ok (.iaload, 1) := by decide +kernel
theorem dX5_tell_26 : decode cX5_tell 26 = .ok (.bipush 20, 2) := by decide +kernel
theorem dX5_tell_28 : decode cX5_tell 28 = .ok (.if_icmp .ne 7, 3) := by decide +kernel
theorem dX5_tell_31 : decode cX5_tell 31 = .ok (.iconst 2, 1) := by decide +kernel
theorem dX5_tell_32 : decode cX5_tell 32 = .ok (.goto 4, 3) := by decide +kernel
theorem dX5_tell_35 : decode cX5_tell 35 = .ok (.iconst 0, 1) := by decide +kernel
theorem dX5_tell_36 : decode cX5_tell 36 = .ok (.putfield 70, 3) := by decide +kernel
theorem dX5_tell_39 : decode cX5_tell 39 = .ok (.aload_n 0, 1) := by decide +kernel
theorem dX5_tell_40 : decode cX5_tell 40 = .ok (.getfield 70, 3) := by decide +kernel
theorem dX5_tell_43 : decode cX5_tell 43 = .ok (.ifCond .eq 5, 3) := by decide +kernel
theorem dX5_tell_46 : decode cX5_tell 46 = .ok (.iconst 0, 1) := by decide +kernel
theorem dX5_tell_47 : decode cX5_tell 47 = .ok (.ireturn, 1) := by decide +kernel
theorem dX5_tell_48 : decode cX5_tell 48 = .ok (.iload_n 1, 1) := by decide +kernel
theorem dX5_tell_49 : decode cX5_tell 49 = .ok (.aload_n 0, 1) := by decide +kernel
theorem dX5_tell_50 : decode cX5_tell 50 = .ok (.getfield 28, 3) := by decide +kernel
theorem dX5_tell_53 : decode cX5_tell 53 = .ok (.iload_n 1, 1) := by decide +kernel
theorem dX5_tell_54 : decode cX5_tell 54 = .ok (.iaload, 1) := by decide +kernel
theorem dX5_tell_55 : decode cX5_tell 55 = .ok (.invokestatic 88, 3) := by decide +kernel
theorem dX5_tell_58 : decode cX5_tell 58 = .ok (.istore_n 3, 1) := by decide +kernel
theorem dX5_tell_59 : decode cX5_tell 59 = .ok (.iload_n 1, 1) := by decide +kernel
theorem dX5_tell_60 : decode cX5_tell 60 = .ok (.bipush 20, 2) := by decide +kernel
theorem dX5_tell_62 : decode cX5_tell 62 = .ok (.invokestatic 88, 3) := by decide +kernel
theorem dX5_tell_65 : decode cX5_tell 65 = .ok (.istore 4, 2) := by decide +kernel
theorem dX5_tell_67 : decode cX5_tell 67 = .ok (.aload_n 0, 1) := by decide +kernel
theorem dX5_tell_68 : decode cX5_tell 68 = .ok (.getfield 7, 3) := by decide +kernel
theorem dX5_tell_71 : decode cX5_tell 71 = .ok (.iload_n 3, 1) := by decide +kernel
theorem dX5_tell_72 : decode cX5_tell 72 = .ok (.iload_n 2, 1) := by decide +kernel
theorem dX5_tell_73 : decode cX5_tell 73 = .ok (.iastore, 1) := by decide +kernel
theorem dX5_tell_74 : decode cX5_tell 74 = .ok (.aload_n 0, 1) := by decide +kernel
theorem dX5_tell_75 : decode cX5_tell 75 = .ok (.getfield 13, 3) := by decide +kernel
theorem dX5_tell_78 : decode cX5_tell 78 = .ok (.iload_n 3, 1) := by decide +kernel
theorem dX5_tell_79 : decode cX5_tell 79 = .ok (.aload_n 0, 1) := by decide +kernel
theorem dX5_tell_80 : decode cX5_tell 80 = .ok (.getfield 92, 3) := by decide +kernel
theorem dX5_tell_83 : decode cX5_tell 83 = .ok (.iastore, 1) := by decide +kernel
theorem dX5_tell_84 : decode cX5_tell 84 = .ok (.aload_n 0, 1) := by decide +kernel
theorem dX5_tell_85 : decode cX5_tell 85 = .ok (.getfield 16, 3) := by decide +kernel
theorem dX5_tell_88 : decode cX5_tell 88 = .ok (.iload_n 3, 1) := by decide +kernel
theorem dX5_tell_89 : decode cX5_tell 89 = .ok (.aload_n 0, 1) := by decide +kernel
theorem dX5_tell_90 : decode cX5_tell 90 = .ok (.getfield 16, 3) := by decide +kernel
theorem dX5_tell_93 : decode cX5_tell 93 = .ok (.iload 4, 2) := by decide +kernel
theorem dX5_tell_95 : decode cX5_tell 95 = .ok (.iaload, 1) := by decide +kernel
theorem dX5_tell_96 : decode cX5_tell 96 = .ok (.iastore, 1) := by decide +kernel
theorem dX5_tell_97 : decode cX5_tell 97 = .ok (.iconst 0, 1) := by decide +kernel
theorem dX5_tell_98 : decode cX5_tell 98 = .ok (.istore 5, 2) := by decide +kernel
theorem dX5_tell_100 : decode cX5_tell 100 = .ok (.iload 5, 2) := by decide +kernel
theorem dX5_tell_102 : decode cX5_tell 102 = .ok (.aload_n 0, 1) := by decide +kernel
theorem dX5_tell_103 : decode cX5_tell 103 = .ok (.getfield 16, 3) := by decide +kernel
theorem dX5_tell_106 : decode cX5_tell 106 = .ok (.iload 4, 2) := by decide +kernel
theorem dX5_tell_108 : decode cX5_tell 108 = .ok (.iaload, 1) := by decide +kernel
theorem dX5_tell_109 : decode cX5_tell 109 = .ok (.if_icmp .ge 84, 3) := by decide +kernel
theorem dX5_tell_112 : decode cX5_tell 112 = .ok (.aload_n 0, 1) := by decide +kernel
theorem dX5_tell_113 : decode cX5_tell 113 = .ok (.getfield 19, 3) := by decide +kernel
theorem dX5_tell_116 : decode cX5_tell 116 = .ok (.bipush 6, 2) := by decide +kernel
theorem dX5_tell_118 : decode cX5_tell 118 = .ok (.iload_n 3, 1) := by decide +kernel
theorem dX5_tell_119 : decode cX5_tell 119 = .ok (.imul, 1) := by decide +kernel
theorem dX5_tell_120 : decode cX5_tell 120 = .ok (.iload 5, 2) := by decide +kernel
theorem dX5_tell_122 : decode cX5_tell 122 = .ok (.iadd, 1) := by decide +kernel
theorem dX5_tell_123 : decode cX5_tell 123 = .ok (.aload_n 0, 1) := by decide +kernel
theorem dX5_tell_124 : decode cX5_tell 124 = .ok (.getfield 19, 3) := by decide +kernel
theorem dX5_tell_127 : decode cX5_tell 127 = .ok (.bipush 6, 2) := by decide +kernel
theorem dX5_tell_129 : decode cX5_tell 129 = .ok (.iload 4, 2) := by decide +kernel
theorem dX5_tell_131 : decode cX5_tell 131 = .ok (.imul, 1) := by decide +kernel
theorem dX5_tell_132 : decode cX5_tell 132 = .ok (.iload 5, 2) := by decide +kernel
theorem dX5_tell_134 : decode cX5_tell 134 = .ok (.iadd, 1) := by decide +kernel
theorem dX5_tell_135 : decode cX5_tell 135 = .ok (.iaload, 1) := by decide +kernel
theorem dX5_tell_136 : decode cX5_tell 136 = .ok (.iastore, 1) := by decide +kernel
theorem dX5_tell_137 : decode cX5_tell 137 = .ok (.aload_n 0, 1) := by decide +kernel
theorem dX5_tell_138 : decode cX5_tell 138 = .ok (.getfield 22, 3) := by decide +kernel
theorem dX5_tell_141 : decode cX5_tell 141 = .ok (.bipush 6, 2) := by decide +kernel
theorem dX5_tell_143 : decode cX5_tell 143 = .ok (.iload_n 3, 1) := by decide +kernel
theorem dX5_tell_144 : decode cX5_tell 144 = .ok (.imul, 1) := by decide +kernel
theorem dX5_tell_145 : decode cX5_tell 145 = .ok (.iload 5, 2) := by decide +kernel
theorem dX5_tell_147 : decode cX5_tell 147 = .ok (.iadd, 1) := by decide +kernel
theorem dX5_tell_148 : decode cX5_tell 148 = .ok (.aload_n 0, 1) := by decide +kernel
theorem dX5_tell_149 : decode cX5_tell 149 = .ok (.getfield 22, 3) := by decide +kernel
theorem dX5_tell_152 : decode cX5_tell 152 = .ok (.bipush 6, 2) := by decide +kernel
theorem dX5_tell_154 : decode cX5_tell 154 = .ok (.iload 4, 2) := by decide +kernel
theorem dX5_tell_156 : decode cX5_tell 156 = .ok (.imul, 1) := by decide +kernel
theorem dX5_tell_157 : decode cX5_tell 157 = .ok (.iload 5, 2) := by decide +kernel
theorem dX5_tell_159 : decode cX5_tell 159 = .ok (.iadd, 1) := by decide +kernel
theorem dX5_tell_160 : decode cX5_tell 160 = .ok (.iaload, 1) := by decide +kernel
theorem dX5_tell_161 : decode cX5_tell 161 = .ok (.iastore, 1) := by decide +kernel
theorem dX5_tell_162 : decode cX5_tell 162 = .ok (.aload_n 0, 1) := by decide +kernel
theorem dX5_tell_163 : decode cX5_tell 163 = .ok (.getfield 25, 3) := by decide +kernel
theorem dX5_tell_166 : decode cX5_tell 166 = .ok (.bipush 6, 2) := by decide +kernel
theorem dX5_tell_168 : decode cX5_tell 168 = .ok (.iload_n 3, 1) := by decide +kernel
theorem dX5_tell_169 : decode cX5_tell 169 = .ok (.imul, 1) := by decide +kernel
theorem dX5_tell_170 : decode cX5_tell 170 = .ok (.iload 5, 2) := by decide +kernel
theorem dX5_tell_172 : decode cX5_tell 172 = .ok (.iadd, 1) := by decide +kernel
theorem dX5_tell_173 : decode cX5_tell 173 = .ok (.aload_n 0, 1) := by decide +kernel
theorem dX5_tell_174 : decode cX5_tell 174 = .ok (.getfield 25, 3) := by decide +kernel
theorem dX5_tell_177 : decode cX5_tell 177 = .ok (.bipush 6, 2) := by decide +kernel
theorem dX5_tell_179 : decode cX5_tell 179 = .ok (.iload 4, 2) := by decide +kernel
theorem dX5_tell_181 : decode cX5_tell 181 = .ok (.imul, 1) := by decide +kernel
theorem dX5_tell_182 : decode cX5_tell 182 = .ok (.iload 5, 2) := by decide +kernel
theorem dX5_tell_184 : decode cX5_tell 184 = .ok (.iadd, 1) := by decide +kernel
theorem dX5_tell_185 : decode cX5_tell 185 = .ok (.iaload, 1) := by decide +kernel
theorem dX5_tell_186 : decode cX5_tell 186 = .ok (.iastore, 1) := by decide +kernel
theorem dX5_tell_187 : decode cX5_tell 187 = .ok (.iinc 5 1, 3) := by decide +kernel
theorem dX5_tell_190 : decode cX5_tell 190 = .ok (.goto (-90), 3) := by decide +kernel
theorem dX5_tell_193 : decode cX5_tell 193 = .ok (.aload_n 0, 1) := by decide +kernel
theorem dX5_tell_194 : decode cX5_tell 194 = .ok (.getfield 16, 3) := by decide +kernel
theorem dX5_tell_197 : decode cX5_tell 197 = .ok (.iload 4, 2) := by decide +kernel
theorem dX5_tell_199 : decode cX5_tell 199 = .ok (.iconst 0, 1) := by decide +kernel
theorem dX5_tell_200 : decode cX5_tell 200 = .ok (.iastore, 1) := by decide +kernel
theorem dX5_tell_201 : decode cX5_tell 201 = .ok (.aload_n 0, 1) := by decide +kernel
theorem dX5_tell_202 : decode cX5_tell 202 = .ok (.getfield 28, 3) := by decide +kernel
theorem dX5_tell_205 : decode cX5_tell 205 = .ok (.iload_n 1, 1) := by decide +kernel
theorem dX5_tell_206 : decode cX5_tell 206 = .ok (.dup2, 1) := by decide +kernel
theorem dX5_tell_207 : decode cX5_tell 207 = .ok (.iaload, 1) := by decide +kernel
theorem dX5_tell_208 : decode cX5_tell 208 = .ok (.iconst 1, 1) := by decide +kernel
theorem dX5_tell_209 : decode cX5_tell 209 = .ok (.iadd, 1) := by decide +kernel
theorem dX5_tell_210 : decode cX5_tell 210 = .ok (.iastore, 1) := by decide +kernel
theorem dX5_tell_211 : decode cX5_tell 211 = .ok (.aload_n 0, 1) := by decide +kernel
theorem dX5_tell_212 : decode cX5_tell 212 = .ok (.getfield 28, 3) := by decide +kernel
theorem dX5_tell_215 : decode cX5_tell 215 = .ok (.iload_n 1, 1) := by decide +kernel
theorem dX5_tell_216 : decode cX5_tell 216 = .ok (.iaload, 1) := by decide +kernel
theorem dX5_tell_217 : decode cX5_tell 217 = .ok (.iconst 1, 1) := by decide +kernel
theorem dX5_tell_218 : decode cX5_tell 218 = .ok (.isub, 1) := by decide +kernel
theorem dX5_tell_219 : decode cX5_tell 219 = .ok (.ireturn, 1) := by decide +kernel
set_option maxRecDepth 20000 in
theorem ggX5_placeOf_X5_rowOf : GoodIn wsX5_placeOf wsX5_rowOf := goodIn_r _ [10] (by decide +kernel) (by decide +kernel)
set_option maxRecDepth 20000 in
theorem gX5_placeOf_X5_rowOf : GoodIn wsX5_placeOf (va_wsS RX5 88 yX5_rowOf wsX5_rowOf) := goodIn_app (goodIn_of _ (by decide +kernel)) ggX5_placeOf_X5_rowOf
theorem dX5_placeOf_0 : decode cX5_placeOf 0 = .ok (.iconst (-1), 1) := by decide +kernel
theorem dX5_placeOf_1 : decode cX5_placeOf 1 = .ok (.istore_n 2, 1) := by decide +kernel
theorem dX5_placeOf_2 : decode cX5_placeOf 2 = .ok (.aload_n 0, 1) := by decide +kernel
theorem dX5_placeOf_3 : decode cX5_placeOf 3 = .ok (.getfield 28, 3) := by decide +kernel
theorem dX5_placeOf_6 : decode cX5_placeOf 6 = .ok (.iload_n 1, 1) := by decide +kernel
theorem dX5_placeOf_7 : decode cX5_placeOf 7 = .ok (.iaload, 1) := by decide +kernel
theorem dX5_placeOf_8 : decode cX5_placeOf 8 = .ok (.ifCond .le 84, 3) := by decide +kernel
theorem dX5_placeOf_11 : decode cX5_placeOf 11 = .ok (.iload_n 1, 1) := by decide +kernel
theorem dX5_placeOf_12 : decode cX5_placeOf 12 = .ok (.aload_n 0, 1) := by decide +kernel
theorem dX5_placeOf_13 : decode cX5_placeOf 13 = .ok (.getfield 28, 3) := by decide +kernel
theorem dX5_placeOf_16 : decode cX5_placeOf 16 = .ok (.iload_n 1, 1) := by decide +kernel
theorem dX5_placeOf_17 : decode cX5_placeOf 17 = .ok (.iaload, 1) := by decide +kernel
theorem dX5_placeOf_18 : decode cX5_placeOf 18 = .ok (.iconst 1, 1) := by decide +kernel
theorem dX5_placeOf_19 : decode cX5_placeOf 19 = .ok (.isub, 1) := by decide +kernel
theorem dX5_placeOf_20 : decode cX5_placeOf 20 = .ok (.invokestatic 88, 3) := by decide +kernel
theorem dX5_placeOf_23 : decode cX5_placeOf 23 = .ok (.istore_n 3, 1) := by decide +kernel
theorem dX5_placeOf_24 : decode cX5_placeOf 24 = .ok (.bipush 6, 2) := by decide +kernel
theorem dX5_placeOf_26 : decode cX5_placeOf 26 = .ok (.iload_n 3, 1) := by decide +kernel
theorem dX5_placeOf_27 : decode cX5_placeOf 27 = .ok (.imul, 1) := by decide +kernel
theorem dX5_placeOf_28 : decode cX5_placeOf 28 = .ok (.istore 4, 2) := by decide +kernel
theorem dX5_placeOf_30 : decode cX5_placeOf 30 = .ok (.iload 4, 2) := by decide +kernel
theorem dX5_placeOf_32 : decode cX5_placeOf 32 = .ok (.bipush 6, 2) := by decide +kernel
theorem dX5_placeOf_34 : decode cX5_placeOf 34 = .ok (.iload_n 3, 1) := by decide +kernel
theorem dX5_placeOf_35 : decode cX5_placeOf 35 = .ok (.imul, 1) := by decide +kernel
theorem dX5_placeOf_36 : decode cX5_placeOf 36 = .ok (.aload_n 0, 1) := by decide +kernel
theorem dX5_placeOf_37 : decode cX5_placeOf 37 = .ok (.getfield 16, 3) := by decide +kernel
theorem dX5_placeOf_40 : decode cX5_placeOf 40 = .ok (.iload_n 3, 1) := by decide +kernel
theorem dX5_placeOf_41 : decode cX5_placeOf 41 = .ok (.iaload, 1) := by decide +kernel
theorem dX5_placeOf_42 : decode cX5_placeOf 42 = .ok (.iadd, 1) := by decide +kernel
theorem dX5_placeOf_43 : decode cX5_placeOf 43 = .ok (.if_icmp .ge 49, 3) := by decide +kernel
theorem dX5_placeOf_46 : decode cX5_placeOf 46 = .ok (.aload_n 0, 1) := by decide +kernel
theorem dX5_placeOf_47 : decode cX5_placeOf 47 = .ok (.getfield 22, 3) := by decide +kernel
theorem dX5_placeOf_50 : decode cX5_placeOf 50 = .ok (.iload 4, 2) := by decide +kernel
theorem dX5_placeOf_52 : decode cX5_placeOf 52 = .ok (.iaload, 1) := by decide +kernel
theorem dX5_placeOf_53 : decode cX5_placeOf 53 = .ok (.aload_n 0, 1) := by decide +kernel
theorem dX5_placeOf_54 : decode cX5_placeOf 54 = .ok (.getfield 92, 3) := by decide +kernel
theorem dX5_placeOf_57 : decode cX5_placeOf 57 = .ok (.if_icmp .gt 27, 3) := by decide +kernel
theorem dX5_placeOf_60 : decode cX5_placeOf 60 = .ok (.aload_n 0, 1) := by decide +kernel
theorem dX5_placeOf_61 : decode cX5_placeOf 61 = .ok (.getfield 92, 3) := by decide +kernel
theorem dX5_placeOf_64 : decode cX5_placeOf 64 = .ok (.aload_n 0, 1) := by decide +kernel
theorem dX5_placeOf_65 : decode cX5_placeOf 65 = .ok (.getfield 25, 3) := by decide +kernel
theorem dX5_placeOf_68 : decode cX5_placeOf 68 = .ok (.iload 4, 2) := by decide +kernel
theorem dX5_placeOf_70 : decode cX5_placeOf 70 = .ok (.iaload, 1) := by decide +kernel
theorem dX5_placeOf_71 : decode cX5_placeOf 71 = .ok (.if_icmp .gt 13, 3) := by decide +kernel
theorem dX5_placeOf_74 : decode cX5_placeOf 74 = .ok (.aload_n 0, 1) := by decide +kernel
theorem dX5_placeOf_75 : decode cX5_placeOf 75 = .ok (.getfield 19, 3) := by decide +kernel
theorem dX5_placeOf_78 : decode cX5_placeOf 78 = .ok (.iload 4, 2) := by decide +kernel
theorem dX5_placeOf_80 : decode cX5_placeOf 80 = .ok (.iaload, 1) := by decide +kernel
theorem dX5_placeOf_81 : decode cX5_placeOf 81 = .ok (.goto 4, 3) := by decide +kernel
theorem dX5_placeOf_84 : decode cX5_placeOf 84 = .ok (.iload_n 2, 1) := by decide +kernel
theorem dX5_placeOf_85 : decode cX5_placeOf 85 = .ok (.istore_n 2, 1) := by decide +kernel
theorem dX5_placeOf_86 : decode cX5_placeOf 86 = .ok (.iinc 4 1, 3) := by decide +kernel
theorem dX5_placeOf_89 : decode cX5_placeOf 89 = .ok (.goto (-59), 3) := by decide +kernel
theorem dX5_placeOf_92 : decode cX5_placeOf 92 = .ok (.iload_n 2, 1) := by decide +kernel
theorem dX5_placeOf_93 : decode cX5_placeOf 93 = .ok (.ireturn, 1) := by decide +kernel
set_option maxRecDepth 20000 in
theorem ggX5_shipAt_X5_isShip : GoodIn wsX5_shipAt wsX5_isShip := goodIn_r _ [6, 7, 8, 9, 5, 10, 24, 25, 26, 27, 28, 29, 30, 31, 32, 33, 34, 35, 36, 37, 38, 39, 40, 41, 42, 43, 44, 45, 46, 47, 48, 49] (by decide +kernel) (by decide +kernel)
set_option maxRecDepth 20000 in
theorem gX5_shipAt_X5_isShip : GoodIn wsX5_shipAt (wsV RX5 81 RX5 yX5_isShip wsX5_isShip) := goodIn_app (goodIn_of _ (by decide +kernel)) ggX5_shipAt_X5_isShip
set_option maxRecDepth 20000 in
theorem ggX5_shipAt_X5_placeOf : GoodIn wsX5_shipAt wsX5_placeOf := goodIn_r _ [14, 15, 16, 17, 18, 19, 20, 21, 22, 5, 23, 24, 25, 26, 27, 28, 29, 30, 31, 32, 33, 34, 35, 36, 37, 38, 39, 40, 41, 42, 43, 44, 45, 46, 47, 48, 49] (by decide +kernel) (by decide +kernel)
set_option maxRecDepth 20000 in
theorem gX5_shipAt_X5_placeOf : GoodIn wsX5_shipAt (wsV RX5 95 RX5 yX5_placeOf wsX5_placeOf) := goodIn_app (goodIn_of _ (by decide +kernel)) ggX5_shipAt_X5_placeOf
theorem dX5_shipAt_0 : decode cX5_shipAt 0 = .ok (.aload_n 0, 1) := by decide +kernel
