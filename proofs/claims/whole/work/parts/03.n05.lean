theorem dX5_dawns_46 : decode cX5_dawns 46 = .ok (.iload_n 1, 1) := by decide +kernel
theorem dX5_dawns_47 : decode cX5_dawns 47 = .ok (.iaload, 1) := by decide +kernel
theorem dX5_dawns_48 : decode cX5_dawns 48 = .ok (.ifCond .eq 23, 3) := by decide +kernel
theorem dX5_dawns_51 : decode cX5_dawns 51 = .ok (.aload_n 0, 1) := by decide +kernel
theorem dX5_dawns_52 : decode cX5_dawns 52 = .ok (.getfield 40, 3) := by decide +kernel
theorem dX5_dawns_55 : decode cX5_dawns 55 = .ok (.iload_n 1, 1) := by decide +kernel
theorem dX5_dawns_56 : decode cX5_dawns 56 = .ok (.iaload, 1) := by decide +kernel
theorem dX5_dawns_57 : decode cX5_dawns 57 = .ok (.iconst 2, 1) := by decide +kernel
theorem dX5_dawns_58 : decode cX5_dawns 58 = .ok (.if_icmp .eq 13, 3) := by decide +kernel
theorem dX5_dawns_61 : decode cX5_dawns 61 = .ok (.aload_n 0, 1) := by decide +kernel
theorem dX5_dawns_62 : decode cX5_dawns 62 = .ok (.getfield 40, 3) := by decide +kernel
theorem dX5_dawns_65 : decode cX5_dawns 65 = .ok (.iload_n 1, 1) := by decide +kernel
theorem dX5_dawns_66 : decode cX5_dawns 66 = .ok (.iaload, 1) := by decide +kernel
theorem dX5_dawns_67 : decode cX5_dawns 67 = .ok (.iconst 4, 1) := by decide +kernel
theorem dX5_dawns_68 : decode cX5_dawns 68 = .ok (.if_icmp .ne 7, 3) := by decide +kernel
theorem dX5_dawns_71 : decode cX5_dawns 71 = .ok (.iconst 1, 1) := by decide +kernel
theorem dX5_dawns_72 : decode cX5_dawns 72 = .ok (.goto 4, 3) := by decide +kernel
theorem dX5_dawns_75 : decode cX5_dawns 75 = .ok (.iconst 0, 1) := by decide +kernel
theorem dX5_dawns_76 : decode cX5_dawns 76 = .ok (.istore_n 3, 1) := by decide +kernel
theorem dX5_dawns_77 : decode cX5_dawns 77 = .ok (.iload_n 2, 1) := by decide +kernel
theorem dX5_dawns_78 : decode cX5_dawns 78 = .ok (.ifCond .eq 8, 3) := by decide +kernel
theorem dX5_dawns_81 : decode cX5_dawns 81 = .ok (.aload_n 0, 1) := by decide +kernel
theorem dX5_dawns_82 : decode cX5_dawns 82 = .ok (.iload_n 1, 1) := by decide +kernel
theorem dX5_dawns_83 : decode cX5_dawns 83 = .ok (.invokevirtual 143, 3) := by decide +kernel
theorem dX5_dawns_86 : decode cX5_dawns 86 = .ok (.iload_n 2, 1) := by decide +kernel
theorem dX5_dawns_87 : decode cX5_dawns 87 = .ok (.ifCond .ne 7, 3) := by decide +kernel
theorem dX5_dawns_90 : decode cX5_dawns 90 = .ok (.iload_n 3, 1) := by decide +kernel
theorem dX5_dawns_91 : decode cX5_dawns 91 = .ok (.ifCond .eq 27, 3) := by decide +kernel
theorem dX5_dawns_94 : decode cX5_dawns 94 = .ok (.aload_n 0, 1) := by decide +kernel
theorem dX5_dawns_95 : decode cX5_dawns 95 = .ok (.getfield 92, 3) := by decide +kernel
theorem dX5_dawns_98 : decode cX5_dawns 98 = .ok (.aload_n 0, 1) := by decide +kernel
theorem dX5_dawns_99 : decode cX5_dawns 99 = .ok (.getfield 37, 3) := by decide +kernel
theorem dX5_dawns_102 : decode cX5_dawns 102 = .ok (.iload_n 1, 1) := by decide +kernel
theorem dX5_dawns_103 : decode cX5_dawns 103 = .ok (.iaload, 1) := by decide +kernel
theorem dX5_dawns_104 : decode cX5_dawns 104 = .ok (.isub, 1) := by decide +kernel
theorem dX5_dawns_105 : decode cX5_dawns 105 = .ok (.bipush 60, 2) := by decide +kernel
theorem dX5_dawns_107 : decode cX5_dawns 107 = .ok (.if_icmp .lt 11, 3) := by decide +kernel
theorem dX5_dawns_110 : decode cX5_dawns 110 = .ok (.aload_n 0, 1) := by decide +kernel
theorem dX5_dawns_111 : decode cX5_dawns 111 = .ok (.iload_n 1, 1) := by decide +kernel
theorem dX5_dawns_112 : decode cX5_dawns 112 = .ok (.invokevirtual 115, 3) := by decide +kernel
theorem dX5_dawns_115 : decode cX5_dawns 115 = .ok (.goto 16, 3) := by decide +kernel
theorem dX5_dawns_118 : decode cX5_dawns 118 = .ok (.iload_n 2, 1) := by decide +kernel
theorem dX5_dawns_119 : decode cX5_dawns 119 = .ok (.ifCond .ne 7, 3) := by decide +kernel
theorem dX5_dawns_122 : decode cX5_dawns 122 = .ok (.iload_n 3, 1) := by decide +kernel
theorem dX5_dawns_123 : decode cX5_dawns 123 = .ok (.ifCond .eq 8, 3) := by decide +kernel
theorem dX5_dawns_126 : decode cX5_dawns 126 = .ok (.aload_n 0, 1) := by decide +kernel
theorem dX5_dawns_127 : decode cX5_dawns 127 = .ok (.iload_n 1, 1) := by decide +kernel
theorem dX5_dawns_128 : decode cX5_dawns 128 = .ok (.invokevirtual 146, 3) := by decide +kernel
theorem dX5_dawns_131 : decode cX5_dawns 131 = .ok (.return_, 1) := by decide +kernel
set_option maxRecDepth 20000 in
theorem ggX5_office_X5_writes : GoodIn wsX5_office wsX5_writes := goodIn_r _ [9, 10, 11, 12, 13, 14, 15, 16, 17, 18, 19, 20, 21, 22, 23, 24, 25, 26, 27, 28, 29, 30, 31, 32, 33, 34, 35, 36, 37] (by decide +kernel) (by decide +kernel)
set_option maxRecDepth 20000 in
theorem gX5_office_X5_writes : GoodIn wsX5_office (wsV RX5 105 RX5 yX5_writes wsX5_writes) := goodIn_app (goodIn_of _ (by decide +kernel)) ggX5_office_X5_writes
theorem dX5_office_0 : decode cX5_office 0 = .ok (.iconst 0, 1) := by decide +kernel
theorem dX5_office_1 : decode cX5_office 1 = .ok (.istore_n 1, 1) := by decide +kernel
theorem dX5_office_2 : decode cX5_office 2 = .ok (.iload_n 1, 1) := by decide +kernel
theorem dX5_office_3 : decode cX5_office 3 = .ok (.aload_n 0, 1) := by decide +kernel
theorem dX5_office_4 : decode cX5_office 4 = .ok (.getfield 112, 3) := by decide +kernel
theorem dX5_office_7 : decode cX5_office 7 = .ok (.if_icmp .ge 73, 3) := by decide +kernel
theorem dX5_office_10 : decode cX5_office 10 = .ok (.aload_n 0, 1) := by decide +kernel
theorem dX5_office_11 : decode cX5_office 11 = .ok (.getfield 61, 3) := by decide +kernel
theorem dX5_office_14 : decode cX5_office 14 = .ok (.iload_n 1, 1) := by decide +kernel
theorem dX5_office_15 : decode cX5_office 15 = .ok (.iaload, 1) := by decide +kernel
theorem dX5_office_16 : decode cX5_office 16 = .ok (.istore_n 2, 1) := by decide +kernel
theorem dX5_office_17 : decode cX5_office 17 = .ok (.aload_n 0, 1) := by decide +kernel
theorem dX5_office_18 : decode cX5_office 18 = .ok (.getfield 34, 3) := by decide +kernel
theorem dX5_office_21 : decode cX5_office 21 = .ok (.iload_n 2, 1) := by decide +kernel
theorem dX5_office_22 : decode cX5_office 22 = .ok (.iaload, 1) := by decide +kernel
theorem dX5_office_23 : decode cX5_office 23 = .ok (.iconst (-1), 1) := by decide +kernel
theorem dX5_office_24 : decode cX5_office 24 = .ok (.if_icmp .ne 21, 3) := by decide +kernel
theorem dX5_office_27 : decode cX5_office 27 = .ok (.aload_n 0, 1) := by decide +kernel
theorem dX5_office_28 : decode cX5_office 28 = .ok (.getfield 40, 3) := by decide +kernel
theorem dX5_office_31 : decode cX5_office 31 = .ok (.iload_n 2, 1) := by decide +kernel
theorem dX5_office_32 : decode cX5_office 32 = .ok (.bipush 7, 2) := by decide +kernel
theorem dX5_office_34 : decode cX5_office 34 = .ok (.iastore, 1) := by decide +kernel
theorem dX5_office_35 : decode cX5_office 35 = .ok (.aload_n 0, 1) := by decide +kernel
theorem dX5_office_36 : decode cX5_office 36 = .ok (.iload_n 2, 1) := by decide +kernel
theorem dX5_office_37 : decode cX5_office 37 = .ok (.bipush 42, 2) := by decide +kernel
theorem dX5_office_39 : decode cX5_office 39 = .ok (.invokevirtual 105, 3) := by decide +kernel
theorem dX5_office_42 : decode cX5_office 42 = .ok (.goto 32, 3) := by decide +kernel
theorem dX5_office_45 : decode cX5_office 45 = .ok (.aload_n 0, 1) := by decide +kernel
theorem dX5_office_46 : decode cX5_office 46 = .ok (.getfield 40, 3) := by decide +kernel
theorem dX5_office_49 : decode cX5_office 49 = .ok (.iload_n 2, 1) := by decide +kernel
theorem dX5_office_50 : decode cX5_office 50 = .ok (.bipush 6, 2) := by decide +kernel
theorem dX5_office_52 : decode cX5_office 52 = .ok (.iastore, 1) := by decide +kernel
theorem dX5_office_53 : decode cX5_office 53 = .ok (.aload_n 0, 1) := by decide +kernel
theorem dX5_office_54 : decode cX5_office 54 = .ok (.iload_n 2, 1) := by decide +kernel
theorem dX5_office_55 : decode cX5_office 55 = .ok (.bipush 60, 2) := by decide +kernel
theorem dX5_office_57 : decode cX5_office 57 = .ok (.invokevirtual 105, 3) := by decide +kernel
theorem dX5_office_60 : decode cX5_office 60 = .ok (.aload_n 0, 1) := by decide +kernel
theorem dX5_office_61 : decode cX5_office 61 = .ok (.iload_n 2, 1) := by decide +kernel
theorem dX5_office_62 : decode cX5_office 62 = .ok (.bipush 65, 2) := by decide +kernel
theorem dX5_office_64 : decode cX5_office 64 = .ok (.aload_n 0, 1) := by decide +kernel
theorem dX5_office_65 : decode cX5_office 65 = .ok (.getfield 34, 3) := by decide +kernel
theorem dX5_office_68 : decode cX5_office 68 = .ok (.iload_n 2, 1) := by decide +kernel
theorem dX5_office_69 : decode cX5_office 69 = .ok (.iaload, 1) := by decide +kernel
theorem dX5_office_70 : decode cX5_office 70 = .ok (.iadd, 1) := by decide +kernel
theorem dX5_office_71 : decode cX5_office 71 = .ok (.invokevirtual 105, 3) := by decide +kernel
theorem dX5_office_74 : decode cX5_office 74 = .ok (.iinc 1 1, 3) := by decide +kernel
theorem dX5_office_77 : decode cX5_office 77 = .ok (.goto (-75), 3) := by decide +kernel
theorem dX5_office_80 : decode cX5_office 80 = .ok (.aload_n 0, 1) := by decide +kernel
theorem dX5_office_81 : decode cX5_office 81 = .ok (.iconst 0, 1) := by decide +kernel
theorem dX5_office_82 : decode cX5_office 82 = .ok (.putfield 112, 3) := by decide +kernel
theorem dX5_office_85 : decode cX5_office 85 = .ok (.return_, 1) := by decide +kernel
set_option maxRecDepth 20000 in
theorem ggX5_pass_X5_in : GoodIn wsX5_pass wsX5_in := goodIn_r _ [8] (by decide +kernel) (by decide +kernel)
set_option maxRecDepth 20000 in
theorem gX5_pass_X5_in : GoodIn wsX5_pass (va_wsS RX5 74 yX5_in wsX5_in) := goodIn_app (goodIn_of _ (by decide +kernel)) ggX5_pass_X5_in
set_option maxRecDepth 20000 in
theorem ggX5_pass_X5_dawns : GoodIn wsX5_pass wsX5_dawns := goodIn_r _ [12, 13, 14, 1, 15, 16, 17, 18, 19, 7, 20, 21, 22, 23, 24, 25, 26, 27, 28, 29, 30, 31, 32, 33, 34, 35, 36, 37, 38, 39, 40, 41, 42, 43, 44, 45, 46, 3, 47, 48, 49, 50, 51, 52, 53, 54, 55, 56, 57, 58, 59, 60, 61, 62, 63, 64, 65, 66, 67, 68, 69, 70, 71, 72, 73, 74, 75, 76, 77, 78, 79, 80, 81, 82, 83, 84, 85, 86, 87, 93, 94, 95, 96, 97, 98, 99, 100, 101, 102, 103, 104, 105, 106, 107, 108, 109, 110, 111, 112, 113, 114, 115, 116, 117, 118] (by decide +kernel) (by decide +kernel)
set_option maxRecDepth 20000 in
theorem gX5_pass_X5_dawns : GoodIn wsX5_pass (wsV RX5 149 RX5 yX5_dawns wsX5_dawns) := goodIn_app (goodIn_of _ (by decide +kernel)) ggX5_pass_X5_dawns
set_option maxRecDepth 20000 in
theorem ggX5_pass_X5_office : GoodIn wsX5_pass wsX5_office := goodIn_r _ [91, 37, 36, 92, 13, 26, 27, 28, 7, 29, 30, 31, 93, 94, 95, 96, 97, 98, 99, 100, 101, 102, 103, 104, 105, 106, 107, 108, 109, 110, 111, 112, 113, 114, 115, 116, 117, 118] (by decide +kernel) (by decide +kernel)
set_option maxRecDepth 20000 in
theorem gX5_pass_X5_office : GoodIn wsX5_pass (wsV RX5 152 RX5 yX5_office wsX5_office) := goodIn_app (goodIn_of _ (by decide +kernel)) ggX5_pass_X5_office
theorem dX5_pass_0 : decode cX5_pass 0 = .ok (.aload_n 0, 1) := by decide +kernel
theorem dX5_pass_1 : decode cX5_pass 1 = .ok (.iload_n 1, 1) := by decide +kernel
theorem dX5_pass_2 : decode cX5_pass 2 = .ok (.iconst 1, 1) := by decide +kernel
theorem dX5_pass_3 : decode cX5_pass 3 = .ok (.bipush 60, 2) := by decide +kernel
theorem dX5_pass_5 : decode cX5_pass 5 = .ok (.invokestatic 74, 3) := by decide +kernel
theorem dX5_pass_8 : decode cX5_pass 8 = .ok (.ifCond .ne 7, 3) := by decide +kernel
theorem dX5_pass_11 : decode cX5_pass 11 = .ok (.iconst 1, 1) := by decide +kernel
theorem dX5_pass_12 : decode cX5_pass 12 = .ok (.goto 20, 3) := by decide +kernel
theorem dX5_pass_15 : decode cX5_pass 15 = .ok (.aload_n 0, 1) := by decide +kernel
theorem dX5_pass_16 : decode cX5_pass 16 = .ok (.getfield 92, 3) := by decide +kernel
theorem dX5_pass_19 : decode cX5_pass 19 = .ok (.iload_n 1, 1) := by decide +kernel
theorem dX5_pass_20 : decode cX5_pass 20 = .ok (.iadd, 1) := by decide +kernel
theorem dX5_pass_21 : decode cX5_pass 21 = .ok (.sipush 1000, 3) := by decide +kernel
theorem dX5_pass_24 : decode cX5_pass 24 = .ok (.if_icmp .le 7, 3) := by decide +kernel
theorem dX5_pass_27 : decode cX5_pass 27 = .ok (.iconst 2, 1) := by decide +kernel
theorem dX5_pass_28 : decode cX5_pass 28 = .ok (.goto 4, 3) := by decide +kernel
theorem dX5_pass_31 : decode cX5_pass 31 = .ok (.iconst 0, 1) := by decide +kernel
theorem dX5_pass_32 : decode cX5_pass 32 = .ok (.putfield 70, 3) := by decide +kernel
theorem dX5_pass_35 : decode cX5_pass 35 = .ok (.aload_n 0, 1) := by decide +kernel
theorem dX5_pass_36 : decode cX5_pass 36 = .ok (.getfield 70, 3) := by decide +kernel
theorem dX5_pass_39 : decode cX5_pass 39 = .ok (.ifCond .eq 5, 3) := by decide +kernel
theorem dX5_pass_42 : decode cX5_pass 42 = .ok (.iconst 0, 1) := by decide +kernel
theorem dX5_pass_43 : decode cX5_pass 43 = .ok (.ireturn, 1) := by decide +kernel
theorem dX5_pass_44 : decode cX5_pass 44 = .ok (.aload_n 0, 1) := by decide +kernel
theorem dX5_pass_45 : decode cX5_pass 45 = .ok (.getfield 127, 3) := by decide +kernel
theorem dX5_pass_48 : decode cX5_pass 48 = .ok (.istore_n 2, 1) := by decide +kernel
theorem dX5_pass_49 : decode cX5_pass 49 = .ok (.iconst 0, 1) := by decide +kernel
theorem dX5_pass_50 : decode cX5_pass 50 = .ok (.istore_n 3, 1) := by decide +kernel
theorem dX5_pass_51 : decode cX5_pass 51 = .ok (.iload_n 3, 1) := by decide +kernel
theorem dX5_pass_52 : decode cX5_pass 52 = .ok (.iload_n 1, 1) := by decide +kernel
theorem dX5_pass_53 : decode cX5_pass 53 = .ok (.if_icmp .ge 57, 3) := by decide +kernel
theorem dX5_pass_56 : decode cX5_pass 56 = .ok (.aload_n 0, 1) := by decide +kernel
theorem dX5_pass_57 : decode cX5_pass 57 = .ok (.dup, 1) := by decide +kernel
theorem dX5_pass_58 : decode cX5_pass 58 = .ok (.getfield 92, 3) := by decide +kernel
theorem dX5_pass_61 : decode cX5_pass 61 = .ok (.iconst 1, 1) := by decide +kernel
theorem dX5_pass_62 : decode cX5_pass 62 = .ok (.iadd, 1) := by decide +kernel
theorem dX5_pass_63 : decode cX5_pass 63 = .ok (.putfield 92, 3) := by decide +kernel
theorem dX5_pass_66 : decode cX5_pass 66 = .ok (.iconst 0, 1) := by decide +kernel
theorem dX5_pass_67 : decode cX5_pass 67 = .ok (.istore 4, 2) := by decide +kernel
theorem dX5_pass_69 : decode cX5_pass 69 = .ok (.iload 4, 2) := by decide +kernel
theorem dX5_pass_71 : decode cX5_pass 71 = .ok (.aload_n 0, 1) := by decide +kernel
theorem dX5_pass_72 : decode cX5_pass 72 = .ok (.getfield 140, 3) := by decide +kernel
theorem dX5_pass_75 : decode cX5_pass 75 = .ok (.if_icmp .ge 15, 3) := by decide +kernel
theorem dX5_pass_78 : decode cX5_pass 78 = .ok (.aload_n 0, 1) := by decide +kernel
theorem dX5_pass_79 : decode cX5_pass 79 = .ok (.iload 4, 2) := by decide +kernel
theorem dX5_pass_81 : decode cX5_pass 81 = .ok (.invokevirtual 149, 3) := by decide +kernel
theorem dX5_pass_84 : decode cX5_pass 84 = .ok (.iinc 4 1, 3) := by decide +kernel
theorem dX5_pass_87 : decode cX5_pass 87 = .ok (.goto (-18), 3) := by decide +kernel
theorem dX5_pass_90 : decode cX5_pass 90 = .ok (.aload_n 0, 1) := by decide +kernel
theorem dX5_pass_91 : decode cX5_pass 91 = .ok (.getfield 92, 3) := by decide +kernel
theorem dX5_pass_94 : decode cX5_pass 94 = .ok (.bipush 10, 2) := by decide +kernel
theorem dX5_pass_96 : decode cX5_pass 96 = .ok (.irem, 1) := by decide +kernel
theorem dX5_pass_97 : decode cX5_pass 97 = .ok (.ifCond .ne 7, 3) := by decide +kernel
theorem dX5_pass_100 : decode cX5_pass 100 = .ok (.aload_n 0, 1) := by decide +kernel
theorem dX5_pass_101 : decode cX5_pass 101 = .ok (.invokevirtual 152, 3) := by decide +kernel
theorem dX5_pass_104 : decode cX5_pass 104 = .ok (.iinc 3 1, 3) := by decide +kernel
theorem dX5_pass_107 : decode cX5_pass 107 = .ok (.goto (-56), 3) := by decide +kernel
theorem dX5_pass_110 : decode cX5_pass 110 = .ok (.aload_n 0, 1) := by decide +kernel
theorem dX5_pass_111 : decode cX5_pass 111 = .ok (.getfield 127, 3) := by decide +kernel
theorem dX5_pass_114 : decode cX5_pass 114 = .ok (.iload_n 2, 1) := by decide +kernel
theorem dX5_pass_115 : decode cX5_pass 115 = .ok (.isub, 1) := by decide +kernel
theorem dX5_pass_116 : decode cX5_pass 116 = .ok (.ireturn, 1) := by decide +kernel
theorem dX5_today_0 : decode cX5_today 0 = .ok (.aload_n 0, 1) := by decide +kernel
theorem dX5_today_1 : decode cX5_today 1 = .ok (.iconst 0, 1) := by decide +kernel
theorem dX5_today_2 : decode cX5_today 2 = .ok (.putfield 70, 3) := by decide +kernel
theorem dX5_today_5 : decode cX5_today 5 = .ok (.aload_n 0, 1) := by decide +kernel
theorem dX5_today_6 : decode cX5_today 6 = .ok (.getfield 92, 3) := by decide +kernel
theorem dX5_today_9 : decode cX5_today 9 = .ok (.ireturn, 1) := by decide +kernel
set_option maxRecDepth 20000 in
theorem ggX5_isLetter_X5_in : GoodIn wsX5_isLetter wsX5_in := goodIn_r _ [6] (by decide +kernel) (by decide +kernel)
set_option maxRecDepth 20000 in
theorem gX5_isLetter_X5_in : GoodIn wsX5_isLetter (va_wsS RX5 74 yX5_in wsX5_in) := goodIn_app (goodIn_of _ (by decide +kernel)) ggX5_isLetter_X5_in
theorem dX5_isLetter_0 : decode cX5_isLetter 0 = .ok (.aload_n 0, 1) := by decide +kernel
theorem dX5_isLetter_1 : decode cX5_isLetter 1 = .ok (.iload_n 1, 1) := by decide +kernel
theorem dX5_isLetter_2 : decode cX5_isLetter 2 = .ok (.iconst 0, 1) := by decide +kernel
theorem dX5_isLetter_3 : decode cX5_isLetter 3 = .ok (.aload_n 0, 1) := by decide +kernel
theorem dX5_isLetter_4 : decode cX5_isLetter 4 = .ok (.getfield 140, 3) := by decide +kernel
theorem dX5_isLetter_7 : decode cX5_isLetter 7 = .ok (.iconst 1, 1) := by decide +kernel
theorem dX5_isLetter_8 : decode cX5_isLetter 8 = .ok (.isub, 1) := by decide +kernel
theorem dX5_isLetter_9 : decode cX5_isLetter 9 = .ok (.invokestatic 74, 3) := by decide +kernel
theorem dX5_isLetter_12 : decode cX5_isLetter 12 = .ok (.ifCond .eq 7, 3) := by decide +kernel
theorem dX5_isLetter_15 : decode cX5_isLetter 15 = .ok (.iconst 0, 1) := by decide +kernel
theorem dX5_isLetter_16 : decode cX5_isLetter 16 = .ok (.goto 4, 3) := by decide +kernel
theorem dX5_isLetter_19 : decode cX5_isLetter 19 = .ok (.iconst 1, 1) := by decide +kernel
theorem dX5_isLetter_20 : decode cX5_isLetter 20 = .ok (.putfield 70, 3) := by decide +kernel
theorem dX5_isLetter_23 : decode cX5_isLetter 23 = .ok (.aload_n 0, 1) := by decide +kernel
theorem dX5_isLetter_24 : decode cX5_isLetter 24 = .ok (.getfield 70, 3) := by decide +kernel
theorem dX5_isLetter_27 : decode cX5_isLetter 27 = .ok (.ifCond .ne 7, 3) := by decide +kernel
theorem dX5_isLetter_30 : decode cX5_isLetter 30 = .ok (.iconst 1, 1) := by decide +kernel
theorem dX5_isLetter_31 : decode cX5_isLetter 31 = .ok (.goto 4, 3) := by decide +kernel
theorem dX5_isLetter_34 : decode cX5_isLetter 34 = .ok (.iconst 0, 1) := by decide +kernel
theorem dX5_isLetter_35 : decode cX5_isLetter 35 = .ok (.ireturn, 1) := by decide +kernel
theorem dX5_letters_0 : decode cX5_letters 0 = .ok (.aload_n 0, 1) := by decide +kernel
theorem dX5_letters_1 : decode cX5_letters 1 = .ok (.iconst 0, 1) := by decide +kernel
theorem dX5_letters_2 : decode cX5_letters 2 = .ok (.putfield 70, 3) := by decide +kernel
theorem dX5_letters_5 : decode cX5_letters 5 = .ok (.aload_n 0, 1) := by decide +kernel
theorem dX5_letters_6 : decode cX5_letters 6 = .ok (.getfield 140, 3) := by decide +kernel
theorem dX5_letters_9 : decode cX5_letters 9 = .ok (.ireturn, 1) := by decide +kernel
set_option maxRecDepth 20000 in
theorem ggX5_state_X5_isLetter : GoodIn wsX5_state wsX5_isLetter := goodIn_r _ [6, 7, 8, 9, 10, 5, 11, 12, 13, 14, 15, 16, 17, 18, 19, 20, 21, 22, 23, 24, 25, 26, 27, 28, 29, 30, 31, 32, 33, 34, 35, 36, 37] (by decide +kernel) (by decide +kernel)
set_option maxRecDepth 20000 in
theorem gX5_state_X5_isLetter : GoodIn wsX5_state (wsV RX5 155 RX5 yX5_isLetter wsX5_isLetter) := goodIn_app (goodIn_of _ (by decide +kernel)) ggX5_state_X5_isLetter
theorem dX5_state_0 : decode cX5_state 0 = .ok (.aload_n 0, 1) := by decide +kernel
theorem dX5_state_1 : decode cX5_state 1 = .ok (.iload_n 1, 1) := by decide +kernel
theorem dX5_state_2 : decode cX5_state 2 = .ok (.invokevirtual 155, 3) := by decide +kernel
theorem dX5_state_5 : decode cX5_state 5 = .ok (.ifCond .eq 12, 3) := by decide +kernel
theorem dX5_state_8 : decode cX5_state 8 = .ok (.aload_n 0, 1) := by decide +kernel
theorem dX5_state_9 : decode cX5_state 9 = .ok (.getfield 40, 3) := by decide +kernel
theorem dX5_state_12 : decode cX5_state 12 = .ok (.iload_n 1, 1) := by decide +kernel
theorem dX5_state_13 : decode cX5_state 13 = .ok (.iaload, 1) := by decide +kernel
theorem dX5_state_14 : decode cX5_state 14 = .ok (.goto 4, 3) := by decide +kernel
theorem dX5_state_17 : decode cX5_state 17 = .ok (.iconst 0, 1) := by decide +kernel
theorem dX5_state_18 : decode cX5_state 18 = .ok (.ireturn, 1) := by decide +kernel
set_option maxRecDepth 20000 in
theorem ggX5_where_X5_isLetter : GoodIn wsX5_where wsX5_isLetter := goodIn_r _ [8, 9, 10, 11, 12, 7, 13, 14, 15, 16, 17, 18, 19, 20, 21, 22, 23, 24, 25, 26, 27, 28, 29, 30, 31, 32, 33, 34, 35, 36, 37, 38, 39] (by decide +kernel) (by decide +kernel)
set_option maxRecDepth 20000 in
theorem gX5_where_X5_isLetter : GoodIn wsX5_where (wsV RX5 155 RX5 yX5_isLetter wsX5_isLetter) := goodIn_app (goodIn_of _ (by decide +kernel)) ggX5_where_X5_isLetter
theorem dX5_where_0 : decode cX5_where 0 = .ok (.aload_n 0, 1) := by decide +kernel
theorem dX5_where_1 : decode cX5_where 1 = .ok (.iload_n 1, 1) := by decide +kernel
theorem dX5_where_2 : decode cX5_where 2 = .ok (.invokevirtual 155, 3) := by decide +kernel
theorem dX5_where_5 : decode cX5_where 5 = .ok (.ifCond .ne 5, 3) := by decide +kernel
theorem dX5_where_8 : decode cX5_where 8 = .ok (.iconst 0, 1) := by decide +kernel
theorem dX5_where_9 : decode cX5_where 9 = .ok (.ireturn, 1) := by decide +kernel
theorem dX5_where_10 : decode cX5_where 10 = .ok (.aload_n 0, 1) := by decide +kernel
theorem dX5_where_11 : decode cX5_where 11 = .ok (.getfield 40, 3) := by decide +kernel
theorem dX5_where_14 : decode cX5_where 14 = .ok (.iload_n 1, 1) := by decide +kernel
theorem dX5_where_15 : decode cX5_where 15 = .ok (.iaload, 1) := by decide +kernel
theorem dX5_where_16 : decode cX5_where 16 = .ok (.tableswitch 60 1 7 #[47, 60, 44, 60, 50, 53, 50], 44) := by decide +kernel
theorem dX5_where_60 : decode cX5_where 60 = .ok (.bipush (-2), 2) := by decide +kernel
theorem dX5_where_62 : decode cX5_where 62 = .ok (.ireturn, 1) := by decide +kernel
theorem dX5_where_63 : decode cX5_where 63 = .ok (.bipush (-3), 2) := by decide +kernel
theorem dX5_where_65 : decode cX5_where 65 = .ok (.ireturn, 1) := by decide +kernel
theorem dX5_where_66 : decode cX5_where 66 = .ok (.bipush (-4), 2) := by decide +kernel
theorem dX5_where_68 : decode cX5_where 68 = .ok (.ireturn, 1) := by decide +kernel
theorem dX5_where_69 : decode cX5_where 69 = .ok (.aload_n 0, 1) := by decide +kernel
theorem dX5_where_70 : decode cX5_where 70 = .ok (.getfield 34, 3) := by decide +kernel
theorem dX5_where_73 : decode cX5_where 73 = .ok (.iload_n 1, 1) := by decide +kernel
theorem dX5_where_74 : decode cX5_where 74 = .ok (.iaload, 1) := by decide +kernel
theorem dX5_where_75 : decode cX5_where 75 = .ok (.ireturn, 1) := by decide +kernel
theorem dX5_where_76 : decode cX5_where 76 = .ok (.aload_n 0, 1) := by decide +kernel
theorem dX5_where_77 : decode cX5_where 77 = .ok (.getfield 43, 3) := by decide +kernel
theorem dX5_where_80 : decode cX5_where 80 = .ok (.iload_n 1, 1) := by decide +kernel
theorem dX5_where_81 : decode cX5_where 81 = .ok (.iaload, 1) := by decide +kernel
theorem dX5_where_82 : decode cX5_where 82 = .ok (.ireturn, 1) := by decide +kernel
set_option maxRecDepth 20000 in
theorem ggX5_whereByMarks_X5_isLetter : GoodIn wsX5_whereByMarks wsX5_isLetter := goodIn_r _ [7, 8, 9, 10, 11, 6, 12, 16, 17, 18, 19, 20, 21, 22, 23, 24, 25, 26, 27, 28, 29, 30, 31, 32, 33, 34, 35, 36, 37, 38, 39, 40, 41] (by decide +kernel) (by decide +kernel)
set_option maxRecDepth 20000 in
theorem gX5_whereByMarks_X5_isLetter : GoodIn wsX5_whereByMarks (wsV RX5 155 RX5 yX5_isLetter wsX5_isLetter) := goodIn_app (goodIn_of _ (by decide +kernel)) ggX5_whereByMarks_X5_isLetter
set_option maxRecDepth 20000 in
theorem ggX5_whereByMarks_X5_isPortMark : GoodIn wsX5_whereByMarks wsX5_isPortMark := goodIn_r _ [15] (by decide +kernel) (by decide +kernel)
set_option maxRecDepth 20000 in
theorem gX5_whereByMarks_X5_isPortMark : GoodIn wsX5_whereByMarks (va_wsS RX5 109 yX5_isPortMark wsX5_isPortMark) := goodIn_app (goodIn_of _ (by decide +kernel)) ggX5_whereByMarks_X5_isPortMark
theorem dX5_whereByMarks_0 : decode cX5_whereByMarks 0 = .ok (.aload_n 0, 1) := by decide +kernel
theorem dX5_whereByMarks_1 : decode cX5_whereByMarks 1 = .ok (.iload_n 1, 1) := by decide +kernel
theorem dX5_whereByMarks_2 : decode cX5_whereByMarks 2 = .ok (.invokevirtual 155, 3) := by decide +kernel
theorem dX5_whereByMarks_5 : decode cX5_whereByMarks 5 = .ok (.ifCond .ne 5, 3) := by decide +kernel
theorem dX5_whereByMarks_8 : decode cX5_whereByMarks 8 = .ok (.iconst 0, 1) := by decide +kernel
theorem dX5_whereByMarks_9 : decode cX5_whereByMarks 9 = .ok (.ireturn, 1) := by decide +kernel
theorem dX5_whereByMarks_10 : decode cX5_whereByMarks 10 = .ok (.sipush 200, 3) := by decide +kernel
theorem dX5_whereByMarks_13 : decode cX5_whereByMarks 13 = .ok (.iload_n 1, 1) := by decide +kernel
theorem dX5_whereByMarks_14 : decode cX5_whereByMarks 14 = .ok (.imul, 1) := by decide +kernel
theorem dX5_whereByMarks_15 : decode cX5_whereByMarks 15 = .ok (.aload_n 0, 1) := by decide +kernel
theorem dX5_whereByMarks_16 : decode cX5_whereByMarks 16 = .ok (.getfield 58, 3) := by decide +kernel
theorem dX5_whereByMarks_19 : decode cX5_whereByMarks 19 = .ok (.iload_n 1, 1) := by decide +kernel
theorem dX5_whereByMarks_20 : decode cX5_whereByMarks 20 = .ok (.iaload, 1) := by decide +kernel
theorem dX5_whereByMarks_21 : decode cX5_whereByMarks 21 = .ok (.iadd, 1) := by decide +kernel
theorem dX5_whereByMarks_22 : decode cX5_whereByMarks 22 = .ok (.iconst 1, 1) := by decide +kernel
theorem dX5_whereByMarks_23 : decode cX5_whereByMarks 23 = .ok (.isub, 1) := by decide +kernel
theorem dX5_whereByMarks_24 : decode cX5_whereByMarks 24 = .ok (.istore_n 2, 1) := by decide +kernel
theorem dX5_whereByMarks_25 : decode cX5_whereByMarks 25 = .ok (.aload_n 0, 1) := by decide +kernel
theorem dX5_whereByMarks_26 : decode cX5_whereByMarks 26 = .ok (.getfield 55, 3) := by decide +kernel
theorem dX5_whereByMarks_29 : decode cX5_whereByMarks 29 = .ok (.iload_n 2, 1) := by decide +kernel
theorem dX5_whereByMarks_30 : decode cX5_whereByMarks 30 = .ok (.iaload, 1) := by decide +kernel
theorem dX5_whereByMarks_31 : decode cX5_whereByMarks 31 = .ok (.istore_n 3, 1) := by decide +kernel
theorem dX5_whereByMarks_32 : decode cX5_whereByMarks 32 = .ok (.iload_n 2, 1) := by decide +kernel
theorem dX5_whereByMarks_33 : decode cX5_whereByMarks 33 = .ok (.istore 4, 2) := by decide +kernel
theorem dX5_whereByMarks_35 : decode cX5_whereByMarks 35 = .ok (.aload_n 0, 1) := by decide +kernel
theorem dX5_whereByMarks_36 : decode cX5_whereByMarks 36 = .ok (.getfield 55, 3) := by decide +kernel
theorem dX5_whereByMarks_39 : decode cX5_whereByMarks 39 = .ok (.iload 4, 2) := by decide +kernel
theorem dX5_whereByMarks_41 : decode cX5_whereByMarks 41 = .ok (.iaload, 1) := by decide +kernel
theorem dX5_whereByMarks_42 : decode cX5_whereByMarks 42 = .ok (.invokestatic 109, 3) := by decide +kernel
theorem dX5_whereByMarks_45 : decode cX5_whereByMarks 45 = .ok (.ifCond .ne 9, 3) := by decide +kernel
theorem dX5_whereByMarks_48 : decode cX5_whereByMarks 48 = .ok (.iinc 4 (-1), 3) := by decide +kernel
theorem dX5_whereByMarks_51 : decode cX5_whereByMarks 51 = .ok (.goto (-16), 3) := by decide +kernel
theorem dX5_whereByMarks_54 : decode cX5_whereByMarks 54 = .ok (.iload 4, 2) := by decide +kernel
theorem dX5_whereByMarks_56 : decode cX5_whereByMarks 56 = .ok (.iload_n 2, 1) := by decide +kernel
theorem dX5_whereByMarks_57 : decode cX5_whereByMarks 57 = .ok (.if_icmp .ne 21, 3) := by decide +kernel
theorem dX5_whereByMarks_60 : decode cX5_whereByMarks 60 = .ok (.aload_n 0, 1) := by decide +kernel
theorem dX5_whereByMarks_61 : decode cX5_whereByMarks 61 = .ok (.getfield 55, 3) := by decide +kernel
theorem dX5_whereByMarks_64 : decode cX5_whereByMarks 64 = .ok (.iload 4, 2) := by decide +kernel
theorem dX5_whereByMarks_66 : decode cX5_whereByMarks 66 = .ok (.iconst 1, 1) := by decide +kernel
theorem dX5_whereByMarks_67 : decode cX5_whereByMarks 67 = .ok (.isub, 1) := by decide +kernel
theorem dX5_whereByMarks_68 : decode cX5_whereByMarks 68 = .ok (.iaload, 1) := by decide +kernel
theorem dX5_whereByMarks_69 : decode cX5_whereByMarks 69 = .ok (.bipush 62, 2) := by decide +kernel
theorem dX5_whereByMarks_71 : decode cX5_whereByMarks 71 = .ok (.if_icmp .ne 7, 3) := by decide +kernel
theorem dX5_whereByMarks_74 : decode cX5_whereByMarks 74 = .ok (.iconst 1, 1) := by decide +kernel
theorem dX5_whereByMarks_75 : decode cX5_whereByMarks 75 = .ok (.goto 4, 3) := by decide +kernel
theorem dX5_whereByMarks_78 : decode cX5_whereByMarks 78 = .ok (.iconst 0, 1) := by decide +kernel
theorem dX5_whereByMarks_79 : decode cX5_whereByMarks 79 = .ok (.istore 5, 2) := by decide +kernel
theorem dX5_whereByMarks_81 : decode cX5_whereByMarks 81 = .ok (.iload_n 3, 1) := by decide +kernel
theorem dX5_whereByMarks_82 : decode cX5_whereByMarks 82 = .ok (.bipush 33, 2) := by decide +kernel
theorem dX5_whereByMarks_84 : decode cX5_whereByMarks 84 = .ok (.if_icmp .ne 8, 3) := by decide +kernel
theorem dX5_whereByMarks_87 : decode cX5_whereByMarks 87 = .ok (.bipush (-3), 2) := by decide +kernel
theorem dX5_whereByMarks_89 : decode cX5_whereByMarks 89 = .ok (.goto 40, 3) := by decide +kernel
theorem dX5_whereByMarks_92 : decode cX5_whereByMarks 92 = .ok (.iload_n 3, 1) := by decide +kernel
theorem dX5_whereByMarks_93 : decode cX5_whereByMarks 93 = .ok (.bipush 43, 2) := by decide +kernel
theorem dX5_whereByMarks_95 : decode cX5_whereByMarks 95 = .ok (.if_icmp .eq 9, 3) := by decide +kernel
theorem dX5_whereByMarks_98 : decode cX5_whereByMarks 98 = .ok (.iload_n 3, 1) := by decide +kernel
theorem dX5_whereByMarks_99 : decode cX5_whereByMarks 99 = .ok (.bipush 42, 2) := by decide +kernel
theorem dX5_whereByMarks_101 : decode cX5_whereByMarks 101 = .ok (.if_icmp .ne 8, 3) := by decide +kernel
theorem dX5_whereByMarks_104 : decode cX5_whereByMarks 104 = .ok (.bipush (-4), 2) := by decide +kernel
theorem dX5_whereByMarks_106 : decode cX5_whereByMarks 106 = .ok (.goto 23, 3) := by decide +kernel
theorem dX5_whereByMarks_109 : decode cX5_whereByMarks 109 = .ok (.iload 5, 2) := by decide +kernel
theorem dX5_whereByMarks_111 : decode cX5_whereByMarks 111 = .ok (.ifCond .eq 8, 3) := by decide +kernel
theorem dX5_whereByMarks_114 : decode cX5_whereByMarks 114 = .ok (.bipush (-2), 2) := by decide +kernel
theorem dX5_whereByMarks_116 : decode cX5_whereByMarks 116 = .ok (.goto 13, 3) := by decide +kernel
theorem dX5_whereByMarks_119 : decode cX5_whereByMarks 119 = .ok (.aload_n 0, 1) := by decide +kernel
theorem dX5_whereByMarks_120 : decode cX5_whereByMarks 120 = .ok (.getfield 55, 3) := by decide +kernel
theorem dX5_whereByMarks_123 : decode cX5_whereByMarks 123 = .ok (.iload 4, 2) := by decide +kernel
theorem dX5_whereByMarks_125 : decode cX5_whereByMarks 125 = .ok (.iaload, 1) := by decide +kernel
theorem dX5_whereByMarks_126 : decode cX5_whereByMarks 126 = .ok (.bipush 65, 2) := by decide +kernel
theorem dX5_whereByMarks_128 : decode cX5_whereByMarks 128 = .ok (.isub, 1) := by decide +kernel
theorem dX5_whereByMarks_129 : decode cX5_whereByMarks 129 = .ok (.ireturn, 1) := by decide +kernel
set_option maxRecDepth 20000 in
theorem ggX5_comesTo_X5_isLetter : GoodIn wsX5_comesTo wsX5_isLetter := goodIn_r _ [8, 9, 10, 11, 12, 7, 13, 14, 15, 16, 17, 18, 19, 20, 21, 22, 23, 24, 25, 26, 27, 28, 29, 30, 31, 32, 33, 34, 35, 36, 37, 38, 39] (by decide +kernel) (by decide +kernel)
set_option maxRecDepth 20000 in
theorem gX5_comesTo_X5_isLetter : GoodIn wsX5_comesTo (wsV RX5 155 RX5 yX5_isLetter wsX5_isLetter) := goodIn_app (goodIn_of _ (by decide +kernel)) ggX5_comesTo_X5_isLetter
theorem dX5_comesTo_0 : decode cX5_comesTo 0 = .ok (.aload_n 0, 1) := by decide +kernel
theorem dX5_comesTo_1 : decode cX5_comesTo 1 = .ok (.iload_n 1, 1) := by decide +kernel
theorem dX5_comesTo_2 : decode cX5_comesTo 2 = .ok (.invokevirtual 155, 3) := by decide +kernel
theorem dX5_comesTo_5 : decode cX5_comesTo 5 = .ok (.ifCond .ne 7, 3) := by decide +kernel
theorem dX5_comesTo_8 : decode cX5_comesTo 8 = .ok (.iconst 0, 1) := by decide +kernel
theorem dX5_comesTo_9 : decode cX5_comesTo 9 = .ok (.goto 33, 3) := by decide +kernel
theorem dX5_comesTo_12 : decode cX5_comesTo 12 = .ok (.aload_n 0, 1) := by decide +kernel
theorem dX5_comesTo_13 : decode cX5_comesTo 13 = .ok (.getfield 40, 3) := by decide +kernel
theorem dX5_comesTo_16 : decode cX5_comesTo 16 = .ok (.iload_n 1, 1) := by decide +kernel
theorem dX5_comesTo_17 : decode cX5_comesTo 17 = .ok (.iaload, 1) := by decide +kernel
theorem dX5_comesTo_18 : decode cX5_comesTo 18 = .ok (.iconst 3, 1) := by decide +kernel
theorem dX5_comesTo_19 : decode cX5_comesTo 19 = .ok (.if_icmp .ne 22, 3) := by decide +kernel
theorem dX5_comesTo_22 : decode cX5_comesTo 22 = .ok (.bipush 100, 2) := by decide +kernel
theorem dX5_comesTo_24 : decode cX5_comesTo 24 = .ok (.aload_n 0, 1) := by decide +kernel
theorem dX5_comesTo_25 : decode cX5_comesTo 25 = .ok (.getfield 46, 3) := by decide +kernel
theorem dX5_comesTo_28 : decode cX5_comesTo 28 = .ok (.iload_n 1, 1) := by decide +kernel
theorem dX5_comesTo_29 : decode cX5_comesTo 29 = .ok (.iaload, 1) := by decide +kernel
theorem dX5_comesTo_30 : decode cX5_comesTo 30 = .ok (.imul, 1) := by decide +kernel
theorem dX5_comesTo_31 : decode cX5_comesTo 31 = .ok (.aload_n 0, 1) := by decide +kernel
theorem dX5_comesTo_32 : decode cX5_comesTo 32 = .ok (.getfield 43, 3) := by decide +kernel
theorem dX5_comesTo_35 : decode cX5_comesTo 35 = .ok (.iload_n 1, 1) := by decide +kernel
theorem dX5_comesTo_36 : decode cX5_comesTo 36 = .ok (.iaload, 1) := by decide +kernel
theorem dX5_comesTo_37 : decode cX5_comesTo 37 = .ok (.iadd, 1) := by decide +kernel
theorem dX5_comesTo_38 : decode cX5_comesTo 38 = .ok (.goto 4, 3) := by decide +kernel
theorem dX5_comesTo_41 : decode cX5_comesTo 41 = .ok (.iconst (-1), 1) := by decide +kernel
theorem dX5_comesTo_42 : decode cX5_comesTo 42 = .ok (.ireturn, 1) := by decide +kernel
set_option maxRecDepth 20000 in
theorem ggX5_sentOn_X5_isLetter : GoodIn wsX5_sentOn wsX5_isLetter := goodIn_r _ [6, 7, 8, 9, 10, 5, 11, 12, 13, 14, 15, 16, 17, 18, 19, 20, 21, 22, 23, 24, 25, 26, 27, 28, 29, 30, 31, 32, 33, 34, 35, 36, 37] (by decide +kernel) (by decide +kernel)
set_option maxRecDepth 20000 in
theorem gX5_sentOn_X5_isLetter : GoodIn wsX5_sentOn (wsV RX5 155 RX5 yX5_isLetter wsX5_isLetter) := goodIn_app (goodIn_of _ (by decide +kernel)) ggX5_sentOn_X5_isLetter
theorem dX5_sentOn_0 : decode cX5_sentOn 0 = .ok (.aload_n 0, 1) := by decide +kernel
theorem dX5_sentOn_1 : decode cX5_sentOn 1 = .ok (.iload_n 1, 1) := by decide +kernel
theorem dX5_sentOn_2 : decode cX5_sentOn 2 = .ok (.invokevirtual 155, 3) := by decide +kernel
theorem dX5_sentOn_5 : decode cX5_sentOn 5 = .ok (.ifCond .eq 12, 3) := by decide +kernel
theorem dX5_sentOn_8 : decode cX5_sentOn 8 = .ok (.aload_n 0, 1) := by decide +kernel
theorem dX5_sentOn_9 : decode cX5_sentOn 9 = .ok (.getfield 49, 3) := by decide +kernel
theorem dX5_sentOn_12 : decode cX5_sentOn 12 = .ok (.iload_n 1, 1) := by decide +kernel
theorem dX5_sentOn_13 : decode cX5_sentOn 13 = .ok (.iaload, 1) := by decide +kernel
theorem dX5_sentOn_14 : decode cX5_sentOn 14 = .ok (.goto 4, 3) := by decide +kernel
theorem dX5_sentOn_17 : decode cX5_sentOn 17 = .ok (.iconst 0, 1) := by decide +kernel
theorem dX5_sentOn_18 : decode cX5_sentOn 18 = .ok (.ireturn, 1) := by decide +kernel
set_option maxRecDepth 20000 in
theorem ggX5_overtaken_X5_isLetter : GoodIn wsX5_overtaken wsX5_isLetter := goodIn_r _ [8, 9, 10, 11, 12, 7, 13, 14, 15, 16, 17, 18, 19, 20, 21, 22, 23, 24, 25, 26, 27, 28, 29, 30, 31, 32, 33, 34, 35, 36, 37, 38, 39] (by decide +kernel) (by decide +kernel)
set_option maxRecDepth 20000 in
theorem gX5_overtaken_X5_isLetter : GoodIn wsX5_overtaken (wsV RX5 155 RX5 yX5_isLetter wsX5_isLetter) := goodIn_app (goodIn_of _ (by decide +kernel)) ggX5_overtaken_X5_isLetter
theorem dX5_overtaken_0 : decode cX5_overtaken 0 = .ok (.iconst 0, 1) := by decide +kernel
theorem dX5_overtaken_1 : decode cX5_overtaken 1 = .ok (.istore_n 2, 1) := by decide +kernel
theorem dX5_overtaken_2 : decode cX5_overtaken 2 = .ok (.aload_n 0, 1) := by decide +kernel
theorem dX5_overtaken_3 : decode cX5_overtaken 3 = .ok (.iload_n 1, 1) := by decide +kernel
theorem dX5_overtaken_4 : decode cX5_overtaken 4 = .ok (.invokevirtual 155, 3) := by decide +kernel
theorem dX5_overtaken_7 : decode cX5_overtaken 7 = .ok (.ifCond .eq 17, 3) := by decide +kernel
theorem dX5_overtaken_10 : decode cX5_overtaken 10 = .ok (.aload_n 0, 1) := by decide +kernel
theorem dX5_overtaken_11 : decode cX5_overtaken 11 = .ok (.getfield 40, 3) := by decide +kernel
theorem dX5_overtaken_14 : decode cX5_overtaken 14 = .ok (.iload_n 1, 1) := by decide +kernel
theorem dX5_overtaken_15 : decode cX5_overtaken 15 = .ok (.iaload, 1) := by decide +kernel
theorem dX5_overtaken_16 : decode cX5_overtaken 16 = .ok (.iconst 1, 1) := by decide +kernel
theorem dX5_overtaken_17 : decode cX5_overtaken 17 = .ok (.if_icmp .ne 7, 3) := by decide +kernel
theorem dX5_overtaken_20 : decode cX5_overtaken 20 = .ok (.iconst 1, 1) := by decide +kernel
theorem dX5_overtaken_21 : decode cX5_overtaken 21 = .ok (.goto 4, 3) := by decide +kernel
theorem dX5_overtaken_24 : decode cX5_overtaken 24 = .ok (.iconst 0, 1) := by decide +kernel
theorem dX5_overtaken_25 : decode cX5_overtaken 25 = .ok (.istore_n 3, 1) := by decide +kernel
theorem dX5_overtaken_26 : decode cX5_overtaken 26 = .ok (.iconst 0, 1) := by decide +kernel
theorem dX5_overtaken_27 : decode cX5_overtaken 27 = .ok (.istore 4, 2) := by decide +kernel
theorem dX5_overtaken_29 : decode cX5_overtaken 29 = .ok (.iload 4, 2) := by decide +kernel
theorem dX5_overtaken_31 : decode cX5_overtaken 31 = .ok (.iload_n 1, 1) := by decide +kernel
theorem dX5_overtaken_32 : decode cX5_overtaken 32 = .ok (.if_icmp .ge 64, 3) := by decide +kernel
theorem dX5_overtaken_35 : decode cX5_overtaken 35 = .ok (.iload_n 3, 1) := by decide +kernel
theorem dX5_overtaken_36 : decode cX5_overtaken 36 = .ok (.ifCond .eq 60, 3) := by decide +kernel
theorem dX5_overtaken_39 : decode cX5_overtaken 39 = .ok (.iload_n 2, 1) := by decide +kernel
theorem dX5_overtaken_40 : decode cX5_overtaken 40 = .ok (.aload_n 0, 1) := by decide +kernel
theorem dX5_overtaken_41 : decode cX5_overtaken 41 = .ok (.getfield 31, 3) := by decide +kernel
theorem dX5_overtaken_44 : decode cX5_overtaken 44 = .ok (.iload 4, 2) := by decide +kernel
theorem dX5_overtaken_46 : decode cX5_overtaken 46 = .ok (.iaload, 1) := by decide +kernel
theorem dX5_overtaken_47 : decode cX5_overtaken 47 = .ok (.aload_n 0, 1) := by decide +kernel
theorem dX5_overtaken_48 : decode cX5_overtaken 48 = .ok (.getfield 31, 3) := by decide +kernel
theorem dX5_overtaken_51 : decode cX5_overtaken 51 = .ok (.iload_n 1, 1) := by decide +kernel
theorem dX5_overtaken_52 : decode cX5_overtaken 52 = .ok (.iaload, 1) := by decide +kernel
theorem dX5_overtaken_53 : decode cX5_overtaken 53 = .ok (.if_icmp .ne 34, 3) := by decide +kernel
theorem dX5_overtaken_56 : decode cX5_overtaken 56 = .ok (.aload_n 0, 1) := by decide +kernel
theorem dX5_overtaken_57 : decode cX5_overtaken 57 = .ok (.getfield 40, 3) := by decide +kernel
theorem dX5_overtaken_60 : decode cX5_overtaken 60 = .ok (.iload 4, 2) := by decide +kernel
theorem dX5_overtaken_62 : decode cX5_overtaken 62 = .ok (.iaload, 1) := by decide +kernel
theorem dX5_overtaken_63 : decode cX5_overtaken 63 = .ok (.iconst 1, 1) := by decide +kernel
theorem dX5_overtaken_64 : decode cX5_overtaken 64 = .ok (.if_icmp .ne 23, 3) := by decide +kernel
theorem dX5_overtaken_67 : decode cX5_overtaken 67 = .ok (.aload_n 0, 1) := by decide +kernel
theorem dX5_overtaken_68 : decode cX5_overtaken 68 = .ok (.getfield 52, 3) := by decide +kernel
theorem dX5_overtaken_71 : decode cX5_overtaken 71 = .ok (.iload_n 1, 1) := by decide +kernel
theorem dX5_overtaken_72 : decode cX5_overtaken 72 = .ok (.iaload, 1) := by decide +kernel
theorem dX5_overtaken_73 : decode cX5_overtaken 73 = .ok (.aload_n 0, 1) := by decide +kernel
theorem dX5_overtaken_74 : decode cX5_overtaken 74 = .ok (.getfield 52, 3) := by decide +kernel
theorem dX5_overtaken_77 : decode cX5_overtaken 77 = .ok (.iload 4, 2) := by decide +kernel
theorem dX5_overtaken_79 : decode cX5_overtaken 79 = .ok (.iaload, 1) := by decide +kernel
theorem dX5_overtaken_80 : decode cX5_overtaken 80 = .ok (.if_icmp .ge 7, 3) := by decide +kernel
theorem dX5_overtaken_83 : decode cX5_overtaken 83 = .ok (.iconst 1, 1) := by decide +kernel
theorem dX5_overtaken_84 : decode cX5_overtaken 84 = .ok (.goto 4, 3) := by decide +kernel
theorem dX5_overtaken_87 : decode cX5_overtaken 87 = .ok (.iconst 0, 1) := by decide +kernel
theorem dX5_overtaken_88 : decode cX5_overtaken 88 = .ok (.iadd, 1) := by decide +kernel
theorem dX5_overtaken_89 : decode cX5_overtaken 89 = .ok (.istore_n 2, 1) := by decide +kernel
theorem dX5_overtaken_90 : decode cX5_overtaken 90 = .ok (.iinc 4 1, 3) := by decide +kernel
theorem dX5_overtaken_93 : decode cX5_overtaken 93 = .ok (.goto (-64), 3) := by decide +kernel
theorem dX5_overtaken_96 : decode cX5_overtaken 96 = .ok (.iload_n 2, 1) := by decide +kernel
theorem dX5_overtaken_97 : decode cX5_overtaken 97 = .ok (.ireturn, 1) := by decide +kernel
set_option maxRecDepth 20000 in
theorem ggX5_lying_X5_isPort : GoodIn wsX5_lying wsX5_isPort := goodIn_r _ [8, 9, 10, 7, 11] (by decide +kernel) (by decide +kernel)
set_option maxRecDepth 20000 in
theorem gX5_lying_X5_isPort : GoodIn wsX5_lying (va_wsS RX5 85 yX5_isPort wsX5_isPort) := goodIn_app (goodIn_of _ (by decide +kernel)) ggX5_lying_X5_isPort
theorem dX5_lying_0 : decode cX5_lying 0 = .ok (.aload_n 0, 1) := by decide +kernel
theorem dX5_lying_1 : decode cX5_lying 1 = .ok (.iload_n 1, 1) := by decide +kernel
theorem dX5_lying_2 : decode cX5_lying 2 = .ok (.invokestatic 85, 3) := by decide +kernel
theorem dX5_lying_5 : decode cX5_lying 5 = .ok (.ifCond .eq 7, 3) := by decide +kernel
theorem dX5_lying_8 : decode cX5_lying 8 = .ok (.iconst 0, 1) := by decide +kernel
theorem dX5_lying_9 : decode cX5_lying 9 = .ok (.goto 4, 3) := by decide +kernel
theorem dX5_lying_12 : decode cX5_lying 12 = .ok (.iconst 1, 1) := by decide +kernel
theorem dX5_lying_13 : decode cX5_lying 13 = .ok (.putfield 70, 3) := by decide +kernel
theorem dX5_lying_16 : decode cX5_lying 16 = .ok (.iconst 0, 1) := by decide +kernel
theorem dX5_lying_17 : decode cX5_lying 17 = .ok (.istore_n 2, 1) := by decide +kernel
theorem dX5_lying_18 : decode cX5_lying 18 = .ok (.iconst 0, 1) := by decide +kernel
theorem dX5_lying_19 : decode cX5_lying 19 = .ok (.istore_n 3, 1) := by decide +kernel
theorem dX5_lying_20 : decode cX5_lying 20 = .ok (.iload_n 3, 1) := by decide +kernel
theorem dX5_lying_21 : decode cX5_lying 21 = .ok (.aload_n 0, 1) := by decide +kernel
theorem dX5_lying_22 : decode cX5_lying 22 = .ok (.getfield 140, 3) := by decide +kernel
theorem dX5_lying_25 : decode cX5_lying 25 = .ok (.if_icmp .ge 75, 3) := by decide +kernel
theorem dX5_lying_28 : decode cX5_lying 28 = .ok (.aload_n 0, 1) := by decide +kernel
theorem dX5_lying_29 : decode cX5_lying 29 = .ok (.getfield 40, 3) := by decide +kernel
theorem dX5_lying_32 : decode cX5_lying 32 = .ok (.iload_n 3, 1) := by decide +kernel
theorem dX5_lying_33 : decode cX5_lying 33 = .ok (.iaload, 1) := by decide +kernel
theorem dX5_lying_34 : decode cX5_lying 34 = .ok (.ifCond .eq 23, 3) := by decide +kernel
theorem dX5_lying_37 : decode cX5_lying 37 = .ok (.aload_n 0, 1) := by decide +kernel
theorem dX5_lying_38 : decode cX5_lying 38 = .ok (.getfield 40, 3) := by decide +kernel
theorem dX5_lying_41 : decode cX5_lying 41 = .ok (.iload_n 3, 1) := by decide +kernel
theorem dX5_lying_42 : decode cX5_lying 42 = .ok (.iaload, 1) := by decide +kernel
theorem dX5_lying_43 : decode cX5_lying 43 = .ok (.iconst 2, 1) := by decide +kernel
theorem dX5_lying_44 : decode cX5_lying 44 = .ok (.if_icmp .eq 13, 3) := by decide +kernel
theorem dX5_lying_47 : decode cX5_lying 47 = .ok (.aload_n 0, 1) := by decide +kernel
theorem dX5_lying_48 : decode cX5_lying 48 = .ok (.getfield 40, 3) := by decide +kernel
theorem dX5_lying_51 : decode cX5_lying 51 = .ok (.iload_n 3, 1) := by decide +kernel
theorem dX5_lying_52 : decode cX5_lying 52 = .ok (.iaload, 1) := by decide +kernel
theorem dX5_lying_53 : decode cX5_lying 53 = .ok (.iconst 4, 1) := by decide +kernel
theorem dX5_lying_54 : decode cX5_lying 54 = .ok (.if_icmp .ne 7, 3) := by decide +kernel
theorem dX5_lying_57 : decode cX5_lying 57 = .ok (.iconst 1, 1) := by decide +kernel
theorem dX5_lying_58 : decode cX5_lying 58 = .ok (.goto 4, 3) := by decide +kernel
theorem dX5_lying_61 : decode cX5_lying 61 = .ok (.iconst 0, 1) := by decide +kernel
theorem dX5_lying_62 : decode cX5_lying 62 = .ok (.istore 4, 2) := by decide +kernel
theorem dX5_lying_64 : decode cX5_lying 64 = .ok (.iload_n 2, 1) := by decide +kernel
theorem dX5_lying_65 : decode cX5_lying 65 = .ok (.iload 4, 2) := by decide +kernel
theorem dX5_lying_67 : decode cX5_lying 67 = .ok (.ifCond .eq 24, 3) := by decide +kernel
theorem dX5_lying_70 : decode cX5_lying 70 = .ok (.aload_n 0, 1) := by decide +kernel
theorem dX5_lying_71 : decode cX5_lying 71 = .ok (.getfield 43, 3) := by decide +kernel
theorem dX5_lying_74 : decode cX5_lying 74 = .ok (.iload_n 3, 1) := by decide +kernel
theorem dX5_lying_75 : decode cX5_lying 75 = .ok (.iaload, 1) := by decide +kernel
theorem dX5_lying_76 : decode cX5_lying 76 = .ok (.iload_n 1, 1) := by decide +kernel
theorem dX5_lying_77 : decode cX5_lying 77 = .ok (.if_icmp .ne 14, 3) := by decide +kernel
theorem dX5_lying_80 : decode cX5_lying 80 = .ok (.aload_n 0, 1) := by decide +kernel
theorem dX5_lying_81 : decode cX5_lying 81 = .ok (.getfield 70, 3) := by decide +kernel
theorem dX5_lying_84 : decode cX5_lying 84 = .ok (.ifCond .ne 7, 3) := by decide +kernel
theorem dX5_lying_87 : decode cX5_lying 87 = .ok (.iconst 1, 1) := by decide +kernel
theorem dX5_lying_88 : decode cX5_lying 88 = .ok (.goto 4, 3) := by decide +kernel
theorem dX5_lying_91 : decode cX5_lying 91 = .ok (.iconst 0, 1) := by decide +kernel
theorem dX5_lying_92 : decode cX5_lying 92 = .ok (.iadd, 1) := by decide +kernel
theorem dX5_lying_93 : decode cX5_lying 93 = .ok (.istore_n 2, 1) := by decide +kernel
theorem dX5_lying_94 : decode cX5_lying 94 = .ok (.iinc 3 1, 3) := by decide +kernel
theorem dX5_lying_97 : decode cX5_lying 97 = .ok (.goto (-77), 3) := by decide +kernel
theorem dX5_lying_100 : decode cX5_lying 100 = .ok (.iload_n 2, 1) := by decide +kernel
theorem dX5_lying_101 : decode cX5_lying 101 = .ok (.ireturn, 1) := by decide +kernel
set_option maxRecDepth 20000 in
theorem ggX5_deadAt_X5_in : GoodIn wsX5_deadAt wsX5_in := goodIn_r _ [7] (by decide +kernel) (by decide +kernel)
set_option maxRecDepth 20000 in
theorem gX5_deadAt_X5_in : GoodIn wsX5_deadAt (va_wsS RX5 74 yX5_in wsX5_in) := goodIn_app (goodIn_of _ (by decide +kernel)) ggX5_deadAt_X5_in
theorem dX5_deadAt_0 : decode cX5_deadAt 0 = .ok (.aload_n 0, 1) := by decide +kernel
theorem dX5_deadAt_1 : decode cX5_deadAt 1 = .ok (.iload_n 1, 1) := by decide +kernel
theorem dX5_deadAt_2 : decode cX5_deadAt 2 = .ok (.iconst 0, 1) := by decide +kernel
theorem dX5_deadAt_3 : decode cX5_deadAt 3 = .ok (.aload_n 0, 1) := by decide +kernel
theorem dX5_deadAt_4 : decode cX5_deadAt 4 = .ok (.getfield 112, 3) := by decide +kernel
theorem dX5_deadAt_7 : decode cX5_deadAt 7 = .ok (.iconst 1, 1) := by decide +kernel
theorem dX5_deadAt_8 : decode cX5_deadAt 8 = .ok (.isub, 1) := by decide +kernel
theorem dX5_deadAt_9 : decode cX5_deadAt 9 = .ok (.invokestatic 74, 3) := by decide +kernel
theorem dX5_deadAt_12 : decode cX5_deadAt 12 = .ok (.ifCond .eq 7, 3) := by decide +kernel
theorem dX5_deadAt_15 : decode cX5_deadAt 15 = .ok (.iconst 0, 1) := by decide +kernel
theorem dX5_deadAt_16 : decode cX5_deadAt 16 = .ok (.goto 4, 3) := by decide +kernel
theorem dX5_deadAt_19 : decode cX5_deadAt 19 = .ok (.iconst 1, 1) := by decide +kernel
theorem dX5_deadAt_20 : decode cX5_deadAt 20 = .ok (.putfield 70, 3) := by decide +kernel
theorem dX5_deadAt_23 : decode cX5_deadAt 23 = .ok (.aload_n 0, 1) := by decide +kernel
theorem dX5_deadAt_24 : decode cX5_deadAt 24 = .ok (.getfield 70, 3) := by decide +kernel
theorem dX5_deadAt_27 : decode cX5_deadAt 27 = .ok (.ifCond .ne 12, 3) := by decide +kernel
theorem dX5_deadAt_30 : decode cX5_deadAt 30 = .ok (.aload_n 0, 1) := by decide +kernel
theorem dX5_deadAt_31 : decode cX5_deadAt 31 = .ok (.getfield 61, 3) := by decide +kernel
theorem dX5_deadAt_34 : decode cX5_deadAt 34 = .ok (.iload_n 1, 1) := by decide +kernel
theorem dX5_deadAt_35 : decode cX5_deadAt 35 = .ok (.iaload, 1) := by decide +kernel
theorem dX5_deadAt_36 : decode cX5_deadAt 36 = .ok (.goto 4, 3) := by decide +kernel
theorem dX5_deadAt_39 : decode cX5_deadAt 39 = .ok (.iconst 0, 1) := by decide +kernel
theorem dX5_deadAt_40 : decode cX5_deadAt 40 = .ok (.ireturn, 1) := by decide +kernel
set_option maxRecDepth 20000 in
theorem ggX5_deliveredAs_X5_isShip : GoodIn wsX5_deliveredAs wsX5_isShip := goodIn_r _ [9, 10, 11, 12, 8, 13, 14, 15, 16, 17, 18, 19, 20, 21, 22, 23, 24, 25, 26, 27, 28, 29, 30, 31, 32, 33, 34, 35, 36, 37, 38, 39] (by decide +kernel) (by decide +kernel)
set_option maxRecDepth 20000 in
theorem gX5_deliveredAs_X5_isShip : GoodIn wsX5_deliveredAs (wsV RX5 81 RX5 yX5_isShip wsX5_isShip) := goodIn_app (goodIn_of _ (by decide +kernel)) ggX5_deliveredAs_X5_isShip
theorem dX5_deliveredAs_0 : decode cX5_deliveredAs 0 = .ok (.aload_n 0, 1) := by decide +kernel
theorem dX5_deliveredAs_1 : decode cX5_deliveredAs 1 = .ok (.aload_n 0, 1) := by decide +kernel
theorem dX5_deliveredAs_2 : decode cX5_deliveredAs 2 = .ok (.iload_n 1, 1) := by decide +kernel
theorem dX5_deliveredAs_3 : decode cX5_deliveredAs 3 = .ok (.invokevirtual 81, 3) := by decide +kernel
theorem dX5_deliveredAs_6 : decode cX5_deliveredAs 6 = .ok (.ifCond .ne 7, 3) := by decide +kernel
theorem dX5_deliveredAs_9 : decode cX5_deliveredAs 9 = .ok (.iconst 1, 1) := by decide +kernel
theorem dX5_deliveredAs_10 : decode cX5_deliveredAs 10 = .ok (.goto 12, 3) := by decide +kernel
theorem dX5_deliveredAs_13 : decode cX5_deliveredAs 13 = .ok (.iload_n 2, 1) := by decide +kernel
theorem dX5_deliveredAs_14 : decode cX5_deliveredAs 14 = .ok (.ifCond .ge 7, 3) := by decide +kernel
theorem dX5_deliveredAs_17 : decode cX5_deliveredAs 17 = .ok (.iconst 2, 1) := by decide +kernel
theorem dX5_deliveredAs_18 : decode cX5_deliveredAs 18 = .ok (.goto 4, 3) := by decide +kernel
theorem dX5_deliveredAs_21 : decode cX5_deliveredAs 21 = .ok (.iconst 0, 1) := by decide +kernel
theorem dX5_deliveredAs_22 : decode cX5_deliveredAs 22 = .ok (.putfield 70, 3) := by decide +kernel
theorem dX5_deliveredAs_25 : decode cX5_deliveredAs 25 = .ok (.aload_n 0, 1) := by decide +kernel
theorem dX5_deliveredAs_26 : decode cX5_deliveredAs 26 = .ok (.getfield 70, 3) := by decide +kernel
theorem dX5_deliveredAs_29 : decode cX5_deliveredAs 29 = .ok (.ifCond .eq 5, 3) := by decide +kernel
theorem dX5_deliveredAs_32 : decode cX5_deliveredAs 32 = .ok (.iconst 0, 1) := by decide +kernel
theorem dX5_deliveredAs_33 : decode cX5_deliveredAs 33 = .ok (.ireturn, 1) := by decide +kernel
theorem dX5_deliveredAs_34 : decode cX5_deliveredAs 34 = .ok (.iload_n 2, 1) := by decide +kernel
theorem dX5_deliveredAs_35 : decode cX5_deliveredAs 35 = .ok (.istore_n 3, 1) := by decide +kernel
theorem dX5_deliveredAs_36 : decode cX5_deliveredAs 36 = .ok (.iconst (-1), 1) := by decide +kernel
theorem dX5_deliveredAs_37 : decode cX5_deliveredAs 37 = .ok (.istore 4, 2) := by decide +kernel
theorem dX5_deliveredAs_39 : decode cX5_deliveredAs 39 = .ok (.iconst 0, 1) := by decide +kernel
theorem dX5_deliveredAs_40 : decode cX5_deliveredAs 40 = .ok (.istore 5, 2) := by decide +kernel
theorem dX5_deliveredAs_42 : decode cX5_deliveredAs 42 = .ok (.iload 5, 2) := by decide +kernel
theorem dX5_deliveredAs_44 : decode cX5_deliveredAs 44 = .ok (.aload_n 0, 1) := by decide +kernel
theorem dX5_deliveredAs_45 : decode cX5_deliveredAs 45 = .ok (.getfield 127, 3) := by decide +kernel
theorem dX5_deliveredAs_48 : decode cX5_deliveredAs 48 = .ok (.if_icmp .ge 51, 3) := by decide +kernel
theorem dX5_deliveredAs_51 : decode cX5_deliveredAs 51 = .ok (.iload 4, 2) := by decide +kernel
theorem dX5_deliveredAs_53 : decode cX5_deliveredAs 53 = .ok (.iconst (-1), 1) := by decide +kernel
theorem dX5_deliveredAs_54 : decode cX5_deliveredAs 54 = .ok (.if_icmp .ne 45, 3) := by decide +kernel
theorem dX5_deliveredAs_57 : decode cX5_deliveredAs 57 = .ok (.aload_n 0, 1) := by decide +kernel
theorem dX5_deliveredAs_58 : decode cX5_deliveredAs 58 = .ok (.getfield 31, 3) := by decide +kernel
theorem dX5_deliveredAs_61 : decode cX5_deliveredAs 61 = .ok (.aload_n 0, 1) := by decide +kernel
theorem dX5_deliveredAs_62 : decode cX5_deliveredAs 62 = .ok (.getfield 64, 3) := by decide +kernel
theorem dX5_deliveredAs_65 : decode cX5_deliveredAs 65 = .ok (.iload 5, 2) := by decide +kernel
theorem dX5_deliveredAs_67 : decode cX5_deliveredAs 67 = .ok (.iaload, 1) := by decide +kernel
theorem dX5_deliveredAs_68 : decode cX5_deliveredAs 68 = .ok (.iaload, 1) := by decide +kernel
theorem dX5_deliveredAs_69 : decode cX5_deliveredAs 69 = .ok (.iload_n 1, 1) := by decide +kernel
theorem dX5_deliveredAs_70 : decode cX5_deliveredAs 70 = .ok (.if_icmp .ne 23, 3) := by decide +kernel
theorem dX5_deliveredAs_73 : decode cX5_deliveredAs 73 = .ok (.iload_n 3, 1) := by decide +kernel
theorem dX5_deliveredAs_74 : decode cX5_deliveredAs 74 = .ok (.ifCond .ne 13, 3) := by decide +kernel
theorem dX5_deliveredAs_77 : decode cX5_deliveredAs 77 = .ok (.aload_n 0, 1) := by decide +kernel
theorem dX5_deliveredAs_78 : decode cX5_deliveredAs 78 = .ok (.getfield 64, 3) := by decide +kernel
theorem dX5_deliveredAs_81 : decode cX5_deliveredAs 81 = .ok (.iload 5, 2) := by decide +kernel
theorem dX5_deliveredAs_83 : decode cX5_deliveredAs 83 = .ok (.iaload, 1) := by decide +kernel
theorem dX5_deliveredAs_84 : decode cX5_deliveredAs 84 = .ok (.goto 4, 3) := by decide +kernel
theorem dX5_deliveredAs_87 : decode cX5_deliveredAs 87 = .ok (.iconst (-1), 1) := by decide +kernel
theorem dX5_deliveredAs_88 : decode cX5_deliveredAs 88 = .ok (.istore 4, 2) := by decide +kernel
theorem dX5_deliveredAs_90 : decode cX5_deliveredAs 90 = .ok (.iinc 3 (-1), 3) := by decide +kernel
theorem dX5_deliveredAs_93 : decode cX5_deliveredAs 93 = .ok (.iinc 5 1, 3) := by decide +kernel
theorem dX5_deliveredAs_96 : decode cX5_deliveredAs 96 = .ok (.goto (-54), 3) := by decide +kernel
theorem dX5_deliveredAs_99 : decode cX5_deliveredAs 99 = .ok (.iload 4, 2) := by decide +kernel
theorem dX5_deliveredAs_101 : decode cX5_deliveredAs 101 = .ok (.ireturn, 1) := by decide +kernel
set_option maxRecDepth 20000 in
theorem ggX5_marks_X5_isLetter : GoodIn wsX5_marks wsX5_isLetter := goodIn_r _ [6, 7, 8, 9, 10, 5, 11, 12, 13, 14, 15, 16, 17, 18, 19, 20, 21, 22, 23, 24, 25, 26, 27, 28, 29, 30, 31, 32, 33, 34, 35, 36, 37] (by decide +kernel) (by decide +kernel)
set_option maxRecDepth 20000 in
theorem gX5_marks_X5_isLetter : GoodIn wsX5_marks (wsV RX5 155 RX5 yX5_isLetter wsX5_isLetter) := goodIn_app (goodIn_of _ (by decide +kernel)) ggX5_marks_X5_isLetter
theorem dX5_marks_0 : decode cX5_marks 0 = .ok (.aload_n 0, 1) := by decide +kernel
theorem dX5_marks_1 : decode cX5_marks 1 = .ok (.iload_n 1, 1) := by decide +kernel
theorem dX5_marks_2 : decode cX5_marks 2 = .ok (.invokevirtual 155, 3) := by decide +kernel
theorem dX5_marks_5 : decode cX5_marks 5 = .ok (.ifCond .eq 12, 3) := by decide +kernel
theorem dX5_marks_8 : decode cX5_marks 8 = .ok (.aload_n 0, 1) := by decide +kernel
theorem dX5_marks_9 : decode cX5_marks 9 = .ok (.getfield 58, 3) := by decide +kernel
theorem dX5_marks_12 : decode cX5_marks 12 = .ok (.iload_n 1, 1) := by decide +kernel
theorem dX5_marks_13 : decode cX5_marks 13 = .ok (.iaload, 1) := by decide +kernel
theorem dX5_marks_14 : decode cX5_marks 14 = .ok (.goto 4, 3) := by decide +kernel
theorem dX5_marks_17 : decode cX5_marks 17 = .ok (.iconst 0, 1) := by decide +kernel
theorem dX5_marks_18 : decode cX5_marks 18 = .ok (.ireturn, 1) := by decide +kernel
set_option maxRecDepth 20000 in
theorem ggX5_markAt_X5_in : GoodIn wsX5_markAt wsX5_in := goodIn_r _ [8] (by decide +kernel) (by decide +kernel)
set_option maxRecDepth 20000 in
theorem gX5_markAt_X5_in : GoodIn wsX5_markAt (va_wsS RX5 74 yX5_in wsX5_in) := goodIn_app (goodIn_of _ (by decide +kernel)) ggX5_markAt_X5_in
theorem dX5_markAt_0 : decode cX5_markAt 0 = .ok (.aload_n 0, 1) := by decide +kernel
theorem dX5_markAt_1 : decode cX5_markAt 1 = .ok (.iload_n 1, 1) := by decide +kernel
theorem dX5_markAt_2 : decode cX5_markAt 2 = .ok (.iconst 0, 1) := by decide +kernel
theorem dX5_markAt_3 : decode cX5_markAt 3 = .ok (.aload_n 0, 1) := by decide +kernel
theorem dX5_markAt_4 : decode cX5_markAt 4 = .ok (.getfield 140, 3) := by decide +kernel
theorem dX5_markAt_7 : decode cX5_markAt 7 = .ok (.iconst 1, 1) := by decide +kernel
theorem dX5_markAt_8 : decode cX5_markAt 8 = .ok (.isub, 1) := by decide +kernel
theorem dX5_markAt_9 : decode cX5_markAt 9 = .ok (.invokestatic 74, 3) := by decide +kernel
theorem dX5_markAt_12 : decode cX5_markAt 12 = .ok (.ifCond .eq 41, 3) := by decide +kernel
theorem dX5_markAt_15 : decode cX5_markAt 15 = .ok (.iload_n 2, 1) := by decide +kernel
theorem dX5_markAt_16 : decode cX5_markAt 16 = .ok (.iconst 0, 1) := by decide +kernel
theorem dX5_markAt_17 : decode cX5_markAt 17 = .ok (.aload_n 0, 1) := by decide +kernel
theorem dX5_markAt_18 : decode cX5_markAt 18 = .ok (.getfield 58, 3) := by decide +kernel
theorem dX5_markAt_21 : decode cX5_markAt 21 = .ok (.iload_n 1, 1) := by decide +kernel
theorem dX5_markAt_22 : decode cX5_markAt 22 = .ok (.iconst 0, 1) := by decide +kernel
theorem dX5_markAt_23 : decode cX5_markAt 23 = .ok (.aload_n 0, 1) := by decide +kernel
theorem dX5_markAt_24 : decode cX5_markAt 24 = .ok (.getfield 140, 3) := by decide +kernel
theorem dX5_markAt_27 : decode cX5_markAt 27 = .ok (.iconst 1, 1) := by decide +kernel
theorem dX5_markAt_28 : decode cX5_markAt 28 = .ok (.isub, 1) := by decide +kernel
theorem dX5_markAt_29 : decode cX5_markAt 29 = .ok (.invokestatic 74, 3) := by decide +kernel
theorem dX5_markAt_32 : decode cX5_markAt 32 = .ok (.ifCond .eq 7, 3) := by decide +kernel
theorem dX5_markAt_35 : decode cX5_markAt 35 = .ok (.iload_n 1, 1) := by decide +kernel
theorem dX5_markAt_36 : decode cX5_markAt 36 = .ok (.goto 4, 3) := by decide +kernel
theorem dX5_markAt_39 : decode cX5_markAt 39 = .ok (.iconst 0, 1) := by decide +kernel
theorem dX5_markAt_40 : decode cX5_markAt 40 = .ok (.iaload, 1) := by decide +kernel
theorem dX5_markAt_41 : decode cX5_markAt 41 = .ok (.iconst 1, 1) := by decide +kernel
theorem dX5_markAt_42 : decode cX5_markAt 42 = .ok (.isub, 1) := by decide +kernel
theorem dX5_markAt_43 : decode cX5_markAt 43 = .ok (.invokestatic 74, 3) := by decide +kernel
theorem dX5_markAt_46 : decode cX5_markAt 46 = .ok (.ifCond .eq 7, 3) := by decide +kernel
theorem dX5_markAt_49 : decode cX5_markAt 49 = .ok (.iconst 0, 1) := by decide +kernel
theorem dX5_markAt_50 : decode cX5_markAt 50 = .ok (.goto 4, 3) := by decide +kernel
theorem dX5_markAt_53 : decode cX5_markAt 53 = .ok (.iconst 1, 1) := by decide +kernel
theorem dX5_markAt_54 : decode cX5_markAt 54 = .ok (.putfield 70, 3) := by decide +kernel
theorem dX5_markAt_57 : decode cX5_markAt 57 = .ok (.aload_n 0, 1) := by decide +kernel
theorem dX5_markAt_58 : decode cX5_markAt 58 = .ok (.getfield 70, 3) := by decide +kernel
theorem dX5_markAt_61 : decode cX5_markAt 61 = .ok (.ifCond .ne 19, 3) := by decide +kernel
theorem dX5_markAt_64 : decode cX5_markAt 64 = .ok (.aload_n 0, 1) := by decide +kernel
theorem dX5_markAt_65 : decode cX5_markAt 65 = .ok (.getfield 55, 3) := by decide +kernel
theorem dX5_markAt_68 : decode cX5_markAt 68 = .ok (.sipush 200, 3) := by decide +kernel
theorem dX5_markAt_71 : decode cX5_markAt 71 = .ok (.iload_n 1, 1) := by decide +kernel
theorem dX5_markAt_72 : decode cX5_markAt 72 = .ok (.imul, 1) := by decide +kernel
theorem dX5_markAt_73 : decode cX5_markAt 73 = .ok (.iload_n 2, 1) := by decide +kernel
theorem dX5_markAt_74 : decode cX5_markAt 74 = .ok (.iadd, 1) := by decide +kernel
theorem dX5_markAt_75 : decode cX5_markAt 75 = .ok (.iaload, 1) := by decide +kernel
theorem dX5_markAt_76 : decode cX5_markAt 76 = .ok (.i2c, 1) := by decide +kernel
theorem dX5_markAt_77 : decode cX5_markAt 77 = .ok (.goto 4, 3) := by decide +kernel
theorem dX5_markAt_80 : decode cX5_markAt 80 = .ok (.iconst 0, 1) := by decide +kernel
theorem dX5_markAt_81 : decode cX5_markAt 81 = .ok (.ireturn, 1) := by decide +kernel
set_option maxRecDepth 20000 in
theorem ggX5_written_X5_in : GoodIn wsX5_written wsX5_in := goodIn_r _ [8] (by decide +kernel) (by decide +kernel)
set_option maxRecDepth 20000 in
theorem gX5_written_X5_in : GoodIn wsX5_written (va_wsS RX5 74 yX5_in wsX5_in) := goodIn_app (goodIn_of _ (by decide +kernel)) ggX5_written_X5_in
set_option maxRecDepth 20000 in
theorem ggX5_written_X5_isPortMark : GoodIn wsX5_written wsX5_isPortMark := goodIn_r _ [11] (by decide +kernel) (by decide +kernel)
set_option maxRecDepth 20000 in
theorem gX5_written_X5_isPortMark : GoodIn wsX5_written (va_wsS RX5 109 yX5_isPortMark wsX5_isPortMark) := goodIn_app (goodIn_of _ (by decide +kernel)) ggX5_written_X5_isPortMark
theorem dX5_written_0 : decode cX5_written 0 = .ok (.aload_n 0, 1) := by decide +kernel
theorem dX5_written_1 : decode cX5_written 1 = .ok (.iconst 1, 1) := by decide +kernel
theorem dX5_written_2 : decode cX5_written 2 = .ok (.putfield 70, 3) := by decide +kernel
theorem dX5_written_5 : decode cX5_written 5 = .ok (.iload_n 1, 1) := by decide +kernel
theorem dX5_written_6 : decode cX5_written 6 = .ok (.iconst 0, 1) := by decide +kernel
theorem dX5_written_7 : decode cX5_written 7 = .ok (.aload_n 0, 1) := by decide +kernel
theorem dX5_written_8 : decode cX5_written 8 = .ok (.getfield 140, 3) := by decide +kernel
theorem dX5_written_11 : decode cX5_written 11 = .ok (.iconst 1, 1) := by decide +kernel
theorem dX5_written_12 : decode cX5_written 12 = .ok (.isub, 1) := by decide +kernel
theorem dX5_written_13 : decode cX5_written 13 = .ok (.invokestatic 74, 3) := by decide +kernel
theorem dX5_written_16 : decode cX5_written 16 = .ok (.ifCond .eq 7, 3) := by decide +kernel
theorem dX5_written_19 : decode cX5_written 19 = .ok (.iload_n 2, 1) := by decide +kernel
theorem dX5_written_20 : decode cX5_written 20 = .ok (.ifCond .ge 5, 3) := by decide +kernel
theorem dX5_written_23 : decode cX5_written 23 = .ok (.iconst 0, 1) := by decide +kernel
theorem dX5_written_24 : decode cX5_written 24 = .ok (.ireturn, 1) := by decide +kernel
theorem dX5_written_25 : decode cX5_written 25 = .ok (.iload_n 2, 1) := by decide +kernel
theorem dX5_written_26 : decode cX5_written 26 = .ok (.istore_n 3, 1) := by decide +kernel
theorem dX5_written_27 : decode cX5_written 27 = .ok (.sipush 200, 3) := by decide +kernel
theorem dX5_written_30 : decode cX5_written 30 = .ok (.iload_n 1, 1) := by decide +kernel
theorem dX5_written_31 : decode cX5_written 31 = .ok (.imul, 1) := by decide +kernel
theorem dX5_written_32 : decode cX5_written 32 = .ok (.aload_n 0, 1) := by decide +kernel
theorem dX5_written_33 : decode cX5_written 33 = .ok (.getfield 58, 3) := by decide +kernel
theorem dX5_written_36 : decode cX5_written 36 = .ok (.iload_n 1, 1) := by decide +kernel
theorem dX5_written_37 : decode cX5_written 37 = .ok (.iaload, 1) := by decide +kernel
theorem dX5_written_38 : decode cX5_written 38 = .ok (.iadd, 1) := by decide +kernel
theorem dX5_written_39 : decode cX5_written 39 = .ok (.iconst 1, 1) := by decide +kernel
theorem dX5_written_40 : decode cX5_written 40 = .ok (.isub, 1) := by decide +kernel
theorem dX5_written_41 : decode cX5_written 41 = .ok (.istore 4, 2) := by decide +kernel
theorem dX5_written_43 : decode cX5_written 43 = .ok (.iload 4, 2) := by decide +kernel
theorem dX5_written_45 : decode cX5_written 45 = .ok (.sipush 200, 3) := by decide +kernel
theorem dX5_written_48 : decode cX5_written 48 = .ok (.iload_n 1, 1) := by decide +kernel
theorem dX5_written_49 : decode cX5_written 49 = .ok (.imul, 1) := by decide +kernel
theorem dX5_written_50 : decode cX5_written 50 = .ok (.if_icmp .lt 90, 3) := by decide +kernel
theorem dX5_written_53 : decode cX5_written 53 = .ok (.aload_n 0, 1) := by decide +kernel
theorem dX5_written_54 : decode cX5_written 54 = .ok (.getfield 55, 3) := by decide +kernel
theorem dX5_written_57 : decode cX5_written 57 = .ok (.iload 4, 2) := by decide +kernel
theorem dX5_written_59 : decode cX5_written 59 = .ok (.iaload, 1) := by decide +kernel
theorem dX5_written_60 : decode cX5_written 60 = .ok (.invokestatic 109, 3) := by decide +kernel
theorem dX5_written_63 : decode cX5_written 63 = .ok (.ifCond .eq 71, 3) := by decide +kernel
theorem dX5_written_66 : decode cX5_written 66 = .ok (.iload_n 3, 1) := by decide +kernel
theorem dX5_written_67 : decode cX5_written 67 = .ok (.ifCond .ne 64, 3) := by decide +kernel
theorem dX5_written_70 : decode cX5_written 70 = .ok (.aload_n 0, 1) := by decide +kernel
theorem dX5_written_71 : decode cX5_written 71 = .ok (.iconst 0, 1) := by decide +kernel
theorem dX5_written_72 : decode cX5_written 72 = .ok (.putfield 70, 3) := by decide +kernel
theorem dX5_written_75 : decode cX5_written 75 = .ok (.iload 4, 2) := by decide +kernel
theorem dX5_written_77 : decode cX5_written 77 = .ok (.sipush 200, 3) := by decide +kernel
theorem dX5_written_80 : decode cX5_written 80 = .ok (.iload_n 1, 1) := by decide +kernel
theorem dX5_written_81 : decode cX5_written 81 = .ok (.imul, 1) := by decide +kernel
theorem dX5_written_82 : decode cX5_written 82 = .ok (.if_icmp .le 21, 3) := by decide +kernel
theorem dX5_written_85 : decode cX5_written 85 = .ok (.aload_n 0, 1) := by decide +kernel
theorem dX5_written_86 : decode cX5_written 86 = .ok (.getfield 55, 3) := by decide +kernel
theorem dX5_written_89 : decode cX5_written 89 = .ok (.iload 4, 2) := by decide +kernel
theorem dX5_written_91 : decode cX5_written 91 = .ok (.iconst 1, 1) := by decide +kernel
theorem dX5_written_92 : decode cX5_written 92 = .ok (.isub, 1) := by decide +kernel
theorem dX5_written_93 : decode cX5_written 93 = .ok (.iaload, 1) := by decide +kernel
theorem dX5_written_94 : decode cX5_written 94 = .ok (.bipush 45, 2) := by decide +kernel
theorem dX5_written_96 : decode cX5_written 96 = .ok (.if_icmp .ne 7, 3) := by decide +kernel
theorem dX5_written_99 : decode cX5_written 99 = .ok (.iconst 1, 1) := by decide +kernel
theorem dX5_written_100 : decode cX5_written 100 = .ok (.goto 4, 3) := by decide +kernel
theorem dX5_written_103 : decode cX5_written 103 = .ok (.iconst 0, 1) := by decide +kernel
theorem dX5_written_104 : decode cX5_written 104 = .ok (.istore 5, 2) := by decide +kernel
theorem dX5_written_106 : decode cX5_written 106 = .ok (.bipush 10, 2) := by decide +kernel
theorem dX5_written_108 : decode cX5_written 108 = .ok (.aload_n 0, 1) := by decide +kernel
theorem dX5_written_109 : decode cX5_written 109 = .ok (.getfield 55, 3) := by decide +kernel
theorem dX5_written_112 : decode cX5_written 112 = .ok (.iload 4, 2) := by decide +kernel
theorem dX5_written_114 : decode cX5_written 114 = .ok (.iaload, 1) := by decide +kernel
theorem dX5_written_115 : decode cX5_written 115 = .ok (.bipush 65, 2) := by decide +kernel
theorem dX5_written_117 : decode cX5_written 117 = .ok (.isub, 1) := by decide +kernel
theorem dX5_written_118 : decode cX5_written 118 = .ok (.imul, 1) := by decide +kernel
theorem dX5_written_119 : decode cX5_written 119 = .ok (.iload 5, 2) := by decide +kernel
theorem dX5_written_121 : decode cX5_written 121 = .ok (.ifCond .eq 7, 3) := by decide +kernel
theorem dX5_written_124 : decode cX5_written 124 = .ok (.iconst 1, 1) := by decide +kernel
theorem dX5_written_125 : decode cX5_written 125 = .ok (.goto 4, 3) := by decide +kernel
theorem dX5_written_128 : decode cX5_written 128 = .ok (.iconst 0, 1) := by decide +kernel
theorem dX5_written_129 : decode cX5_written 129 = .ok (.iadd, 1) := by decide +kernel
theorem dX5_written_130 : decode cX5_written 130 = .ok (.ireturn, 1) := by decide +kernel
theorem dX5_written_131 : decode cX5_written 131 = .ok (.iinc 3 (-1), 3) := by decide +kernel
theorem dX5_written_134 : decode cX5_written 134 = .ok (.iinc 4 (-1), 3) := by decide +kernel
theorem dX5_written_137 : decode cX5_written 137 = .ok (.goto (-94), 3) := by decide +kernel
theorem dX5_written_140 : decode cX5_written 140 = .ok (.iconst 0, 1) := by decide +kernel
theorem dX5_written_141 : decode cX5_written 141 = .ok (.ireturn, 1) := by decide +kernel
theorem dJ9_abs_0f7a4_0 : decode cJ9_abs_0f7a4 0 = .ok (.iload_n 0, 1) := by decide +kernel
theorem dJ9_abs_0f7a4_1 : decode cJ9_abs_0f7a4 1 = .ok (.ifCond .ge 8, 3) := by decide +kernel
theorem dJ9_abs_0f7a4_4 : decode cJ9_abs_0f7a4 4 = .ok (.iload_n 0, 1) := by decide +kernel
theorem dJ9_abs_0f7a4_5 : decode cJ9_abs_0f7a4 5 = .ok (.ineg, 1) := by decide +kernel
theorem dJ9_abs_0f7a4_6 : decode cJ9_abs_0f7a4 6 = .ok (.goto 4, 3) := by decide +kernel
theorem dJ9_abs_0f7a4_9 : decode cJ9_abs_0f7a4 9 = .ok (.iload_n 0, 1) := by decide +kernel
theorem dJ9_abs_0f7a4_10 : decode cJ9_abs_0f7a4 10 = .ok (.ireturn, 1) := by decide +kernel
theorem dJ9_max_7cf53_0 : decode cJ9_max_7cf53 0 = .ok (.iload_n 0, 1) := by decide +kernel
theorem dJ9_max_7cf53_1 : decode cJ9_max_7cf53 1 = .ok (.iload_n 1, 1) := by decide +kernel
theorem dJ9_max_7cf53_2 : decode cJ9_max_7cf53 2 = .ok (.if_icmp .lt 7, 3) := by decide +kernel
theorem dJ9_max_7cf53_5 : decode cJ9_max_7cf53 5 = .ok (.iload_n 0, 1) := by decide +kernel
theorem dJ9_max_7cf53_6 : decode cJ9_max_7cf53 6 = .ok (.goto 4, 3) := by decide +kernel
theorem dJ9_max_7cf53_9 : decode cJ9_max_7cf53 9 = .ok (.iload_n 1, 1) := by decide +kernel
theorem dJ9_max_7cf53_10 : decode cJ9_max_7cf53 10 = .ok (.ireturn, 1) := by decide +kernel
theorem dJ9_min_7cf53_0 : decode cJ9_min_7cf53 0 = .ok (.iload_n 0, 1) := by decide +kernel
theorem dJ9_min_7cf53_1 : decode cJ9_min_7cf53 1 = .ok (.iload_n 1, 1) := by decide +kernel
theorem dJ9_min_7cf53_2 : decode cJ9_min_7cf53 2 = .ok (.if_icmp .gt 7, 3) := by decide +kernel
theorem dJ9_min_7cf53_5 : decode cJ9_min_7cf53 5 = .ok (.iload_n 0, 1) := by decide +kernel
theorem dJ9_min_7cf53_6 : decode cJ9_min_7cf53 6 = .ok (.goto 4, 3) := by decide +kernel
theorem dJ9_min_7cf53_9 : decode cJ9_min_7cf53 9 = .ok (.iload_n 1, 1) := by decide +kernel
theorem dJ9_min_7cf53_10 : decode cJ9_min_7cf53 10 = .ok (.ireturn, 1) := by decide +kernel
theorem dJxa1e45_init_da8c8_0 : decode cJxa1e45_init_da8c8 0 = .ok (.aload_n 0, 1) := by decide +kernel
theorem dJxa1e45_init_da8c8_1 : decode cJxa1e45_init_da8c8 1 = .ok (.invokespecial 1, 3) := by decide +kernel
theorem dJxa1e45_init_da8c8_4 : decode cJxa1e45_init_da8c8 4 = .ok (.return_, 1) := by decide +kernel
set_option maxRecDepth 20000 in
theorem ggJxc12de_init_da8c8_Jxa1e45_init_da8c8 : GoodIn wsJxc12de_init_da8c8 wsJxa1e45_init_da8c8 := goodIn_r _ [5, 6, 7, 8] (by decide +kernel) (by decide +kernel)
set_option maxRecDepth 20000 in
theorem gJxc12de_init_da8c8_Jxa1e45_init_da8c8 : GoodIn wsJxc12de_init_da8c8 (wsJxa1e45_init_da8c8) := ggJxc12de_init_da8c8_Jxa1e45_init_da8c8
theorem dJxc12de_init_da8c8_0 : decode cJxc12de_init_da8c8 0 = .ok (.aload_n 0, 1) := by decide +kernel
theorem dJxc12de_init_da8c8_1 : decode cJxc12de_init_da8c8 1 = .ok (.invokespecial 1, 3) := by decide +kernel
theorem dJxc12de_init_da8c8_4 : decode cJxc12de_init_da8c8 4 = .ok (.aload_n 0, 1) := by decide +kernel
theorem dJxc12de_init_da8c8_5 : decode cJxc12de_init_da8c8 5 = .ok (.iconst 0, 1) := by decide +kernel
theorem dJxc12de_init_da8c8_6 : decode cJxc12de_init_da8c8 6 = .ok (.putfield 7, 3) := by decide +kernel
theorem dJxc12de_init_da8c8_9 : decode cJxc12de_init_da8c8 9 = .ok (.return_, 1) := by decide +kernel
set_option maxRecDepth 20000 in
theorem ggJx4a65c_init_da8c8_Jxc12de_init_da8c8 : GoodIn wsJx4a65c_init_da8c8 wsJxc12de_init_da8c8 := goodIn_r _ [6, 7, 8, 9, 10, 11, 12, 13, 14, 15, 16, 17] (by decide +kernel) (by decide +kernel)
set_option maxRecDepth 20000 in
theorem gJx4a65c_init_da8c8_Jxc12de_init_da8c8 : GoodIn wsJx4a65c_init_da8c8 (wsJxc12de_init_da8c8) := ggJx4a65c_init_da8c8_Jxc12de_init_da8c8
theorem dJx4a65c_init_da8c8_0 : decode cJx4a65c_init_da8c8 0 = .ok (.aload_n 0, 1) := by decide +kernel
theorem dJx4a65c_init_da8c8_1 : decode cJx4a65c_init_da8c8 1 = .ok (.invokespecial 1, 3) := by decide +kernel
theorem dJx4a65c_init_da8c8_4 : decode cJx4a65c_init_da8c8 4 = .ok (.aload_n 0, 1) := by decide +kernel
theorem dJx4a65c_init_da8c8_5 : decode cJx4a65c_init_da8c8 5 = .ok (.getstatic 39, 3) := by decide +kernel
theorem dJx4a65c_init_da8c8_8 : decode cJx4a65c_init_da8c8 8 = .ok (.putfield 9, 3) := by decide +kernel
theorem dJx4a65c_init_da8c8_11 : decode cJx4a65c_init_da8c8 11 = .ok (.return_, 1) := by decide +kernel
set_option maxRecDepth 20000 in
theorem ggJx4a65c_grow_92f84_J8_newLength_cabcc : GoodIn wsJx4a65c_grow_92f84 wsJ8_newLength_cabcc := goodIn_r _ [11, 12, 4, 5, 6, 13, 14, 15, 10, 16] (by decide +kernel) (by decide +kernel)
set_option maxRecDepth 20000 in
theorem gJx4a65c_grow_92f84_J8_newLength_cabcc : GoodIn wsJx4a65c_grow_92f84 (va_wsS RJx4a65c 73 yJ8_newLength_cabcc wsJ8_newLength_cabcc) := goodIn_app (goodIn_of _ (by decide +kernel)) ggJx4a65c_grow_92f84_J8_newLength_cabcc
set_option maxRecDepth 20000 in
theorem ggJx4a65c_grow_92f84_J7_copyOf_1904c : GoodIn wsJx4a65c_grow_92f84 wsJ7_copyOf_1904c := goodIn_r _ [20, 21, 22, 23, 24, 25, 26, 19, 27, 28, 29, 30, 31, 5, 32, 33, 34, 35, 36] (by decide +kernel) (by decide +kernel)
set_option maxRecDepth 20000 in
theorem gJx4a65c_grow_92f84_J7_copyOf_1904c : GoodIn wsJx4a65c_grow_92f84 (va_wsS RJx4a65c 66 yJ7_copyOf_1904c wsJ7_copyOf_1904c) := goodIn_app (goodIn_of _ (by decide +kernel)) ggJx4a65c_grow_92f84_J7_copyOf_1904c
theorem dJx4a65c_grow_92f84_0 : decode cJx4a65c_grow_92f84 0 = .ok (.aload_n 0, 1) := by decide +kernel
theorem dJx4a65c_grow_92f84_1 : decode cJx4a65c_grow_92f84 1 = .ok (.getfield 9, 3) := by decide +kernel
theorem dJx4a65c_grow_92f84_4 : decode cJx4a65c_grow_92f84 4 = .ok (.arraylength, 1) := by decide +kernel
theorem dJx4a65c_grow_92f84_5 : decode cJx4a65c_grow_92f84 5 = .ok (.istore_n 2, 1) := by decide +kernel
theorem dJx4a65c_grow_92f84_6 : decode cJx4a65c_grow_92f84 6 = .ok (.iload_n 2, 1) := by decide +kernel
theorem dJx4a65c_grow_92f84_7 : decode cJx4a65c_grow_92f84 7 = .ok (.ifCond .gt 13, 3) := by decide +kernel
theorem dJx4a65c_grow_92f84_10 : decode cJx4a65c_grow_92f84 10 = .ok (.aload_n 0, 1) := by decide +kernel
theorem dJx4a65c_grow_92f84_11 : decode cJx4a65c_grow_92f84 11 = .ok (.getfield 9, 3) := by decide +kernel
theorem dJx4a65c_grow_92f84_14 : decode cJx4a65c_grow_92f84 14 = .ok (.getstatic 39, 3) := by decide +kernel
theorem dJx4a65c_grow_92f84_17 : decode cJx4a65c_grow_92f84 17 = .ok (.if_acmp .eq 28, 3) := by decide +kernel
theorem dJx4a65c_grow_92f84_20 : decode cJx4a65c_grow_92f84 20 = .ok (.iload_n 2, 1) := by decide +kernel
theorem dJx4a65c_grow_92f84_21 : decode cJx4a65c_grow_92f84 21 = .ok (.iload_n 1, 1) := by decide +kernel
theorem dJx4a65c_grow_92f84_22 : decode cJx4a65c_grow_92f84 22 = .ok (.iload_n 2, 1) := by decide +kernel
theorem dJx4a65c_grow_92f84_23 : decode cJx4a65c_grow_92f84 23 = .ok (.isub, 1) := by decide +kernel
theorem dJx4a65c_grow_92f84_24 : decode cJx4a65c_grow_92f84 24 = .ok (.iload_n 2, 1) := by decide +kernel
theorem dJx4a65c_grow_92f84_25 : decode cJx4a65c_grow_92f84 25 = .ok (.iconst 1, 1) := by decide +kernel
theorem dJx4a65c_grow_92f84_26 : decode cJx4a65c_grow_92f84 26 = .ok (.ishr, 1) := by decide +kernel
theorem dJx4a65c_grow_92f84_27 : decode cJx4a65c_grow_92f84 27 = .ok (.invokestatic 73, 3) := by decide +kernel
theorem dJx4a65c_grow_92f84_30 : decode cJx4a65c_grow_92f84 30 = .ok (.istore_n 3, 1) := by decide +kernel
theorem dJx4a65c_grow_92f84_31 : decode cJx4a65c_grow_92f84 31 = .ok (.aload_n 0, 1) := by decide +kernel
theorem dJx4a65c_grow_92f84_32 : decode cJx4a65c_grow_92f84 32 = .ok (.aload_n 0, 1) := by decide +kernel
theorem dJx4a65c_grow_92f84_33 : decode cJx4a65c_grow_92f84 33 = .ok (.getfield 9, 3) := by decide +kernel
theorem dJx4a65c_grow_92f84_36 : decode cJx4a65c_grow_92f84 36 = .ok (.iload_n 3, 1) := by decide +kernel
theorem dJx4a65c_grow_92f84_37 : decode cJx4a65c_grow_92f84 37 = .ok (.invokestatic 66, 3) := by decide +kernel
theorem dJx4a65c_grow_92f84_40 : decode cJx4a65c_grow_92f84 40 = .ok (.dup_x1, 1) := by decide +kernel
theorem dJx4a65c_grow_92f84_41 : decode cJx4a65c_grow_92f84 41 = .ok (.putfield 9, 3) := by decide +kernel
theorem dJx4a65c_grow_92f84_44 : decode cJx4a65c_grow_92f84 44 = .ok (.areturn, 1) := by decide +kernel
theorem dJx4a65c_grow_92f84_45 : decode cJx4a65c_grow_92f84 45 = .ok (.aload_n 0, 1) := by decide +kernel
theorem dJx4a65c_grow_92f84_46 : decode cJx4a65c_grow_92f84 46 = .ok (.bipush 10, 2) := by decide +kernel
theorem dJx4a65c_grow_92f84_48 : decode cJx4a65c_grow_92f84 48 = .ok (.iload_n 1, 1) := by decide +kernel
theorem dJx4a65c_grow_92f84_49 : decode cJx4a65c_grow_92f84 49 = .ok (.invokestatic 79, 3) := by decide +kernel
theorem dJx4a65c_grow_92f84_52 : decode cJx4a65c_grow_92f84 52 = .ok (.anewarray 7, 3) := by decide +kernel
theorem dJx4a65c_grow_92f84_55 : decode cJx4a65c_grow_92f84 55 = .ok (.dup_x1, 1) := by decide +kernel
theorem dJx4a65c_grow_92f84_56 : decode cJx4a65c_grow_92f84 56 = .ok (.putfield 9, 3) := by decide +kernel
theorem dJx4a65c_grow_92f84_59 : decode cJx4a65c_grow_92f84 59 = .ok (.areturn, 1) := by decide +kernel
set_option maxRecDepth 20000 in
theorem ggJx4a65c_grow_d5877_Jx4a65c_grow_92f84 : GoodIn wsJx4a65c_grow_d5877 wsJx4a65c_grow_92f84 := goodIn_r _ [6, 7, 8, 9, 10, 11, 12, 13, 14, 15, 16, 17, 18, 19, 20, 21, 22, 23, 24, 25, 26, 27, 28, 29, 30, 31, 32, 33, 34, 35, 36, 37, 38, 39, 40, 41, 42, 43, 44, 45] (by decide +kernel) (by decide +kernel)
set_option maxRecDepth 20000 in
theorem gJx4a65c_grow_d5877_Jx4a65c_grow_92f84 : GoodIn wsJx4a65c_grow_d5877 (wsV RJx4a65c 69 RJx4a65c yJx4a65c_grow_92f84 wsJx4a65c_grow_92f84) := goodIn_app (goodIn_of _ (by decide +kernel)) ggJx4a65c_grow_d5877_Jx4a65c_grow_92f84
theorem dJx4a65c_grow_d5877_0 : decode cJx4a65c_grow_d5877 0 = .ok (.aload_n 0, 1) := by decide +kernel
theorem dJx4a65c_grow_d5877_1 : decode cJx4a65c_grow_d5877 1 = .ok (.aload_n 0, 1) := by decide +kernel
theorem dJx4a65c_grow_d5877_2 : decode cJx4a65c_grow_d5877 2 = .ok (.getfield 48, 3) := by decide +kernel
theorem dJx4a65c_grow_d5877_5 : decode cJx4a65c_grow_d5877 5 = .ok (.iconst 1, 1) := by decide +kernel
theorem dJx4a65c_grow_d5877_6 : decode cJx4a65c_grow_d5877 6 = .ok (.iadd, 1) := by decide +kernel
theorem dJx4a65c_grow_d5877_7 : decode cJx4a65c_grow_d5877 7 = .ok (.invokevirtual 69, 3) := by decide +kernel
theorem dJx4a65c_grow_d5877_10 : decode cJx4a65c_grow_d5877 10 = .ok (.areturn, 1) := by decide +kernel
theorem dJx4a65c_size_8abf5_0 : decode cJx4a65c_size_8abf5 0 = .ok (.aload_n 0, 1) := by decide +kernel
theorem dJx4a65c_size_8abf5_1 : decode cJx4a65c_size_8abf5 1 = .ok (.getfield 48, 3) := by decide +kernel
theorem dJx4a65c_size_8abf5_4 : decode cJx4a65c_size_8abf5 4 = .ok (.ireturn, 1) := by decide +kernel
theorem dJx4a65c_elementData_915e3_0 : decode cJx4a65c_elementData_915e3 0 = .ok (.aload_n 0, 1) := by decide +kernel
theorem dJx4a65c_elementData_915e3_1 : decode cJx4a65c_elementData_915e3 1 = .ok (.getfield 9, 3) := by decide +kernel
theorem dJx4a65c_elementData_915e3_4 : decode cJx4a65c_elementData_915e3 4 = .ok (.iload_n 1, 1) := by decide +kernel
theorem dJx4a65c_elementData_915e3_5 : decode cJx4a65c_elementData_915e3 5 = .ok (.aaload, 1) := by decide +kernel
theorem dJx4a65c_elementData_915e3_6 : decode cJx4a65c_elementData_915e3 6 = .ok (.areturn, 1) := by decide +kernel
set_option maxRecDepth 20000 in
theorem ggJx4a65c_get_915e3_J15_checkIndex_7cf53 : GoodIn wsJx4a65c_get_915e3 wsJ15_checkIndex_7cf53 := goodIn_r _ [5, 6, 7, 8, 9] (by decide +kernel) (by decide +kernel)
set_option maxRecDepth 20000 in
theorem gJx4a65c_get_915e3_J15_checkIndex_7cf53 : GoodIn wsJx4a65c_get_915e3 (va_wsS RJx4a65c 118 yJ15_checkIndex_7cf53 wsJ15_checkIndex_7cf53) := goodIn_app (goodIn_of _ (by decide +kernel)) ggJx4a65c_get_915e3_J15_checkIndex_7cf53
set_option maxRecDepth 20000 in
theorem ggJx4a65c_get_915e3_Jx4a65c_elementData_915e3 : GoodIn wsJx4a65c_get_915e3 wsJx4a65c_elementData_915e3 := goodIn_r _ [14, 15, 16, 17, 18] (by decide +kernel) (by decide +kernel)
set_option maxRecDepth 20000 in
theorem gJx4a65c_get_915e3_Jx4a65c_elementData_915e3 : GoodIn wsJx4a65c_get_915e3 (wsV RJx4a65c 123 RJx4a65c yJx4a65c_elementData_915e3 wsJx4a65c_elementData_915e3) := goodIn_app (goodIn_of _ (by decide +kernel)) ggJx4a65c_get_915e3_Jx4a65c_elementData_915e3
theorem dJx4a65c_get_915e3_0 : decode cJx4a65c_get_915e3 0 = .ok (.iload_n 1, 1) := by decide +kernel
theorem dJx4a65c_get_915e3_1 : decode cJx4a65c_get_915e3 1 = .ok (.aload_n 0, 1) := by decide +kernel
theorem dJx4a65c_get_915e3_2 : decode cJx4a65c_get_915e3 2 = .ok (.getfield 48, 3) := by decide +kernel
theorem dJx4a65c_get_915e3_5 : decode cJx4a65c_get_915e3 5 = .ok (.invokestatic 118, 3) := by decide +kernel
theorem dJx4a65c_get_915e3_8 : decode cJx4a65c_get_915e3 8 = .ok (.pop, 1) := by decide +kernel
theorem dJx4a65c_get_915e3_9 : decode cJx4a65c_get_915e3 9 = .ok (.aload_n 0, 1) := by decide +kernel
theorem dJx4a65c_get_915e3_10 : decode cJx4a65c_get_915e3 10 = .ok (.iload_n 1, 1) := by decide +kernel
theorem dJx4a65c_get_915e3_11 : decode cJx4a65c_get_915e3 11 = .ok (.invokevirtual 123, 3) := by decide +kernel
theorem dJx4a65c_get_915e3_14 : decode cJx4a65c_get_915e3 14 = .ok (.areturn, 1) := by decide +kernel
set_option maxRecDepth 20000 in
theorem ggJx4a65c_add_72be8_Jx4a65c_grow_d5877 : GoodIn wsJx4a65c_add_72be8 wsJx4a65c_grow_d5877 := goodIn_r _ [6, 1, 7, 8, 9, 5, 10, 11, 12, 13, 14, 15, 16, 17, 18, 19, 20, 21, 22, 23, 24, 25, 26, 27, 28, 29, 30, 31, 32, 33, 34, 35, 36, 37, 38, 39, 40, 41, 42, 43, 44, 45, 46, 47, 48, 49] (by decide +kernel) (by decide +kernel)
set_option maxRecDepth 20000 in
theorem gJx4a65c_add_72be8_Jx4a65c_grow_d5877 : GoodIn wsJx4a65c_add_72be8 (wsV RJx4a65c 129 RJx4a65c yJx4a65c_grow_d5877 wsJx4a65c_grow_d5877) := goodIn_app (goodIn_of _ (by decide +kernel)) ggJx4a65c_add_72be8_Jx4a65c_grow_d5877
theorem dJx4a65c_add_72be8_0 : decode cJx4a65c_add_72be8 0 = .ok (.iload_n 3, 1) := by decide +kernel
theorem dJx4a65c_add_72be8_1 : decode cJx4a65c_add_72be8 1 = .ok (.aload_n 2, 1) := by decide +kernel
theorem dJx4a65c_add_72be8_2 : decode cJx4a65c_add_72be8 2 = .ok (.arraylength, 1) := by decide +kernel
theorem dJx4a65c_add_72be8_3 : decode cJx4a65c_add_72be8 3 = .ok (.if_icmp .ne 8, 3) := by decide +kernel
theorem dJx4a65c_add_72be8_6 : decode cJx4a65c_add_72be8 6 = .ok (.aload_n 0, 1) := by decide +kernel
theorem dJx4a65c_add_72be8_7 : decode cJx4a65c_add_72be8 7 = .ok (.invokevirtual 129, 3) := by decide +kernel
theorem dJx4a65c_add_72be8_10 : decode cJx4a65c_add_72be8 10 = .ok (.astore_n 2, 1) := by decide +kernel
theorem dJx4a65c_add_72be8_11 : decode cJx4a65c_add_72be8 11 = .ok (.aload_n 2, 1) := by decide +kernel
theorem dJx4a65c_add_72be8_12 : decode cJx4a65c_add_72be8 12 = .ok (.iload_n 3, 1) := by decide +kernel
theorem dJx4a65c_add_72be8_13 : decode cJx4a65c_add_72be8 13 = .ok (.aload_n 1, 1) := by decide +kernel
theorem dJx4a65c_add_72be8_14 : decode cJx4a65c_add_72be8 14 = .ok (.aastore, 1) := by decide +kernel
theorem dJx4a65c_add_72be8_15 : decode cJx4a65c_add_72be8 15 = .ok (.aload_n 0, 1) := by decide +kernel
theorem dJx4a65c_add_72be8_16 : decode cJx4a65c_add_72be8 16 = .ok (.iload_n 3, 1) := by decide +kernel
theorem dJx4a65c_add_72be8_17 : decode cJx4a65c_add_72be8 17 = .ok (.iconst 1, 1) := by decide +kernel
theorem dJx4a65c_add_72be8_18 : decode cJx4a65c_add_72be8 18 = .ok (.iadd, 1) := by decide +kernel
theorem dJx4a65c_add_72be8_19 : decode cJx4a65c_add_72be8 19 = .ok (.putfield 48, 3) := by decide +kernel
theorem dJx4a65c_add_72be8_22 : decode cJx4a65c_add_72be8 22 = .ok (.return_, 1) := by decide +kernel
set_option maxRecDepth 20000 in
theorem ggJx4a65c_add_9ea2d_Jx4a65c_add_72be8 : GoodIn wsJx4a65c_add_9ea2d wsJx4a65c_add_72be8 := goodIn_r _ [9, 4, 10, 11, 12, 8, 13, 14, 15, 16, 17, 3, 18, 19, 20, 21, 22, 23, 24, 25, 26, 27, 28, 29, 30, 31, 32, 33, 34, 35, 36, 37, 38, 39, 40, 41, 42, 43, 44, 45, 46, 47, 48, 49, 50, 51, 52, 53, 54, 55] (by decide +kernel) (by decide +kernel)
set_option maxRecDepth 20000 in
theorem gJx4a65c_add_9ea2d_Jx4a65c_add_72be8 : GoodIn wsJx4a65c_add_9ea2d (wsV RJx4a65c 131 RJx4a65c yJx4a65c_add_72be8 wsJx4a65c_add_72be8) := goodIn_app (goodIn_of _ (by decide +kernel)) ggJx4a65c_add_9ea2d_Jx4a65c_add_72be8
theorem dJx4a65c_add_9ea2d_0 : decode cJx4a65c_add_9ea2d 0 = .ok (.aload_n 0, 1) := by decide +kernel
theorem dJx4a65c_add_9ea2d_1 : decode cJx4a65c_add_9ea2d 1 = .ok (.dup, 1) := by decide +kernel
theorem dJx4a65c_add_9ea2d_2 : decode cJx4a65c_add_9ea2d 2 = .ok (.getfield 63, 3) := by decide +kernel
theorem dJx4a65c_add_9ea2d_5 : decode cJx4a65c_add_9ea2d 5 = .ok (.iconst 1, 1) := by decide +kernel
