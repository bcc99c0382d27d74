theorem wsL_apl {a b big : List Cond} (h1 : ∀ w ∈ a, w ∈ big) (h2 : ∀ w ∈ b, w ∈ big) : ∀ w ∈ a ++ b, w ∈ big := fun w h => (List.mem_append.mp h).elim (h1 w) (h2 w)
theorem wsL_law_in0 : ∀ w ∈ wsL_law0, w ∈ lw_tbl := wsL_apl (wsL_apl (wsL_apl (wsL_apl (wsL_apl (wsL_apl (wsL_apl (wsL_apl (wsL_apl wsL_lw_r1 (wsL_apl wsL_lw_r2 (wsL_apl wsL_lw_r3 (wsL_apl wsL_lw_r4 (wsL_apl wsL_lw_r5 (wsL_apl wsL_lw_r6 (wsL_apl wsL_lw_r7 (wsL_apl wsL_lw_r8 (wsL_apl wsL_lw_r9 (wsL_apl wsL_lw_r10 (wsL_apl wsL_lw_r11 (wsL_apl wsL_lw_r12 (wsL_apl wsL_lw_r13 (wsL_apl wsL_lw_r14 (wsL_apl wsL_lw_r15 (wsL_apl wsL_lw_r16 (wsL_apl wsL_lw_r17 (wsL_apl wsL_lw_r18 (wsL_apl wsL_lw_r19 (wsL_apl wsL_lw_r20 (wsL_apl wsL_lw_r21 (wsL_apl wsL_lw_r22 (wsL_apl wsL_lw_r23 (wsL_apl wsL_lw_r24 (wsL_apl wsL_lw_r25 (wsL_apl wsL_lw_r26 (wsL_apl wsL_lw_r27 (wsL_apl wsL_lw_r28 (wsL_apl wsL_lw_r29 (wsL_apl wsL_lw_r30 wsL_lw_r31)))))))))))))))))))))))))))))) wsL_lw_wsX40) wsL_lw_wsX50) wsL_lw_wsJx4a65c0) wsL_lw_wsX30) wsL_lw_wsX20) wsL_lw_wsX10) wsL_lw_wsX00) (fun _ h => absurd h List.not_mem_nil)
theorem wsL_law_x0 : ∀ w ∈ (vx_atS RX4 34 "java/lang/IllegalStateException" ["java/lang/RuntimeException", "java/lang/Exception"]).filter goodWord, w ∈ lw_tbl := by decide +kernel
theorem wsL_law_x1 : ∀ w ∈ (vx_atS RX4 179 "java/lang/IndexOutOfBoundsException" ["java/lang/RuntimeException", "java/lang/Exception"]).filter goodWord, w ∈ lw_tbl := by decide +kernel
theorem wsL_law_x2 : ∀ w ∈ (vx_atS RX4 184 "java/lang/IllegalArgumentException" ["java/lang/RuntimeException", "java/lang/Exception"]).filter goodWord, w ∈ lw_tbl := by decide +kernel
theorem wsL_law_in : ∀ w ∈ wsL_law, w ∈ lw_tbl := fun w h => (List.mem_append.mp h).elim (fun h => (List.mem_append.mp h).elim (fun h => (List.mem_append.mp h).elim (fun h => wsL_law_in0 w h) (fun h => wsL_law_x0 w h)) (fun h => wsL_law_x1 w h)) (fun h => wsL_law_x2 w h)
theorem inlX0 : ∀ w ∈ wsX00, w ∈ wsL_law := fun _ h => List.mem_append_left _ (List.mem_append_left _ (List.mem_append_left _ (List.mem_append_left _ (List.mem_append_right _ h))))
theorem inX0 : ∀ w ∈ wsX00, w ∈ lw_tbl := fun w h => wsL_law_in w (inlX0 w h)
theorem inlX1 : ∀ w ∈ wsX10, w ∈ wsL_law := fun _ h => List.mem_append_left _ (List.mem_append_left _ (List.mem_append_left _ (List.mem_append_left _ (List.mem_append_left _ (List.mem_append_right _ h)))))
theorem inX1 : ∀ w ∈ wsX10, w ∈ lw_tbl := fun w h => wsL_law_in w (inlX1 w h)
theorem inlX2 : ∀ w ∈ wsX20, w ∈ wsL_law := fun _ h => List.mem_append_left _ (List.mem_append_left _ (List.mem_append_left _ (List.mem_append_left _ (List.mem_append_left _ (List.mem_append_left _ (List.mem_append_right _ h))))))
theorem inX2 : ∀ w ∈ wsX20, w ∈ lw_tbl := fun w h => wsL_law_in w (inlX2 w h)
theorem inlX3 : ∀ w ∈ wsX30, w ∈ wsL_law := fun _ h => List.mem_append_left _ (List.mem_append_left _ (List.mem_append_left _ (List.mem_append_left _ (List.mem_append_left _ (List.mem_append_left _ (List.mem_append_left _ (List.mem_append_right _ h)))))))
theorem inX3 : ∀ w ∈ wsX30, w ∈ lw_tbl := fun w h => wsL_law_in w (inlX3 w h)
theorem inlX4 : ∀ w ∈ wsX40, w ∈ wsL_law := fun _ h => List.mem_append_left _ (List.mem_append_left _ (List.mem_append_left _ (List.mem_append_left _ (List.mem_append_left _ (List.mem_append_left _ (List.mem_append_left _ (List.mem_append_left _ (List.mem_append_left _ (List.mem_append_left _ (List.mem_append_right _ h))))))))))
theorem inX4 : ∀ w ∈ wsX40, w ∈ lw_tbl := fun w h => wsL_law_in w (inlX4 w h)
theorem inlX5 : ∀ w ∈ wsX50, w ∈ wsL_law := fun _ h => List.mem_append_left _ (List.mem_append_left _ (List.mem_append_left _ (List.mem_append_left _ (List.mem_append_left _ (List.mem_append_left _ (List.mem_append_left _ (List.mem_append_left _ (List.mem_append_left _ (List.mem_append_right _ h)))))))))
theorem inX5 : ∀ w ∈ wsX50, w ∈ lw_tbl := fun w h => wsL_law_in w (inlX5 w h)
theorem inJx145de : ∀ w ∈ wsJx145de0, w ∈ lw_tbl := by decide +kernel
theorem inJx8e188 : ∀ w ∈ wsJx8e1880, w ∈ lw_tbl := by decide +kernel
theorem inJxab1ab : ∀ w ∈ wsJxab1ab0, w ∈ lw_tbl := by decide +kernel
theorem inJ9 : ∀ w ∈ wsJ90, w ∈ lw_tbl := by decide +kernel
theorem inJ0 : ∀ w ∈ wsJ00, w ∈ lw_tbl := by decide +kernel
theorem inJ10 : ∀ w ∈ wsJ100, w ∈ lw_tbl := by decide +kernel
theorem inJxa1e45 : ∀ w ∈ wsJxa1e450, w ∈ lw_tbl := by decide +kernel
theorem inJxc12de : ∀ w ∈ wsJxc12de0, w ∈ lw_tbl := by decide +kernel
theorem inlJx4a65c : ∀ w ∈ wsJx4a65c0, w ∈ wsL_law := fun _ h => List.mem_append_left _ (List.mem_append_left _ (List.mem_append_left _ (List.mem_append_left _ (List.mem_append_left _ (List.mem_append_left _ (List.mem_append_left _ (List.mem_append_left _ (List.mem_append_right _ h))))))))
theorem inJx4a65c : ∀ w ∈ wsJx4a65c0, w ∈ lw_tbl := fun w h => wsL_law_in w (inlJx4a65c w h)
theorem inJ7 : ∀ w ∈ wsJ70, w ∈ lw_tbl := by decide +kernel
theorem inJx5ef63 : ∀ w ∈ wsJx5ef630, w ∈ lw_tbl := by decide +kernel
theorem inJxbd725 : ∀ w ∈ wsJxbd7250, w ∈ lw_tbl := by decide +kernel
theorem inJ15 : ∀ w ∈ wsJ150, w ∈ lw_tbl := by decide +kernel
theorem inJxf0a74 : ∀ w ∈ wsJxf0a740, w ∈ lw_tbl := by decide +kernel
theorem inJxa66e6 : ∀ w ∈ wsJxa66e60, w ∈ lw_tbl := by decide +kernel
theorem inJ8 : ∀ w ∈ wsJ80, w ∈ lw_tbl := by decide +kernel
theorem inJ3 : ∀ w ∈ wsJ30, w ∈ lw_tbl := by decide +kernel
theorem dX0_init_0 : decode cX0_init 0 = .ok (.aload_n 0, 1) := by decide +kernel
theorem dX0_init_1 : decode cX0_init 1 = .ok (.invokespecial 3, 3) := by decide +kernel
theorem dX0_init_4 : decode cX0_init 4 = .ok (.aload_n 0, 1) := by decide +kernel
theorem dX0_init_5 : decode cX0_init 5 = .ok (.sipush 128, 3) := by decide +kernel
theorem dX0_init_8 : decode cX0_init 8 = .ok (.newarray .char, 2) := by decide +kernel
theorem dX0_init_10 : decode cX0_init 10 = .ok (.putfield 9, 3) := by decide +kernel
theorem dX0_init_13 : decode cX0_init 13 = .ok (.return_, 1) := by decide +kernel
theorem dX0_write_0 : decode cX0_write 0 = .ok (.aload_n 0, 1) := by decide +kernel
theorem dX0_write_1 : decode cX0_write 1 = .ok (.getfield 15, 3) := by decide +kernel
theorem dX0_write_4 : decode cX0_write 4 = .ok (.sipush 128, 3) := by decide +kernel
theorem dX0_write_7 : decode cX0_write 7 = .ok (.if_icmp .ge 23, 3) := by decide +kernel
theorem dX0_write_10 : decode cX0_write 10 = .ok (.aload_n 0, 1) := by decide +kernel
theorem dX0_write_11 : decode cX0_write 11 = .ok (.getfield 9, 3) := by decide +kernel
theorem dX0_write_14 : decode cX0_write 14 = .ok (.aload_n 0, 1) := by decide +kernel
theorem dX0_write_15 : decode cX0_write 15 = .ok (.getfield 15, 3) := by decide +kernel
theorem dX0_write_18 : decode cX0_write 18 = .ok (.iload_n 1, 1) := by decide +kernel
theorem dX0_write_19 : decode cX0_write 19 = .ok (.castore, 1) := by decide +kernel
theorem dX0_write_20 : decode cX0_write 20 = .ok (.aload_n 0, 1) := by decide +kernel
theorem dX0_write_21 : decode cX0_write 21 = .ok (.dup, 1) := by decide +kernel
theorem dX0_write_22 : decode cX0_write 22 = .ok (.getfield 15, 3) := by decide +kernel
theorem dX0_write_25 : decode cX0_write 25 = .ok (.iconst 1, 1) := by decide +kernel
theorem dX0_write_26 : decode cX0_write 26 = .ok (.iadd, 1) := by decide +kernel
theorem dX0_write_27 : decode cX0_write 27 = .ok (.putfield 15, 3) := by decide +kernel
theorem dX0_write_30 : decode cX0_write 30 = .ok (.return_, 1) := by decide +kernel
set_option maxRecDepth 20000 in
theorem ggX0_writePort_X0_write : GoodIn wsX0_writePort wsX0_write := goodIn_r _ [5, 6, 7, 8, 9] (by decide +kernel) (by decide +kernel)
set_option maxRecDepth 20000 in
theorem gX0_writePort_X0_write : GoodIn wsX0_writePort (wsV RX0 19 RX0 yX0_write wsX0_write) := goodIn_app (goodIn_of _ (by decide +kernel)) ggX0_writePort_X0_write
theorem dX0_writePort_0 : decode cX0_writePort 0 = .ok (.aload_n 0, 1) := by decide +kernel
theorem dX0_writePort_1 : decode cX0_writePort 1 = .ok (.bipush 65, 2) := by decide +kernel
theorem dX0_writePort_3 : decode cX0_writePort 3 = .ok (.iload_n 1, 1) := by decide +kernel
theorem dX0_writePort_4 : decode cX0_writePort 4 = .ok (.iadd, 1) := by decide +kernel
theorem dX0_writePort_5 : decode cX0_writePort 5 = .ok (.i2c, 1) := by decide +kernel
theorem dX0_writePort_6 : decode cX0_writePort 6 = .ok (.invokevirtual 19, 3) := by decide +kernel
theorem dX0_writePort_9 : decode cX0_writePort 9 = .ok (.return_, 1) := by decide +kernel
set_option maxRecDepth 20000 in
theorem ggX0_writeDay_X0_write : GoodIn wsX0_writeDay wsX0_write := goodIn_r _ [5, 6, 7, 8, 9] (by decide +kernel) (by decide +kernel)
set_option maxRecDepth 20000 in
theorem gX0_writeDay_X0_write : GoodIn wsX0_writeDay (wsV RX0 19 RX0 yX0_write wsX0_write) := goodIn_app (goodIn_of _ (by decide +kernel)) ggX0_writeDay_X0_write
theorem dX0_writeDay_0 : decode cX0_writeDay 0 = .ok (.sipush 1000, 3) := by decide +kernel
theorem dX0_writeDay_3 : decode cX0_writeDay 3 = .ok (.istore_n 2, 1) := by decide +kernel
theorem dX0_writeDay_4 : decode cX0_writeDay 4 = .ok (.iload_n 2, 1) := by decide +kernel
theorem dX0_writeDay_5 : decode cX0_writeDay 5 = .ok (.ifCond .le 35, 3) := by decide +kernel
theorem dX0_writeDay_8 : decode cX0_writeDay 8 = .ok (.iload_n 1, 1) := by decide +kernel
theorem dX0_writeDay_9 : decode cX0_writeDay 9 = .ok (.iload_n 2, 1) := by decide +kernel
theorem dX0_writeDay_10 : decode cX0_writeDay 10 = .ok (.if_icmp .ge 8, 3) := by decide +kernel
theorem dX0_writeDay_13 : decode cX0_writeDay 13 = .ok (.iload_n 2, 1) := by decide +kernel
theorem dX0_writeDay_14 : decode cX0_writeDay 14 = .ok (.iconst 1, 1) := by decide +kernel
theorem dX0_writeDay_15 : decode cX0_writeDay 15 = .ok (.if_icmp .ne 17, 3) := by decide +kernel
theorem dX0_writeDay_18 : decode cX0_writeDay 18 = .ok (.aload_n 0, 1) := by decide +kernel
theorem dX0_writeDay_19 : decode cX0_writeDay 19 = .ok (.bipush 48, 2) := by decide +kernel
theorem dX0_writeDay_21 : decode cX0_writeDay 21 = .ok (.iload_n 1, 1) := by decide +kernel
theorem dX0_writeDay_22 : decode cX0_writeDay 22 = .ok (.iload_n 2, 1) := by decide +kernel
theorem dX0_writeDay_23 : decode cX0_writeDay 23 = .ok (.idiv, 1) := by decide +kernel
theorem dX0_writeDay_24 : decode cX0_writeDay 24 = .ok (.bipush 10, 2) := by decide +kernel
theorem dX0_writeDay_26 : decode cX0_writeDay 26 = .ok (.irem, 1) := by decide +kernel
theorem dX0_writeDay_27 : decode cX0_writeDay 27 = .ok (.iadd, 1) := by decide +kernel
theorem dX0_writeDay_28 : decode cX0_writeDay 28 = .ok (.i2c, 1) := by decide +kernel
theorem dX0_writeDay_29 : decode cX0_writeDay 29 = .ok (.invokevirtual 19, 3) := by decide +kernel
theorem dX0_writeDay_32 : decode cX0_writeDay 32 = .ok (.iload_n 2, 1) := by decide +kernel
theorem dX0_writeDay_33 : decode cX0_writeDay 33 = .ok (.bipush 10, 2) := by decide +kernel
theorem dX0_writeDay_35 : decode cX0_writeDay 35 = .ok (.idiv, 1) := by decide +kernel
theorem dX0_writeDay_36 : decode cX0_writeDay 36 = .ok (.istore_n 2, 1) := by decide +kernel
theorem dX0_writeDay_37 : decode cX0_writeDay 37 = .ok (.goto (-33), 3) := by decide +kernel
theorem dX0_writeDay_40 : decode cX0_writeDay 40 = .ok (.return_, 1) := by decide +kernel
theorem dX0_insert_0 : decode cX0_insert 0 = .ok (.iload_n 1, 1) := by decide +kernel
theorem dX0_insert_1 : decode cX0_insert 1 = .ok (.ifCond .lt 21, 3) := by decide +kernel
theorem dX0_insert_4 : decode cX0_insert 4 = .ok (.iload_n 1, 1) := by decide +kernel
theorem dX0_insert_5 : decode cX0_insert 5 = .ok (.aload_n 0, 1) := by decide +kernel
theorem dX0_insert_6 : decode cX0_insert 6 = .ok (.getfield 15, 3) := by decide +kernel
theorem dX0_insert_9 : decode cX0_insert 9 = .ok (.if_icmp .gt 13, 3) := by decide +kernel
theorem dX0_insert_12 : decode cX0_insert 12 = .ok (.aload_n 0, 1) := by decide +kernel
theorem dX0_insert_13 : decode cX0_insert 13 = .ok (.getfield 15, 3) := by decide +kernel
theorem dX0_insert_16 : decode cX0_insert 16 = .ok (.sipush 128, 3) := by decide +kernel
theorem dX0_insert_19 : decode cX0_insert 19 = .ok (.if_icmp .lt 4, 3) := by decide +kernel
theorem dX0_insert_22 : decode cX0_insert 22 = .ok (.return_, 1) := by decide +kernel
theorem dX0_insert_23 : decode cX0_insert 23 = .ok (.aload_n 0, 1) := by decide +kernel
theorem dX0_insert_24 : decode cX0_insert 24 = .ok (.getfield 15, 3) := by decide +kernel
theorem dX0_insert_27 : decode cX0_insert 27 = .ok (.istore_n 3, 1) := by decide +kernel
theorem dX0_insert_28 : decode cX0_insert 28 = .ok (.iload_n 3, 1) := by decide +kernel
theorem dX0_insert_29 : decode cX0_insert 29 = .ok (.iload_n 1, 1) := by decide +kernel
theorem dX0_insert_30 : decode cX0_insert 30 = .ok (.if_icmp .le 23, 3) := by decide +kernel
theorem dX0_insert_33 : decode cX0_insert 33 = .ok (.aload_n 0, 1) := by decide +kernel
theorem dX0_insert_34 : decode cX0_insert 34 = .ok (.getfield 9, 3) := by decide +kernel
theorem dX0_insert_37 : decode cX0_insert 37 = .ok (.iload_n 3, 1) := by decide +kernel
theorem dX0_insert_38 : decode cX0_insert 38 = .ok (.aload_n 0, 1) := by decide +kernel
theorem dX0_insert_39 : decode cX0_insert 39 = .ok (.getfield 9, 3) := by decide +kernel
theorem dX0_insert_42 : decode cX0_insert 42 = .ok (.iload_n 3, 1) := by decide +kernel
theorem dX0_insert_43 : decode cX0_insert 43 = .ok (.iconst 1, 1) := by decide +kernel
theorem dX0_insert_44 : decode cX0_insert 44 = .ok (.isub, 1) := by decide +kernel
theorem dX0_insert_45 : decode cX0_insert 45 = .ok (.caload, 1) := by decide +kernel
theorem dX0_insert_46 : decode cX0_insert 46 = .ok (.castore, 1) := by decide +kernel
theorem dX0_insert_47 : decode cX0_insert 47 = .ok (.iinc 3 (-1), 3) := by decide +kernel
theorem dX0_insert_50 : decode cX0_insert 50 = .ok (.goto (-22), 3) := by decide +kernel
theorem dX0_insert_53 : decode cX0_insert 53 = .ok (.aload_n 0, 1) := by decide +kernel
theorem dX0_insert_54 : decode cX0_insert 54 = .ok (.getfield 9, 3) := by decide +kernel
theorem dX0_insert_57 : decode cX0_insert 57 = .ok (.iload_n 1, 1) := by decide +kernel
theorem dX0_insert_58 : decode cX0_insert 58 = .ok (.iload_n 2, 1) := by decide +kernel
theorem dX0_insert_59 : decode cX0_insert 59 = .ok (.castore, 1) := by decide +kernel
theorem dX0_insert_60 : decode cX0_insert 60 = .ok (.aload_n 0, 1) := by decide +kernel
theorem dX0_insert_61 : decode cX0_insert 61 = .ok (.dup, 1) := by decide +kernel
theorem dX0_insert_62 : decode cX0_insert 62 = .ok (.getfield 15, 3) := by decide +kernel
theorem dX0_insert_65 : decode cX0_insert 65 = .ok (.iconst 1, 1) := by decide +kernel
theorem dX0_insert_66 : decode cX0_insert 66 = .ok (.iadd, 1) := by decide +kernel
theorem dX0_insert_67 : decode cX0_insert 67 = .ok (.putfield 15, 3) := by decide +kernel
theorem dX0_insert_70 : decode cX0_insert 70 = .ok (.return_, 1) := by decide +kernel
theorem dX0_portIndex_0 : decode cX0_portIndex 0 = .ok (.iconst 0, 1) := by decide +kernel
theorem dX0_portIndex_1 : decode cX0_portIndex 1 = .ok (.istore_n 2, 1) := by decide +kernel
theorem dX0_portIndex_2 : decode cX0_portIndex 2 = .ok (.aload_n 0, 1) := by decide +kernel
theorem dX0_portIndex_3 : decode cX0_portIndex 3 = .ok (.getfield 15, 3) := by decide +kernel
theorem dX0_portIndex_6 : decode cX0_portIndex 6 = .ok (.iconst 1, 1) := by decide +kernel
theorem dX0_portIndex_7 : decode cX0_portIndex 7 = .ok (.isub, 1) := by decide +kernel
theorem dX0_portIndex_8 : decode cX0_portIndex 8 = .ok (.istore_n 3, 1) := by decide +kernel
theorem dX0_portIndex_9 : decode cX0_portIndex 9 = .ok (.iload_n 3, 1) := by decide +kernel
theorem dX0_portIndex_10 : decode cX0_portIndex 10 = .ok (.ifCond .lt 41, 3) := by decide +kernel
theorem dX0_portIndex_13 : decode cX0_portIndex 13 = .ok (.aload_n 0, 1) := by decide +kernel
theorem dX0_portIndex_14 : decode cX0_portIndex 14 = .ok (.getfield 9, 3) := by decide +kernel
theorem dX0_portIndex_17 : decode cX0_portIndex 17 = .ok (.iload_n 3, 1) := by decide +kernel
theorem dX0_portIndex_18 : decode cX0_portIndex 18 = .ok (.caload, 1) := by decide +kernel
theorem dX0_portIndex_19 : decode cX0_portIndex 19 = .ok (.bipush 65, 2) := by decide +kernel
theorem dX0_portIndex_21 : decode cX0_portIndex 21 = .ok (.if_icmp .lt 24, 3) := by decide +kernel
theorem dX0_portIndex_24 : decode cX0_portIndex 24 = .ok (.aload_n 0, 1) := by decide +kernel
theorem dX0_portIndex_25 : decode cX0_portIndex 25 = .ok (.getfield 9, 3) := by decide +kernel
theorem dX0_portIndex_28 : decode cX0_portIndex 28 = .ok (.iload_n 3, 1) := by decide +kernel
theorem dX0_portIndex_29 : decode cX0_portIndex 29 = .ok (.caload, 1) := by decide +kernel
theorem dX0_portIndex_30 : decode cX0_portIndex 30 = .ok (.bipush 75, 2) := by decide +kernel
theorem dX0_portIndex_32 : decode cX0_portIndex 32 = .ok (.if_icmp .ge 13, 3) := by decide +kernel
theorem dX0_portIndex_35 : decode cX0_portIndex 35 = .ok (.iload_n 2, 1) := by decide +kernel
theorem dX0_portIndex_36 : decode cX0_portIndex 36 = .ok (.iload_n 1, 1) := by decide +kernel
theorem dX0_portIndex_37 : decode cX0_portIndex 37 = .ok (.if_icmp .ne 5, 3) := by decide +kernel
theorem dX0_portIndex_40 : decode cX0_portIndex 40 = .ok (.iload_n 3, 1) := by decide +kernel
theorem dX0_portIndex_41 : decode cX0_portIndex 41 = .ok (.ireturn, 1) := by decide +kernel
theorem dX0_portIndex_42 : decode cX0_portIndex 42 = .ok (.iinc 2 1, 3) := by decide +kernel
theorem dX0_portIndex_45 : decode cX0_portIndex 45 = .ok (.iinc 3 (-1), 3) := by decide +kernel
theorem dX0_portIndex_48 : decode cX0_portIndex 48 = .ok (.goto (-39), 3) := by decide +kernel
theorem dX0_portIndex_51 : decode cX0_portIndex 51 = .ok (.iconst (-1), 1) := by decide +kernel
theorem dX0_portIndex_52 : decode cX0_portIndex 52 = .ok (.ireturn, 1) := by decide +kernel
theorem dX0_standsBehind_0 : decode cX0_standsBehind 0 = .ok (.iload_n 1, 1) := by decide +kernel
theorem dX0_standsBehind_1 : decode cX0_standsBehind 1 = .ok (.ifCond .le 27, 3) := by decide +kernel
theorem dX0_standsBehind_4 : decode cX0_standsBehind 4 = .ok (.iload_n 1, 1) := by decide +kernel
theorem dX0_standsBehind_5 : decode cX0_standsBehind 5 = .ok (.aload_n 0, 1) := by decide +kernel
theorem dX0_standsBehind_6 : decode cX0_standsBehind 6 = .ok (.getfield 15, 3) := by decide +kernel
theorem dX0_standsBehind_9 : decode cX0_standsBehind 9 = .ok (.if_icmp .gt 19, 3) := by decide +kernel
theorem dX0_standsBehind_12 : decode cX0_standsBehind 12 = .ok (.aload_n 0, 1) := by decide +kernel
theorem dX0_standsBehind_13 : decode cX0_standsBehind 13 = .ok (.getfield 9, 3) := by decide +kernel
theorem dX0_standsBehind_16 : decode cX0_standsBehind 16 = .ok (.iload_n 1, 1) := by decide +kernel
theorem dX0_standsBehind_17 : decode cX0_standsBehind 17 = .ok (.iconst 1, 1) := by decide +kernel
theorem dX0_standsBehind_18 : decode cX0_standsBehind 18 = .ok (.isub, 1) := by decide +kernel
theorem dX0_standsBehind_19 : decode cX0_standsBehind 19 = .ok (.caload, 1) := by decide +kernel
theorem dX0_standsBehind_20 : decode cX0_standsBehind 20 = .ok (.iload_n 2, 1) := by decide +kernel
theorem dX0_standsBehind_21 : decode cX0_standsBehind 21 = .ok (.if_icmp .ne 7, 3) := by decide +kernel
theorem dX0_standsBehind_24 : decode cX0_standsBehind 24 = .ok (.iconst 1, 1) := by decide +kernel
theorem dX0_standsBehind_25 : decode cX0_standsBehind 25 = .ok (.goto 4, 3) := by decide +kernel
theorem dX0_standsBehind_28 : decode cX0_standsBehind 28 = .ok (.iconst 0, 1) := by decide +kernel
theorem dX0_standsBehind_29 : decode cX0_standsBehind 29 = .ok (.ireturn, 1) := by decide +kernel
set_option maxRecDepth 20000 in
theorem ggX0_placeRead_X0_standsBehind : GoodIn wsX0_placeRead wsX0_standsBehind := goodIn_r _ [7, 1, 2, 12, 13] (by decide +kernel) (by decide +kernel)
set_option maxRecDepth 20000 in
theorem gX0_placeRead_X0_standsBehind : GoodIn wsX0_placeRead (wsV RX0 23 RX0 yX0_standsBehind wsX0_standsBehind) := goodIn_app (goodIn_of _ (by decide +kernel)) ggX0_placeRead_X0_standsBehind
set_option maxRecDepth 20000 in
theorem ggX0_placeRead_X0_portIndex : GoodIn wsX0_placeRead wsX0_portIndex := goodIn_r _ [11, 1, 2, 12, 13] (by decide +kernel) (by decide +kernel)
set_option maxRecDepth 20000 in
theorem gX0_placeRead_X0_portIndex : GoodIn wsX0_placeRead (wsV RX0 27 RX0 yX0_portIndex wsX0_portIndex) := goodIn_app (goodIn_of _ (by decide +kernel)) ggX0_placeRead_X0_portIndex
theorem dX0_placeRead_0 : decode cX0_placeRead 0 = .ok (.aload_n 0, 1) := by decide +kernel
theorem dX0_placeRead_1 : decode cX0_placeRead 1 = .ok (.aload_n 0, 1) := by decide +kernel
theorem dX0_placeRead_2 : decode cX0_placeRead 2 = .ok (.getfield 15, 3) := by decide +kernel
theorem dX0_placeRead_5 : decode cX0_placeRead 5 = .ok (.bipush 33, 2) := by decide +kernel
theorem dX0_placeRead_7 : decode cX0_placeRead 7 = .ok (.invokevirtual 23, 3) := by decide +kernel
theorem dX0_placeRead_10 : decode cX0_placeRead 10 = .ok (.ifCond .eq 6, 3) := by decide +kernel
theorem dX0_placeRead_13 : decode cX0_placeRead 13 = .ok (.bipush (-3), 2) := by decide +kernel
theorem dX0_placeRead_15 : decode cX0_placeRead 15 = .ok (.ireturn, 1) := by decide +kernel
theorem dX0_placeRead_16 : decode cX0_placeRead 16 = .ok (.aload_n 0, 1) := by decide +kernel
theorem dX0_placeRead_17 : decode cX0_placeRead 17 = .ok (.aload_n 0, 1) := by decide +kernel
theorem dX0_placeRead_18 : decode cX0_placeRead 18 = .ok (.getfield 15, 3) := by decide +kernel
theorem dX0_placeRead_21 : decode cX0_placeRead 21 = .ok (.bipush 43, 2) := by decide +kernel
theorem dX0_placeRead_23 : decode cX0_placeRead 23 = .ok (.invokevirtual 23, 3) := by decide +kernel
theorem dX0_placeRead_26 : decode cX0_placeRead 26 = .ok (.ifCond .ne 16, 3) := by decide +kernel
theorem dX0_placeRead_29 : decode cX0_placeRead 29 = .ok (.aload_n 0, 1) := by decide +kernel
theorem dX0_placeRead_30 : decode cX0_placeRead 30 = .ok (.aload_n 0, 1) := by decide +kernel
theorem dX0_placeRead_31 : decode cX0_placeRead 31 = .ok (.getfield 15, 3) := by decide +kernel
theorem dX0_placeRead_34 : decode cX0_placeRead 34 = .ok (.bipush 42, 2) := by decide +kernel
theorem dX0_placeRead_36 : decode cX0_placeRead 36 = .ok (.invokevirtual 23, 3) := by decide +kernel
theorem dX0_placeRead_39 : decode cX0_placeRead 39 = .ok (.ifCond .eq 6, 3) := by decide +kernel
theorem dX0_placeRead_42 : decode cX0_placeRead 42 = .ok (.bipush (-4), 2) := by decide +kernel
theorem dX0_placeRead_44 : decode cX0_placeRead 44 = .ok (.ireturn, 1) := by decide +kernel
theorem dX0_placeRead_45 : decode cX0_placeRead 45 = .ok (.aload_n 0, 1) := by decide +kernel
theorem dX0_placeRead_46 : decode cX0_placeRead 46 = .ok (.iconst 0, 1) := by decide +kernel
theorem dX0_placeRead_47 : decode cX0_placeRead 47 = .ok (.invokevirtual 27, 3) := by decide +kernel
theorem dX0_placeRead_50 : decode cX0_placeRead 50 = .ok (.istore_n 1, 1) := by decide +kernel
theorem dX0_placeRead_51 : decode cX0_placeRead 51 = .ok (.iload_n 1, 1) := by decide +kernel
theorem dX0_placeRead_52 : decode cX0_placeRead 52 = .ok (.iconst (-1), 1) := by decide +kernel
theorem dX0_placeRead_53 : decode cX0_placeRead 53 = .ok (.if_icmp .ne 5, 3) := by decide +kernel
theorem dX0_placeRead_56 : decode cX0_placeRead 56 = .ok (.iconst (-1), 1) := by decide +kernel
theorem dX0_placeRead_57 : decode cX0_placeRead 57 = .ok (.ireturn, 1) := by decide +kernel
theorem dX0_placeRead_58 : decode cX0_placeRead 58 = .ok (.iload_n 1, 1) := by decide +kernel
theorem dX0_placeRead_59 : decode cX0_placeRead 59 = .ok (.aload_n 0, 1) := by decide +kernel
theorem dX0_placeRead_60 : decode cX0_placeRead 60 = .ok (.getfield 15, 3) := by decide +kernel
theorem dX0_placeRead_63 : decode cX0_placeRead 63 = .ok (.iconst 1, 1) := by decide +kernel
theorem dX0_placeRead_64 : decode cX0_placeRead 64 = .ok (.isub, 1) := by decide +kernel
theorem dX0_placeRead_65 : decode cX0_placeRead 65 = .ok (.if_icmp .ne 17, 3) := by decide +kernel
theorem dX0_placeRead_68 : decode cX0_placeRead 68 = .ok (.aload_n 0, 1) := by decide +kernel
theorem dX0_placeRead_69 : decode cX0_placeRead 69 = .ok (.iload_n 1, 1) := by decide +kernel
theorem dX0_placeRead_70 : decode cX0_placeRead 70 = .ok (.bipush 62, 2) := by decide +kernel
theorem dX0_placeRead_72 : decode cX0_placeRead 72 = .ok (.invokevirtual 23, 3) := by decide +kernel
theorem dX0_placeRead_75 : decode cX0_placeRead 75 = .ok (.ifCond .eq 7, 3) := by decide +kernel
theorem dX0_placeRead_78 : decode cX0_placeRead 78 = .ok (.iconst 1, 1) := by decide +kernel
theorem dX0_placeRead_79 : decode cX0_placeRead 79 = .ok (.goto 4, 3) := by decide +kernel
theorem dX0_placeRead_82 : decode cX0_placeRead 82 = .ok (.iconst 0, 1) := by decide +kernel
theorem dX0_placeRead_83 : decode cX0_placeRead 83 = .ok (.istore_n 2, 1) := by decide +kernel
theorem dX0_placeRead_84 : decode cX0_placeRead 84 = .ok (.iload_n 2, 1) := by decide +kernel
theorem dX0_placeRead_85 : decode cX0_placeRead 85 = .ok (.ifCond .eq 8, 3) := by decide +kernel
theorem dX0_placeRead_88 : decode cX0_placeRead 88 = .ok (.bipush (-2), 2) := by decide +kernel
theorem dX0_placeRead_90 : decode cX0_placeRead 90 = .ok (.goto 12, 3) := by decide +kernel
theorem dX0_placeRead_93 : decode cX0_placeRead 93 = .ok (.aload_n 0, 1) := by decide +kernel
theorem dX0_placeRead_94 : decode cX0_placeRead 94 = .ok (.getfield 9, 3) := by decide +kernel
theorem dX0_placeRead_97 : decode cX0_placeRead 97 = .ok (.iload_n 1, 1) := by decide +kernel
theorem dX0_placeRead_98 : decode cX0_placeRead 98 = .ok (.caload, 1) := by decide +kernel
theorem dX0_placeRead_99 : decode cX0_placeRead 99 = .ok (.bipush 65, 2) := by decide +kernel
theorem dX0_placeRead_101 : decode cX0_placeRead 101 = .ok (.isub, 1) := by decide +kernel
theorem dX0_placeRead_102 : decode cX0_placeRead 102 = .ok (.ireturn, 1) := by decide +kernel
set_option maxRecDepth 20000 in
theorem ggX1_init_X0_init : GoodIn wsX1_init wsX0_init := goodIn_r _ [15, 16, 2, 3, 17, 18, 19, 20] (by decide +kernel) (by decide +kernel)
set_option maxRecDepth 20000 in
theorem gX1_init_X0_init_n11 : GoodIn wsX1_init (wsX0_init) := ggX1_init_X0_init
theorem dX1_init_0 : decode cX1_init 0 = .ok (.aload_n 0, 1) := by decide +kernel
theorem dX1_init_1 : decode cX1_init 1 = .ok (.invokespecial 3, 3) := by decide +kernel
theorem dX1_init_4 : decode cX1_init 4 = .ok (.aload_n 0, 1) := by decide +kernel
theorem dX1_init_5 : decode cX1_init 5 = .ok (.new 9, 3) := by decide +kernel
theorem dX1_init_8 : decode cX1_init 8 = .ok (.dup, 1) := by decide +kernel
theorem dX1_init_9 : decode cX1_init 9 = .ok (.invokespecial 11, 3) := by decide +kernel
theorem dX1_init_12 : decode cX1_init 12 = .ok (.putfield 12, 3) := by decide +kernel
theorem dX1_init_15 : decode cX1_init 15 = .ok (.aload_n 0, 1) := by decide +kernel
theorem dX1_init_16 : decode cX1_init 16 = .ok (.iconst (-1), 1) := by decide +kernel
theorem dX1_init_17 : decode cX1_init 17 = .ok (.putfield 18, 3) := by decide +kernel
theorem dX1_init_20 : decode cX1_init 20 = .ok (.aload_n 0, 1) := by decide +kernel
theorem dX1_init_21 : decode cX1_init 21 = .ok (.iload_n 1, 1) := by decide +kernel
theorem dX1_init_22 : decode cX1_init 22 = .ok (.putfield 22, 3) := by decide +kernel
theorem dX1_init_25 : decode cX1_init 25 = .ok (.aload_n 0, 1) := by decide +kernel
theorem dX1_init_26 : decode cX1_init 26 = .ok (.aload_n 2, 1) := by decide +kernel
theorem dX1_init_27 : decode cX1_init 27 = .ok (.putfield 25, 3) := by decide +kernel
theorem dX1_init_30 : decode cX1_init 30 = .ok (.aload_n 0, 1) := by decide +kernel
theorem dX1_init_31 : decode cX1_init 31 = .ok (.iload_n 3, 1) := by decide +kernel
theorem dX1_init_32 : decode cX1_init 32 = .ok (.putfield 29, 3) := by decide +kernel
theorem dX1_init_35 : decode cX1_init 35 = .ok (.aload_n 0, 1) := by decide +kernel
theorem dX1_init_36 : decode cX1_init 36 = .ok (.iload 4, 2) := by decide +kernel
theorem dX1_init_38 : decode cX1_init 38 = .ok (.putfield 32, 3) := by decide +kernel
theorem dX1_init_41 : decode cX1_init 41 = .ok (.aload_n 0, 1) := by decide +kernel
theorem dX1_init_42 : decode cX1_init 42 = .ok (.iload 5, 2) := by decide +kernel
theorem dX1_init_44 : decode cX1_init 44 = .ok (.putfield 35, 3) := by decide +kernel
theorem dX1_init_47 : decode cX1_init 47 = .ok (.return_, 1) := by decide +kernel
theorem dX1_isLying_0 : decode cX1_isLying 0 = .ok (.aload_n 0, 1) := by decide +kernel
theorem dX1_isLying_1 : decode cX1_isLying 1 = .ok (.getfield 18, 3) := by decide +kernel
theorem dX1_isLying_4 : decode cX1_isLying 4 = .ok (.ifCond .eq 19, 3) := by decide +kernel
theorem dX1_isLying_7 : decode cX1_isLying 7 = .ok (.aload_n 0, 1) := by decide +kernel
theorem dX1_isLying_8 : decode cX1_isLying 8 = .ok (.getfield 18, 3) := by decide +kernel
theorem dX1_isLying_11 : decode cX1_isLying 11 = .ok (.iconst 2, 1) := by decide +kernel
theorem dX1_isLying_12 : decode cX1_isLying 12 = .ok (.if_icmp .eq 11, 3) := by decide +kernel
theorem dX1_isLying_15 : decode cX1_isLying 15 = .ok (.aload_n 0, 1) := by decide +kernel
theorem dX1_isLying_16 : decode cX1_isLying 16 = .ok (.getfield 18, 3) := by decide +kernel
theorem dX1_isLying_19 : decode cX1_isLying 19 = .ok (.iconst 4, 1) := by decide +kernel
theorem dX1_isLying_20 : decode cX1_isLying 20 = .ok (.if_icmp .ne 7, 3) := by decide +kernel
theorem dX1_isLying_23 : decode cX1_isLying 23 = .ok (.iconst 1, 1) := by decide +kernel
theorem dX1_isLying_24 : decode cX1_isLying 24 = .ok (.goto 4, 3) := by decide +kernel
theorem dX1_isLying_27 : decode cX1_isLying 27 = .ok (.iconst 0, 1) := by decide +kernel
theorem dX1_isLying_28 : decode cX1_isLying 28 = .ok (.ireturn, 1) := by decide +kernel
theorem dX1_place_0 : decode cX1_place 0 = .ok (.aload_n 0, 1) := by decide +kernel
theorem dX1_place_1 : decode cX1_place 1 = .ok (.getfield 18, 3) := by decide +kernel
theorem dX1_place_4 : decode cX1_place 4 = .ok (.tableswitch 53 1 7 #[47, 53, 44, 53, 50, 53, 50], 44) := by decide +kernel
theorem dX1_place_48 : decode cX1_place 48 = .ok (.bipush (-2), 2) := by decide +kernel
theorem dX1_place_50 : decode cX1_place 50 = .ok (.ireturn, 1) := by decide +kernel
theorem dX1_place_51 : decode cX1_place 51 = .ok (.bipush (-3), 2) := by decide +kernel
theorem dX1_place_53 : decode cX1_place 53 = .ok (.ireturn, 1) := by decide +kernel
theorem dX1_place_54 : decode cX1_place 54 = .ok (.bipush (-4), 2) := by decide +kernel
theorem dX1_place_56 : decode cX1_place 56 = .ok (.ireturn, 1) := by decide +kernel
theorem dX1_place_57 : decode cX1_place 57 = .ok (.aload_n 0, 1) := by decide +kernel
theorem dX1_place_58 : decode cX1_place 58 = .ok (.getfield 29, 3) := by decide +kernel
theorem dX1_place_61 : decode cX1_place 61 = .ok (.ireturn, 1) := by decide +kernel
set_option maxRecDepth 20000 in
theorem ggX1_hold_X0_write : GoodIn wsX1_hold wsX0_write := goodIn_r _ [9, 10, 11, 22, 23] (by decide +kernel) (by decide +kernel)
set_option maxRecDepth 20000 in
theorem gX1_hold_X0_write : GoodIn wsX1_hold (wsV RX1 39 RX0 yX0_write wsX0_write) := goodIn_app (goodIn_of _ (by decide +kernel)) ggX1_hold_X0_write
theorem dX1_hold_0 : decode cX1_hold 0 = .ok (.aload_n 0, 1) := by decide +kernel
theorem dX1_hold_1 : decode cX1_hold 1 = .ok (.getfield 18, 3) := by decide +kernel
theorem dX1_hold_4 : decode cX1_hold 4 = .ok (.ifCond .eq 21, 3) := by decide +kernel
theorem dX1_hold_7 : decode cX1_hold 7 = .ok (.aload_n 0, 1) := by decide +kernel
theorem dX1_hold_8 : decode cX1_hold 8 = .ok (.getfield 12, 3) := by decide +kernel
theorem dX1_hold_11 : decode cX1_hold 11 = .ok (.ldc 38, 2) := by decide +kernel
theorem dX1_hold_13 : decode cX1_hold 13 = .ok (.invokevirtual 39, 3) := by decide +kernel
theorem dX1_hold_16 : decode cX1_hold 16 = .ok (.aload_n 0, 1) := by decide +kernel
theorem dX1_hold_17 : decode cX1_hold 17 = .ok (.getfield 12, 3) := by decide +kernel
theorem dX1_hold_20 : decode cX1_hold 20 = .ok (.ldc 43, 2) := by decide +kernel
theorem dX1_hold_22 : decode cX1_hold 22 = .ok (.invokevirtual 39, 3) := by decide +kernel
theorem dX1_hold_25 : decode cX1_hold 25 = .ok (.aload_n 0, 1) := by decide +kernel
theorem dX1_hold_26 : decode cX1_hold 26 = .ok (.iconst 0, 1) := by decide +kernel
theorem dX1_hold_27 : decode cX1_hold 27 = .ok (.putfield 18, 3) := by decide +kernel
theorem dX1_hold_30 : decode cX1_hold 30 = .ok (.return_, 1) := by decide +kernel
set_option maxRecDepth 20000 in
theorem ggX1_sendTo_X4_mailDays : GoodIn wsX1_sendTo wsX4_mailDays := goodIn_r _ [8, 9, 10, 11, 12] (by decide +kernel) (by decide +kernel)
set_option maxRecDepth 20000 in
theorem gX1_sendTo_X4_mailDays_n44 : GoodIn wsX1_sendTo (wsX4_mailDays) := ggX1_sendTo_X4_mailDays
set_option maxRecDepth 20000 in
theorem ggX1_sendTo_X0_portIndex : GoodIn wsX1_sendTo wsX0_portIndex := goodIn_r _ [17, 18, 19, 43, 44] (by decide +kernel) (by decide +kernel)
set_option maxRecDepth 20000 in
theorem gX1_sendTo_X0_portIndex : GoodIn wsX1_sendTo (wsV RX1 54 RX0 yX0_portIndex wsX0_portIndex) := goodIn_app (goodIn_of _ (by decide +kernel)) ggX1_sendTo_X0_portIndex
set_option maxRecDepth 20000 in
theorem ggX1_sendTo_X0_insert : GoodIn wsX1_sendTo wsX0_insert := goodIn_r _ [23, 18, 19, 43, 44] (by decide +kernel) (by decide +kernel)
set_option maxRecDepth 20000 in
theorem gX1_sendTo_X0_insert : GoodIn wsX1_sendTo (wsV RX1 58 RX0 yX0_insert wsX0_insert) := goodIn_app (goodIn_of _ (by decide +kernel)) ggX1_sendTo_X0_insert
set_option maxRecDepth 20000 in
theorem ggX1_sendTo_X0_write : GoodIn wsX1_sendTo wsX0_write := goodIn_r _ [27, 18, 19, 43, 44] (by decide +kernel) (by decide +kernel)
set_option maxRecDepth 20000 in
theorem gX1_sendTo_X0_write : GoodIn wsX1_sendTo (wsV RX1 39 RX0 yX0_write wsX0_write) := goodIn_app (goodIn_of _ (by decide +kernel)) ggX1_sendTo_X0_write
set_option maxRecDepth 20000 in
theorem ggX1_sendTo_X0_writePort : GoodIn wsX1_sendTo wsX0_writePort := goodIn_r _ [31, 32, 25, 26, 16, 27, 18, 19, 43, 44] (by decide +kernel) (by decide +kernel)
set_option maxRecDepth 20000 in
theorem gX1_sendTo_X0_writePort : GoodIn wsX1_sendTo (wsV RX1 62 RX0 yX0_writePort wsX0_writePort) := goodIn_app (goodIn_of _ (by decide +kernel)) ggX1_sendTo_X0_writePort
theorem dX1_sendTo_0 : decode cX1_sendTo 0 = .ok (.aload_n 0, 1) := by decide +kernel
theorem dX1_sendTo_1 : decode cX1_sendTo 1 = .ok (.iload_n 2, 1) := by decide +kernel
theorem dX1_sendTo_2 : decode cX1_sendTo 2 = .ok (.aload_n 0, 1) := by decide +kernel
theorem dX1_sendTo_3 : decode cX1_sendTo 3 = .ok (.getfield 29, 3) := by decide +kernel
theorem dX1_sendTo_6 : decode cX1_sendTo 6 = .ok (.iload_n 1, 1) := by decide +kernel
theorem dX1_sendTo_7 : decode cX1_sendTo 7 = .ok (.invokestatic 44, 3) := by decide +kernel
theorem dX1_sendTo_10 : decode cX1_sendTo 10 = .ok (.iadd, 1) := by decide +kernel
theorem dX1_sendTo_11 : decode cX1_sendTo 11 = .ok (.putfield 48, 3) := by decide +kernel
theorem dX1_sendTo_14 : decode cX1_sendTo 14 = .ok (.aload_n 0, 1) := by decide +kernel
theorem dX1_sendTo_15 : decode cX1_sendTo 15 = .ok (.iload_n 1, 1) := by decide +kernel
theorem dX1_sendTo_16 : decode cX1_sendTo 16 = .ok (.putfield 29, 3) := by decide +kernel
theorem dX1_sendTo_19 : decode cX1_sendTo 19 = .ok (.aload_n 0, 1) := by decide +kernel
theorem dX1_sendTo_20 : decode cX1_sendTo 20 = .ok (.iconst 3, 1) := by decide +kernel
theorem dX1_sendTo_21 : decode cX1_sendTo 21 = .ok (.putfield 18, 3) := by decide +kernel
theorem dX1_sendTo_24 : decode cX1_sendTo 24 = .ok (.aload_n 0, 1) := by decide +kernel
theorem dX1_sendTo_25 : decode cX1_sendTo 25 = .ok (.dup, 1) := by decide +kernel
theorem dX1_sendTo_26 : decode cX1_sendTo 26 = .ok (.getfield 51, 3) := by decide +kernel
theorem dX1_sendTo_29 : decode cX1_sendTo 29 = .ok (.iconst 1, 1) := by decide +kernel
theorem dX1_sendTo_30 : decode cX1_sendTo 30 = .ok (.iadd, 1) := by decide +kernel
theorem dX1_sendTo_31 : decode cX1_sendTo 31 = .ok (.putfield 51, 3) := by decide +kernel
theorem dX1_sendTo_34 : decode cX1_sendTo 34 = .ok (.aload_n 0, 1) := by decide +kernel
theorem dX1_sendTo_35 : decode cX1_sendTo 35 = .ok (.getfield 12, 3) := by decide +kernel
theorem dX1_sendTo_38 : decode cX1_sendTo 38 = .ok (.aload_n 0, 1) := by decide +kernel
theorem dX1_sendTo_39 : decode cX1_sendTo 39 = .ok (.getfield 12, 3) := by decide +kernel
theorem dX1_sendTo_42 : decode cX1_sendTo 42 = .ok (.iconst 0, 1) := by decide +kernel
theorem dX1_sendTo_43 : decode cX1_sendTo 43 = .ok (.invokevirtual 54, 3) := by decide +kernel
theorem dX1_sendTo_46 : decode cX1_sendTo 46 = .ok (.bipush 45, 2) := by decide +kernel
theorem dX1_sendTo_48 : decode cX1_sendTo 48 = .ok (.invokevirtual 58, 3) := by decide +kernel
theorem dX1_sendTo_51 : decode cX1_sendTo 51 = .ok (.aload_n 0, 1) := by decide +kernel
theorem dX1_sendTo_52 : decode cX1_sendTo 52 = .ok (.getfield 12, 3) := by decide +kernel
theorem dX1_sendTo_55 : decode cX1_sendTo 55 = .ok (.bipush 62, 2) := by decide +kernel
theorem dX1_sendTo_57 : decode cX1_sendTo 57 = .ok (.invokevirtual 39, 3) := by decide +kernel
theorem dX1_sendTo_60 : decode cX1_sendTo 60 = .ok (.aload_n 0, 1) := by decide +kernel
theorem dX1_sendTo_61 : decode cX1_sendTo 61 = .ok (.getfield 12, 3) := by decide +kernel
theorem dX1_sendTo_64 : decode cX1_sendTo 64 = .ok (.iload_n 1, 1) := by decide +kernel
theorem dX1_sendTo_65 : decode cX1_sendTo 65 = .ok (.invokevirtual 62, 3) := by decide +kernel
theorem dX1_sendTo_68 : decode cX1_sendTo 68 = .ok (.return_, 1) := by decide +kernel
set_option maxRecDepth 20000 in
theorem ggX1_open_X0_write : GoodIn wsX1_open wsX0_write := goodIn_r _ [9, 10, 11, 27, 28] (by decide +kernel) (by decide +kernel)
set_option maxRecDepth 20000 in
theorem gX1_open_X0_write : GoodIn wsX1_open (wsV RX1 39 RX0 yX0_write wsX0_write) := goodIn_app (goodIn_of _ (by decide +kernel)) ggX1_open_X0_write
set_option maxRecDepth 20000 in
theorem ggX1_open_X0_writePort : GoodIn wsX1_open wsX0_writePort := goodIn_r _ [15, 16, 6, 7, 8, 9, 10, 11, 27, 28] (by decide +kernel) (by decide +kernel)
set_option maxRecDepth 20000 in
theorem gX1_open_X0_writePort : GoodIn wsX1_open (wsV RX1 62 RX0 yX0_writePort wsX0_writePort) := goodIn_app (goodIn_of _ (by decide +kernel)) ggX1_open_X0_writePort
theorem dX1_open_0 : decode cX1_open 0 = .ok (.aload_n 0, 1) := by decide +kernel
theorem dX1_open_1 : decode cX1_open 1 = .ok (.getfield 32, 3) := by decide +kernel
theorem dX1_open_4 : decode cX1_open 4 = .ok (.iconst (-1), 1) := by decide +kernel
theorem dX1_open_5 : decode cX1_open 5 = .ok (.if_icmp .ne 21, 3) := by decide +kernel
theorem dX1_open_8 : decode cX1_open 8 = .ok (.aload_n 0, 1) := by decide +kernel
theorem dX1_open_9 : decode cX1_open 9 = .ok (.bipush 7, 2) := by decide +kernel
theorem dX1_open_11 : decode cX1_open 11 = .ok (.putfield 18, 3) := by decide +kernel
theorem dX1_open_14 : decode cX1_open 14 = .ok (.aload_n 0, 1) := by decide +kernel
theorem dX1_open_15 : decode cX1_open 15 = .ok (.getfield 12, 3) := by decide +kernel
theorem dX1_open_18 : decode cX1_open 18 = .ok (.bipush 42, 2) := by decide +kernel
theorem dX1_open_20 : decode cX1_open 20 = .ok (.invokevirtual 39, 3) := by decide +kernel
theorem dX1_open_23 : decode cX1_open 23 = .ok (.goto 37, 3) := by decide +kernel
theorem dX1_open_26 : decode cX1_open 26 = .ok (.aload_n 0, 1) := by decide +kernel
theorem dX1_open_27 : decode cX1_open 27 = .ok (.bipush 6, 2) := by decide +kernel
theorem dX1_open_29 : decode cX1_open 29 = .ok (.putfield 18, 3) := by decide +kernel
theorem dX1_open_32 : decode cX1_open 32 = .ok (.aload_n 0, 1) := by decide +kernel
theorem dX1_open_33 : decode cX1_open 33 = .ok (.aload_n 0, 1) := by decide +kernel
theorem dX1_open_34 : decode cX1_open 34 = .ok (.getfield 32, 3) := by decide +kernel
theorem dX1_open_37 : decode cX1_open 37 = .ok (.putfield 29, 3) := by decide +kernel
theorem dX1_open_40 : decode cX1_open 40 = .ok (.aload_n 0, 1) := by decide +kernel
theorem dX1_open_41 : decode cX1_open 41 = .ok (.getfield 12, 3) := by decide +kernel
theorem dX1_open_44 : decode cX1_open 44 = .ok (.bipush 60, 2) := by decide +kernel
theorem dX1_open_46 : decode cX1_open 46 = .ok (.invokevirtual 39, 3) := by decide +kernel
theorem dX1_open_49 : decode cX1_open 49 = .ok (.aload_n 0, 1) := by decide +kernel
theorem dX1_open_50 : decode cX1_open 50 = .ok (.getfield 12, 3) := by decide +kernel
theorem dX1_open_53 : decode cX1_open 53 = .ok (.aload_n 0, 1) := by decide +kernel
theorem dX1_open_54 : decode cX1_open 54 = .ok (.getfield 32, 3) := by decide +kernel
theorem dX1_open_57 : decode cX1_open 57 = .ok (.invokevirtual 62, 3) := by decide +kernel
theorem dX1_open_60 : decode cX1_open 60 = .ok (.return_, 1) := by decide +kernel
theorem dX2_init_0 : decode cX2_init 0 = .ok (.aload_n 0, 1) := by decide +kernel
theorem dX2_init_1 : decode cX2_init 1 = .ok (.invokespecial 3, 3) := by decide +kernel
theorem dX2_init_4 : decode cX2_init 4 = .ok (.aload_n 0, 1) := by decide +kernel
theorem dX2_init_5 : decode cX2_init 5 = .ok (.bipush 6, 2) := by decide +kernel
theorem dX2_init_7 : decode cX2_init 7 = .ok (.newarray .int, 2) := by decide +kernel
theorem dX2_init_9 : decode cX2_init 9 = .ok (.putfield 9, 3) := by decide +kernel
theorem dX2_init_12 : decode cX2_init 12 = .ok (.aload_n 0, 1) := by decide +kernel
theorem dX2_init_13 : decode cX2_init 13 = .ok (.bipush 6, 2) := by decide +kernel
theorem dX2_init_15 : decode cX2_init 15 = .ok (.newarray .int, 2) := by decide +kernel
theorem dX2_init_17 : decode cX2_init 17 = .ok (.putfield 15, 3) := by decide +kernel
theorem dX2_init_20 : decode cX2_init 20 = .ok (.aload_n 0, 1) := by decide +kernel
theorem dX2_init_21 : decode cX2_init 21 = .ok (.bipush 6, 2) := by decide +kernel
theorem dX2_init_23 : decode cX2_init 23 = .ok (.newarray .int, 2) := by decide +kernel
theorem dX2_init_25 : decode cX2_init 25 = .ok (.putfield 18, 3) := by decide +kernel
theorem dX2_init_28 : decode cX2_init 28 = .ok (.return_, 1) := by decide +kernel
theorem dX2_addCall_0 : decode cX2_addCall 0 = .ok (.aload_n 0, 1) := by decide +kernel
theorem dX2_addCall_1 : decode cX2_addCall 1 = .ok (.getfield 21, 3) := by decide +kernel
theorem dX2_addCall_4 : decode cX2_addCall 4 = .ok (.bipush 6, 2) := by decide +kernel
theorem dX2_addCall_6 : decode cX2_addCall 6 = .ok (.if_icmp .ge 43, 3) := by decide +kernel
theorem dX2_addCall_9 : decode cX2_addCall 9 = .ok (.aload_n 0, 1) := by decide +kernel
theorem dX2_addCall_10 : decode cX2_addCall 10 = .ok (.getfield 9, 3) := by decide +kernel
theorem dX2_addCall_13 : decode cX2_addCall 13 = .ok (.aload_n 0, 1) := by decide +kernel
theorem dX2_addCall_14 : decode cX2_addCall 14 = .ok (.getfield 21, 3) := by decide +kernel
theorem dX2_addCall_17 : decode cX2_addCall 17 = .ok (.iload_n 1, 1) := by decide +kernel
theorem dX2_addCall_18 : decode cX2_addCall 18 = .ok (.iastore, 1) := by decide +kernel
theorem dX2_addCall_19 : decode cX2_addCall 19 = .ok (.aload_n 0, 1) := by decide +kernel
theorem dX2_addCall_20 : decode cX2_addCall 20 = .ok (.getfield 15, 3) := by decide +kernel
theorem dX2_addCall_23 : decode cX2_addCall 23 = .ok (.aload_n 0, 1) := by decide +kernel
theorem dX2_addCall_24 : decode cX2_addCall 24 = .ok (.getfield 21, 3) := by decide +kernel
theorem dX2_addCall_27 : decode cX2_addCall 27 = .ok (.iload_n 2, 1) := by decide +kernel
theorem dX2_addCall_28 : decode cX2_addCall 28 = .ok (.iastore, 1) := by decide +kernel
theorem dX2_addCall_29 : decode cX2_addCall 29 = .ok (.aload_n 0, 1) := by decide +kernel
theorem dX2_addCall_30 : decode cX2_addCall 30 = .ok (.getfield 18, 3) := by decide +kernel
theorem dX2_addCall_33 : decode cX2_addCall 33 = .ok (.aload_n 0, 1) := by decide +kernel
theorem dX2_addCall_34 : decode cX2_addCall 34 = .ok (.getfield 21, 3) := by decide +kernel
theorem dX2_addCall_37 : decode cX2_addCall 37 = .ok (.iload_n 3, 1) := by decide +kernel
theorem dX2_addCall_38 : decode cX2_addCall 38 = .ok (.iastore, 1) := by decide +kernel
theorem dX2_addCall_39 : decode cX2_addCall 39 = .ok (.aload_n 0, 1) := by decide +kernel
theorem dX2_addCall_40 : decode cX2_addCall 40 = .ok (.dup, 1) := by decide +kernel
theorem dX2_addCall_41 : decode cX2_addCall 41 = .ok (.getfield 21, 3) := by decide +kernel
theorem dX2_addCall_44 : decode cX2_addCall 44 = .ok (.iconst 1, 1) := by decide +kernel
theorem dX2_addCall_45 : decode cX2_addCall 45 = .ok (.iadd, 1) := by decide +kernel
theorem dX2_addCall_46 : decode cX2_addCall 46 = .ok (.putfield 21, 3) := by decide +kernel
theorem dX2_addCall_49 : decode cX2_addCall 49 = .ok (.return_, 1) := by decide +kernel
theorem dX2_lastLeaving_0 : decode cX2_lastLeaving 0 = .ok (.aload_n 0, 1) := by decide +kernel
theorem dX2_lastLeaving_1 : decode cX2_lastLeaving 1 = .ok (.getfield 21, 3) := by decide +kernel
theorem dX2_lastLeaving_4 : decode cX2_lastLeaving 4 = .ok (.ifCond .le 17, 3) := by decide +kernel
theorem dX2_lastLeaving_7 : decode cX2_lastLeaving 7 = .ok (.aload_n 0, 1) := by decide +kernel
theorem dX2_lastLeaving_8 : decode cX2_lastLeaving 8 = .ok (.getfield 18, 3) := by decide +kernel
theorem dX2_lastLeaving_11 : decode cX2_lastLeaving 11 = .ok (.aload_n 0, 1) := by decide +kernel
theorem dX2_lastLeaving_12 : decode cX2_lastLeaving 12 = .ok (.getfield 21, 3) := by decide +kernel
theorem dX2_lastLeaving_15 : decode cX2_lastLeaving 15 = .ok (.iconst 1, 1) := by decide +kernel
theorem dX2_lastLeaving_16 : decode cX2_lastLeaving 16 = .ok (.isub, 1) := by decide +kernel
theorem dX2_lastLeaving_17 : decode cX2_lastLeaving 17 = .ok (.iaload, 1) := by decide +kernel
theorem dX2_lastLeaving_18 : decode cX2_lastLeaving 18 = .ok (.goto 4, 3) := by decide +kernel
theorem dX2_lastLeaving_21 : decode cX2_lastLeaving 21 = .ok (.iconst (-1), 1) := by decide +kernel
theorem dX2_lastLeaving_22 : decode cX2_lastLeaving 22 = .ok (.ireturn, 1) := by decide +kernel
theorem dX2_portOn_0 : decode cX2_portOn 0 = .ok (.iconst 0, 1) := by decide +kernel
theorem dX2_portOn_1 : decode cX2_portOn 1 = .ok (.istore_n 2, 1) := by decide +kernel
theorem dX2_portOn_2 : decode cX2_portOn 2 = .ok (.iload_n 2, 1) := by decide +kernel
theorem dX2_portOn_3 : decode cX2_portOn 3 = .ok (.aload_n 0, 1) := by decide +kernel
theorem dX2_portOn_4 : decode cX2_portOn 4 = .ok (.getfield 21, 3) := by decide +kernel
theorem dX2_portOn_7 : decode cX2_portOn 7 = .ok (.if_icmp .ge 36, 3) := by decide +kernel
theorem dX2_portOn_10 : decode cX2_portOn 10 = .ok (.aload_n 0, 1) := by decide +kernel
theorem dX2_portOn_11 : decode cX2_portOn 11 = .ok (.getfield 15, 3) := by decide +kernel
theorem dX2_portOn_14 : decode cX2_portOn 14 = .ok (.iload_n 2, 1) := by decide +kernel
theorem dX2_portOn_15 : decode cX2_portOn 15 = .ok (.iaload, 1) := by decide +kernel
theorem dX2_portOn_16 : decode cX2_portOn 16 = .ok (.iload_n 1, 1) := by decide +kernel
theorem dX2_portOn_17 : decode cX2_portOn 17 = .ok (.if_icmp .gt 20, 3) := by decide +kernel
theorem dX2_portOn_20 : decode cX2_portOn 20 = .ok (.iload_n 1, 1) := by decide +kernel
theorem dX2_portOn_21 : decode cX2_portOn 21 = .ok (.aload_n 0, 1) := by decide +kernel
theorem dX2_portOn_22 : decode cX2_portOn 22 = .ok (.getfield 18, 3) := by decide +kernel
theorem dX2_portOn_25 : decode cX2_portOn 25 = .ok (.iload_n 2, 1) := by decide +kernel
theorem dX2_portOn_26 : decode cX2_portOn 26 = .ok (.iaload, 1) := by decide +kernel
theorem dX2_portOn_27 : decode cX2_portOn 27 = .ok (.if_icmp .gt 10, 3) := by decide +kernel
theorem dX2_portOn_30 : decode cX2_portOn 30 = .ok (.aload_n 0, 1) := by decide +kernel
theorem dX2_portOn_31 : decode cX2_portOn 31 = .ok (.getfield 9, 3) := by decide +kernel
theorem dX2_portOn_34 : decode cX2_portOn 34 = .ok (.iload_n 2, 1) := by decide +kernel
theorem dX2_portOn_35 : decode cX2_portOn 35 = .ok (.iaload, 1) := by decide +kernel
theorem dX2_portOn_36 : decode cX2_portOn 36 = .ok (.ireturn, 1) := by decide +kernel
theorem dX2_portOn_37 : decode cX2_portOn 37 = .ok (.iinc 2 1, 3) := by decide +kernel
theorem dX2_portOn_40 : decode cX2_portOn 40 = .ok (.goto (-38), 3) := by decide +kernel
theorem dX2_portOn_43 : decode cX2_portOn 43 = .ok (.iconst (-1), 1) := by decide +kernel
theorem dX2_portOn_44 : decode cX2_portOn 44 = .ok (.ireturn, 1) := by decide +kernel
theorem dX2_arrivesBehind_0 : decode cX2_arrivesBehind 0 = .ok (.iconst 0, 1) := by decide +kernel
theorem dX2_arrivesBehind_1 : decode cX2_arrivesBehind 1 = .ok (.istore_n 3, 1) := by decide +kernel
theorem dX2_arrivesBehind_2 : decode cX2_arrivesBehind 2 = .ok (.iload_n 3, 1) := by decide +kernel
theorem dX2_arrivesBehind_3 : decode cX2_arrivesBehind 3 = .ok (.aload_n 0, 1) := by decide +kernel
theorem dX2_arrivesBehind_4 : decode cX2_arrivesBehind 4 = .ok (.getfield 21, 3) := by decide +kernel
theorem dX2_arrivesBehind_7 : decode cX2_arrivesBehind 7 = .ok (.if_icmp .ge 31, 3) := by decide +kernel
theorem dX2_arrivesBehind_10 : decode cX2_arrivesBehind 10 = .ok (.aload_n 0, 1) := by decide +kernel
theorem dX2_arrivesBehind_11 : decode cX2_arrivesBehind 11 = .ok (.getfield 9, 3) := by decide +kernel
theorem dX2_arrivesBehind_14 : decode cX2_arrivesBehind 14 = .ok (.iload_n 3, 1) := by decide +kernel
theorem dX2_arrivesBehind_15 : decode cX2_arrivesBehind 15 = .ok (.iaload, 1) := by decide +kernel
theorem dX2_arrivesBehind_16 : decode cX2_arrivesBehind 16 = .ok (.iload_n 1, 1) := by decide +kernel
theorem dX2_arrivesBehind_17 : decode cX2_arrivesBehind 17 = .ok (.if_icmp .ne 15, 3) := by decide +kernel
theorem dX2_arrivesBehind_20 : decode cX2_arrivesBehind 20 = .ok (.aload_n 0, 1) := by decide +kernel
theorem dX2_arrivesBehind_21 : decode cX2_arrivesBehind 21 = .ok (.getfield 15, 3) := by decide +kernel
theorem dX2_arrivesBehind_24 : decode cX2_arrivesBehind 24 = .ok (.iload_n 3, 1) := by decide +kernel
theorem dX2_arrivesBehind_25 : decode cX2_arrivesBehind 25 = .ok (.iaload, 1) := by decide +kernel
theorem dX2_arrivesBehind_26 : decode cX2_arrivesBehind 26 = .ok (.iload_n 2, 1) := by decide +kernel
theorem dX2_arrivesBehind_27 : decode cX2_arrivesBehind 27 = .ok (.if_icmp .le 5, 3) := by decide +kernel
theorem dX2_arrivesBehind_30 : decode cX2_arrivesBehind 30 = .ok (.iconst 1, 1) := by decide +kernel
theorem dX2_arrivesBehind_31 : decode cX2_arrivesBehind 31 = .ok (.ireturn, 1) := by decide +kernel
theorem dX2_arrivesBehind_32 : decode cX2_arrivesBehind 32 = .ok (.iinc 3 1, 3) := by decide +kernel
theorem dX2_arrivesBehind_35 : decode cX2_arrivesBehind 35 = .ok (.goto (-33), 3) := by decide +kernel
theorem dX2_arrivesBehind_38 : decode cX2_arrivesBehind 38 = .ok (.iconst 0, 1) := by decide +kernel
theorem dX2_arrivesBehind_39 : decode cX2_arrivesBehind 39 = .ok (.ireturn, 1) := by decide +kernel
set_option maxRecDepth 20000 in
theorem ggX2_portOfMeeting_X4_mailDays : GoodIn wsX2_portOfMeeting wsX4_mailDays := goodIn_r _ [6, 7, 8, 9, 10] (by decide +kernel) (by decide +kernel)
set_option maxRecDepth 20000 in
theorem gX2_portOfMeeting_X4_mailDays_n25 : GoodIn wsX2_portOfMeeting (wsX4_mailDays) := ggX2_portOfMeeting_X4_mailDays
theorem dX2_portOfMeeting_0 : decode cX2_portOfMeeting 0 = .ok (.iconst 0, 1) := by decide +kernel
theorem dX2_portOfMeeting_1 : decode cX2_portOfMeeting 1 = .ok (.istore_n 3, 1) := by decide +kernel
theorem dX2_portOfMeeting_2 : decode cX2_portOfMeeting 2 = .ok (.iload_n 3, 1) := by decide +kernel
theorem dX2_portOfMeeting_3 : decode cX2_portOfMeeting 3 = .ok (.aload_n 0, 1) := by decide +kernel
theorem dX2_portOfMeeting_4 : decode cX2_portOfMeeting 4 = .ok (.getfield 21, 3) := by decide +kernel
theorem dX2_portOfMeeting_7 : decode cX2_portOfMeeting 7 = .ok (.if_icmp .ge 47, 3) := by decide +kernel
theorem dX2_portOfMeeting_10 : decode cX2_portOfMeeting 10 = .ok (.aload_n 0, 1) := by decide +kernel
theorem dX2_portOfMeeting_11 : decode cX2_portOfMeeting 11 = .ok (.getfield 9, 3) := by decide +kernel
theorem dX2_portOfMeeting_14 : decode cX2_portOfMeeting 14 = .ok (.iload_n 3, 1) := by decide +kernel
theorem dX2_portOfMeeting_15 : decode cX2_portOfMeeting 15 = .ok (.iaload, 1) := by decide +kernel
theorem dX2_portOfMeeting_16 : decode cX2_portOfMeeting 16 = .ok (.iload_n 1, 1) := by decide +kernel
theorem dX2_portOfMeeting_17 : decode cX2_portOfMeeting 17 = .ok (.if_icmp .eq 31, 3) := by decide +kernel
theorem dX2_portOfMeeting_20 : decode cX2_portOfMeeting 20 = .ok (.aload_n 0, 1) := by decide +kernel
theorem dX2_portOfMeeting_21 : decode cX2_portOfMeeting 21 = .ok (.getfield 18, 3) := by decide +kernel
theorem dX2_portOfMeeting_24 : decode cX2_portOfMeeting 24 = .ok (.iload_n 3, 1) := by decide +kernel
theorem dX2_portOfMeeting_25 : decode cX2_portOfMeeting 25 = .ok (.iaload, 1) := by decide +kernel
theorem dX2_portOfMeeting_26 : decode cX2_portOfMeeting 26 = .ok (.iload_n 2, 1) := by decide +kernel
theorem dX2_portOfMeeting_27 : decode cX2_portOfMeeting 27 = .ok (.iload_n 1, 1) := by decide +kernel
theorem dX2_portOfMeeting_28 : decode cX2_portOfMeeting 28 = .ok (.aload_n 0, 1) := by decide +kernel
theorem dX2_portOfMeeting_29 : decode cX2_portOfMeeting 29 = .ok (.getfield 9, 3) := by decide +kernel
theorem dX2_portOfMeeting_32 : decode cX2_portOfMeeting 32 = .ok (.iload_n 3, 1) := by decide +kernel
theorem dX2_portOfMeeting_33 : decode cX2_portOfMeeting 33 = .ok (.iaload, 1) := by decide +kernel
theorem dX2_portOfMeeting_34 : decode cX2_portOfMeeting 34 = .ok (.invokestatic 25, 3) := by decide +kernel
theorem dX2_portOfMeeting_37 : decode cX2_portOfMeeting 37 = .ok (.iadd, 1) := by decide +kernel
theorem dX2_portOfMeeting_38 : decode cX2_portOfMeeting 38 = .ok (.if_icmp .lt 10, 3) := by decide +kernel
theorem dX2_portOfMeeting_41 : decode cX2_portOfMeeting 41 = .ok (.aload_n 0, 1) := by decide +kernel
theorem dX2_portOfMeeting_42 : decode cX2_portOfMeeting 42 = .ok (.getfield 9, 3) := by decide +kernel
theorem dX2_portOfMeeting_45 : decode cX2_portOfMeeting 45 = .ok (.iload_n 3, 1) := by decide +kernel
theorem dX2_portOfMeeting_46 : decode cX2_portOfMeeting 46 = .ok (.iaload, 1) := by decide +kernel
theorem dX2_portOfMeeting_47 : decode cX2_portOfMeeting 47 = .ok (.ireturn, 1) := by decide +kernel
theorem dX2_portOfMeeting_48 : decode cX2_portOfMeeting 48 = .ok (.iinc 3 1, 3) := by decide +kernel
theorem dX2_portOfMeeting_51 : decode cX2_portOfMeeting 51 = .ok (.goto (-49), 3) := by decide +kernel
theorem dX2_portOfMeeting_54 : decode cX2_portOfMeeting 54 = .ok (.iconst (-1), 1) := by decide +kernel
theorem dX2_portOfMeeting_55 : decode cX2_portOfMeeting 55 = .ok (.ireturn, 1) := by decide +kernel
set_option maxRecDepth 20000 in
theorem ggX3_init_Jx4a65c_init_da8c8 : GoodIn wsX3_init wsJx4a65c_init_da8c8 := goodIn_r _ [15, 16, 17, 18, 19, 20, 21, 22, 23, 24, 25, 26, 27, 2, 3, 35, 36, 37] (by decide +kernel) (by decide +kernel)
set_option maxRecDepth 20000 in
theorem gX3_init_Jx4a65c_init_da8c8 : GoodIn wsX3_init (wsJx4a65c_init_da8c8) := ggX3_init_Jx4a65c_init_da8c8
set_option maxRecDepth 20000 in
theorem ggX3_init_X2_init : GoodIn wsX3_init wsX2_init := goodIn_r _ [29, 30, 2, 3, 31, 32, 33, 34, 41, 42, 43, 44, 45, 46] (by decide +kernel) (by decide +kernel)
set_option maxRecDepth 20000 in
theorem gX3_init_X2_init_n23 : GoodIn wsX3_init (wsX2_init) := ggX3_init_X2_init
theorem dX3_init_0 : decode cX3_init 0 = .ok (.aload_n 0, 1) := by decide +kernel
theorem dX3_init_1 : decode cX3_init 1 = .ok (.invokespecial 3, 3) := by decide +kernel
theorem dX3_init_4 : decode cX3_init 4 = .ok (.aload_n 0, 1) := by decide +kernel
theorem dX3_init_5 : decode cX3_init 5 = .ok (.new 9, 3) := by decide +kernel
theorem dX3_init_8 : decode cX3_init 8 = .ok (.dup, 1) := by decide +kernel
theorem dX3_init_9 : decode cX3_init 9 = .ok (.invokespecial 11, 3) := by decide +kernel
theorem dX3_init_12 : decode cX3_init 12 = .ok (.putfield 12, 3) := by decide +kernel
theorem dX3_init_15 : decode cX3_init 15 = .ok (.aload_n 0, 1) := by decide +kernel
theorem dX3_init_16 : decode cX3_init 16 = .ok (.new 9, 3) := by decide +kernel
theorem dX3_init_19 : decode cX3_init 19 = .ok (.dup, 1) := by decide +kernel
theorem dX3_init_20 : decode cX3_init 20 = .ok (.invokespecial 11, 3) := by decide +kernel
theorem dX3_init_23 : decode cX3_init 23 = .ok (.putfield 18, 3) := by decide +kernel
theorem dX3_init_26 : decode cX3_init 26 = .ok (.aload_n 0, 1) := by decide +kernel
theorem dX3_init_27 : decode cX3_init 27 = .ok (.new 21, 3) := by decide +kernel
theorem dX3_init_30 : decode cX3_init 30 = .ok (.dup, 1) := by decide +kernel
theorem dX3_init_31 : decode cX3_init 31 = .ok (.invokespecial 23, 3) := by decide +kernel
theorem dX3_init_34 : decode cX3_init 34 = .ok (.putfield 24, 3) := by decide +kernel
theorem dX3_init_37 : decode cX3_init 37 = .ok (.return_, 1) := by decide +kernel
set_option maxRecDepth 20000 in
theorem ggX3_tellDraft_Jx4a65c_add_9ea2d : GoodIn wsX3_tellDraft wsJx4a65c_add_9ea2d := goodIn_r _ [12, 13, 14, 15, 16, 17, 18, 19, 11, 20, 21, 22, 23, 24, 25, 26, 27, 28, 29, 30, 31, 32, 33, 34, 35, 36, 37, 38, 39, 40, 41, 42, 43, 44, 45, 46, 47, 48, 49, 50, 51, 52, 53, 54, 55, 56, 57, 58, 59, 60, 61, 62, 63, 82, 83, 84] (by decide +kernel) (by decide +kernel)
set_option maxRecDepth 20000 in
theorem gX3_tellDraft_Jx4a65c_add_9ea2d : GoodIn wsX3_tellDraft (wsV RX3 35 RJx4a65c yJx4a65c_add_9ea2d wsJx4a65c_add_9ea2d) := goodIn_app (goodIn_of _ (by decide +kernel)) ggX3_tellDraft_Jx4a65c_add_9ea2d
set_option maxRecDepth 20000 in
theorem ggX3_tellDraft_X2_init : GoodIn wsX3_tellDraft wsX2_init := goodIn_r _ [65, 66, 67, 68, 69, 70, 71, 72, 76, 77, 78, 79, 80, 81] (by decide +kernel) (by decide +kernel)
set_option maxRecDepth 20000 in
theorem gX3_tellDraft_X2_init_n23 : GoodIn wsX3_tellDraft (wsX2_init) := ggX3_tellDraft_X2_init
theorem dX3_tellDraft_0 : decode cX3_tellDraft 0 = .ok (.aload_n 0, 1) := by decide +kernel
theorem dX3_tellDraft_1 : decode cX3_tellDraft 1 = .ok (.getfield 24, 3) := by decide +kernel
theorem dX3_tellDraft_4 : decode cX3_tellDraft 4 = .ok (.iload_n 1, 1) := by decide +kernel
theorem dX3_tellDraft_5 : decode cX3_tellDraft 5 = .ok (.putfield 28, 3) := by decide +kernel
theorem dX3_tellDraft_8 : decode cX3_tellDraft 8 = .ok (.aload_n 0, 1) := by decide +kernel
theorem dX3_tellDraft_9 : decode cX3_tellDraft 9 = .ok (.getfield 24, 3) := by decide +kernel
theorem dX3_tellDraft_12 : decode cX3_tellDraft 12 = .ok (.iload_n 2, 1) := by decide +kernel
theorem dX3_tellDraft_13 : decode cX3_tellDraft 13 = .ok (.putfield 32, 3) := by decide +kernel
theorem dX3_tellDraft_16 : decode cX3_tellDraft 16 = .ok (.aload_n 0, 1) := by decide +kernel
theorem dX3_tellDraft_17 : decode cX3_tellDraft 17 = .ok (.getfield 12, 3) := by decide +kernel
theorem dX3_tellDraft_20 : decode cX3_tellDraft 20 = .ok (.aload_n 0, 1) := by decide +kernel
theorem dX3_tellDraft_21 : decode cX3_tellDraft 21 = .ok (.getfield 24, 3) := by decide +kernel
theorem dX3_tellDraft_24 : decode cX3_tellDraft 24 = .ok (.invokevirtual 35, 3) := by decide +kernel
theorem dX3_tellDraft_27 : decode cX3_tellDraft 27 = .ok (.pop, 1) := by decide +kernel
theorem dX3_tellDraft_28 : decode cX3_tellDraft 28 = .ok (.aload_n 0, 1) := by decide +kernel
theorem dX3_tellDraft_29 : decode cX3_tellDraft 29 = .ok (.new 21, 3) := by decide +kernel
theorem dX3_tellDraft_32 : decode cX3_tellDraft 32 = .ok (.dup, 1) := by decide +kernel
theorem dX3_tellDraft_33 : decode cX3_tellDraft 33 = .ok (.invokespecial 23, 3) := by decide +kernel
theorem dX3_tellDraft_36 : decode cX3_tellDraft 36 = .ok (.putfield 24, 3) := by decide +kernel
theorem dX3_tellDraft_39 : decode cX3_tellDraft 39 = .ok (.return_, 1) := by decide +kernel
set_option maxRecDepth 20000 in
theorem ggX3_portOn_Jx4a65c_size_8abf5 : GoodIn wsX3_portOn wsJx4a65c_size_8abf5 := goodIn_r _ [7, 8, 38, 39, 40] (by decide +kernel) (by decide +kernel)
set_option maxRecDepth 20000 in
theorem gX3_portOn_Jx4a65c_size_8abf5 : GoodIn wsX3_portOn (wsV RX3 39 RJx4a65c yJx4a65c_size_8abf5 wsJx4a65c_size_8abf5) := goodIn_app (goodIn_of _ (by decide +kernel)) ggX3_portOn_Jx4a65c_size_8abf5
set_option maxRecDepth 20000 in
theorem ggX3_portOn_Jx4a65c_get_915e3 : GoodIn wsX3_portOn wsJx4a65c_get_915e3 := goodIn_r _ [12, 8, 13, 14, 15, 16, 17, 18, 19, 20, 21, 22, 23, 6, 24, 25, 38, 39, 40] (by decide +kernel) (by decide +kernel)
set_option maxRecDepth 20000 in
theorem gX3_portOn_Jx4a65c_get_915e3 : GoodIn wsX3_portOn (wsV RX3 43 RJx4a65c yJx4a65c_get_915e3 wsJx4a65c_get_915e3) := goodIn_app (goodIn_of _ (by decide +kernel)) ggX3_portOn_Jx4a65c_get_915e3
set_option maxRecDepth 20000 in
theorem ggX3_portOn_X2_portOn : GoodIn wsX3_portOn wsX2_portOn := goodIn_r _ [30, 31, 32, 33, 34, 41, 42, 43, 44, 45, 46] (by decide +kernel) (by decide +kernel)
set_option maxRecDepth 20000 in
theorem gX3_portOn_X2_portOn : GoodIn wsX3_portOn (wsV RX3 47 RX2 yX2_portOn wsX2_portOn) := goodIn_app (goodIn_of _ (by decide +kernel)) ggX3_portOn_X2_portOn
theorem dX3_portOn_0 : decode cX3_portOn 0 = .ok (.aload_n 0, 1) := by decide +kernel
theorem dX3_portOn_1 : decode cX3_portOn 1 = .ok (.getfield 12, 3) := by decide +kernel
theorem dX3_portOn_4 : decode cX3_portOn 4 = .ok (.invokevirtual 39, 3) := by decide +kernel
theorem dX3_portOn_7 : decode cX3_portOn 7 = .ok (.iconst 1, 1) := by decide +kernel
theorem dX3_portOn_8 : decode cX3_portOn 8 = .ok (.isub, 1) := by decide +kernel
theorem dX3_portOn_9 : decode cX3_portOn 9 = .ok (.istore_n 2, 1) := by decide +kernel
theorem dX3_portOn_10 : decode cX3_portOn 10 = .ok (.iload_n 2, 1) := by decide +kernel
theorem dX3_portOn_11 : decode cX3_portOn 11 = .ok (.ifCond .lt 21, 3) := by decide +kernel
theorem dX3_portOn_14 : decode cX3_portOn 14 = .ok (.aload_n 0, 1) := by decide +kernel
theorem dX3_portOn_15 : decode cX3_portOn 15 = .ok (.getfield 12, 3) := by decide +kernel
theorem dX3_portOn_18 : decode cX3_portOn 18 = .ok (.iload_n 2, 1) := by decide +kernel
theorem dX3_portOn_19 : decode cX3_portOn 19 = .ok (.invokevirtual 43, 3) := by decide +kernel
theorem dX3_portOn_22 : decode cX3_portOn 22 = .ok (.checkcast 21, 3) := by decide +kernel
theorem dX3_portOn_25 : decode cX3_portOn 25 = .ok (.iload_n 1, 1) := by decide +kernel
theorem dX3_portOn_26 : decode cX3_portOn 26 = .ok (.invokevirtual 47, 3) := by decide +kernel
theorem dX3_portOn_29 : decode cX3_portOn 29 = .ok (.goto 4, 3) := by decide +kernel
theorem dX3_portOn_32 : decode cX3_portOn 32 = .ok (.iconst (-1), 1) := by decide +kernel
theorem dX3_portOn_33 : decode cX3_portOn 33 = .ok (.ireturn, 1) := by decide +kernel
set_option maxRecDepth 20000 in
theorem ggX3_wordIn_Jx4a65c_size_8abf5 : GoodIn wsX3_wordIn wsJx4a65c_size_8abf5 := goodIn_r _ [9, 10, 44, 45, 46] (by decide +kernel) (by decide +kernel)
set_option maxRecDepth 20000 in
theorem gX3_wordIn_Jx4a65c_size_8abf5 : GoodIn wsX3_wordIn (wsV RX3 39 RJx4a65c yJx4a65c_size_8abf5 wsJx4a65c_size_8abf5) := goodIn_app (goodIn_of _ (by decide +kernel)) ggX3_wordIn_Jx4a65c_size_8abf5
set_option maxRecDepth 20000 in
theorem ggX3_wordIn_Jx4a65c_get_915e3 : GoodIn wsX3_wordIn wsJx4a65c_get_915e3 := goodIn_r _ [14, 10, 15, 16, 17, 18, 19, 20, 21, 22, 23, 24, 25, 8, 26, 27, 44, 45, 46] (by decide +kernel) (by decide +kernel)
set_option maxRecDepth 20000 in
theorem gX3_wordIn_Jx4a65c_get_915e3 : GoodIn wsX3_wordIn (wsV RX3 43 RJx4a65c yJx4a65c_get_915e3 wsJx4a65c_get_915e3) := goodIn_app (goodIn_of _ (by decide +kernel)) ggX3_wordIn_Jx4a65c_get_915e3
set_option maxRecDepth 20000 in
theorem ggX3_wordIn_X4_wordDays : GoodIn wsX3_wordIn wsX4_wordDays := goodIn_r _ [30, 31, 32, 33, 34] (by decide +kernel) (by decide +kernel)
set_option maxRecDepth 20000 in
theorem gX3_wordIn_X4_wordDays_n51 : GoodIn wsX3_wordIn (wsX4_wordDays) := ggX3_wordIn_X4_wordDays
theorem dX3_wordIn_0 : decode cX3_wordIn 0 = .ok (.aload_n 0, 1) := by decide +kernel
theorem dX3_wordIn_1 : decode cX3_wordIn 1 = .ok (.getfield 12, 3) := by decide +kernel
theorem dX3_wordIn_4 : decode cX3_wordIn 4 = .ok (.invokevirtual 39, 3) := by decide +kernel
theorem dX3_wordIn_7 : decode cX3_wordIn 7 = .ok (.iconst 1, 1) := by decide +kernel
theorem dX3_wordIn_8 : decode cX3_wordIn 8 = .ok (.isub, 1) := by decide +kernel
theorem dX3_wordIn_9 : decode cX3_wordIn 9 = .ok (.istore_n 3, 1) := by decide +kernel
theorem dX3_wordIn_10 : decode cX3_wordIn 10 = .ok (.iload_n 3, 1) := by decide +kernel
theorem dX3_wordIn_11 : decode cX3_wordIn 11 = .ok (.ifCond .lt 43, 3) := by decide +kernel
theorem dX3_wordIn_14 : decode cX3_wordIn 14 = .ok (.aload_n 0, 1) := by decide +kernel
theorem dX3_wordIn_15 : decode cX3_wordIn 15 = .ok (.getfield 12, 3) := by decide +kernel
theorem dX3_wordIn_18 : decode cX3_wordIn 18 = .ok (.iload_n 3, 1) := by decide +kernel
theorem dX3_wordIn_19 : decode cX3_wordIn 19 = .ok (.invokevirtual 43, 3) := by decide +kernel
theorem dX3_wordIn_22 : decode cX3_wordIn 22 = .ok (.checkcast 21, 3) := by decide +kernel
theorem dX3_wordIn_25 : decode cX3_wordIn 25 = .ok (.astore 4, 2) := by decide +kernel
theorem dX3_wordIn_27 : decode cX3_wordIn 27 = .ok (.aload 4, 2) := by decide +kernel
theorem dX3_wordIn_29 : decode cX3_wordIn 29 = .ok (.getfield 32, 3) := by decide +kernel
theorem dX3_wordIn_32 : decode cX3_wordIn 32 = .ok (.aload 4, 2) := by decide +kernel
theorem dX3_wordIn_34 : decode cX3_wordIn 34 = .ok (.getfield 28, 3) := by decide +kernel
theorem dX3_wordIn_37 : decode cX3_wordIn 37 = .ok (.iload_n 1, 1) := by decide +kernel
theorem dX3_wordIn_38 : decode cX3_wordIn 38 = .ok (.invokestatic 51, 3) := by decide +kernel
theorem dX3_wordIn_41 : decode cX3_wordIn 41 = .ok (.iadd, 1) := by decide +kernel
theorem dX3_wordIn_42 : decode cX3_wordIn 42 = .ok (.iload_n 2, 1) := by decide +kernel
theorem dX3_wordIn_43 : decode cX3_wordIn 43 = .ok (.if_icmp .gt 5, 3) := by decide +kernel
theorem dX3_wordIn_46 : decode cX3_wordIn 46 = .ok (.iload_n 3, 1) := by decide +kernel
theorem dX3_wordIn_47 : decode cX3_wordIn 47 = .ok (.ireturn, 1) := by decide +kernel
theorem dX3_wordIn_48 : decode cX3_wordIn 48 = .ok (.iinc 3 (-1), 3) := by decide +kernel
theorem dX3_wordIn_51 : decode cX3_wordIn 51 = .ok (.goto (-41), 3) := by decide +kernel
theorem dX3_wordIn_54 : decode cX3_wordIn 54 = .ok (.iconst (-1), 1) := by decide +kernel
theorem dX3_wordIn_55 : decode cX3_wordIn 55 = .ok (.ireturn, 1) := by decide +kernel
set_option maxRecDepth 20000 in
theorem ggX3_countOvertakenBy_Jx4a65c_size_8abf5 : GoodIn wsX3_countOvertakenBy wsJx4a65c_size_8abf5 := goodIn_r _ [9, 10, 41, 42, 43] (by decide +kernel) (by decide +kernel)
set_option maxRecDepth 20000 in
theorem gX3_countOvertakenBy_Jx4a65c_size_8abf5 : GoodIn wsX3_countOvertakenBy (wsV RX3 39 RJx4a65c yJx4a65c_size_8abf5 wsJx4a65c_size_8abf5) := goodIn_app (goodIn_of _ (by decide +kernel)) ggX3_countOvertakenBy_Jx4a65c_size_8abf5
set_option maxRecDepth 20000 in
theorem ggX3_countOvertakenBy_Jx4a65c_get_915e3 : GoodIn wsX3_countOvertakenBy wsJx4a65c_get_915e3 := goodIn_r _ [14, 10, 15, 16, 17, 18, 19, 20, 21, 22, 23, 24, 25, 8, 26, 27, 41, 42, 43] (by decide +kernel) (by decide +kernel)
set_option maxRecDepth 20000 in
theorem gX3_countOvertakenBy_Jx4a65c_get_915e3 : GoodIn wsX3_countOvertakenBy (wsV RX3 43 RJx4a65c yJx4a65c_get_915e3 wsJx4a65c_get_915e3) := goodIn_app (goodIn_of _ (by decide +kernel)) ggX3_countOvertakenBy_Jx4a65c_get_915e3
theorem dX3_countOvertakenBy_0 : decode cX3_countOvertakenBy 0 = .ok (.iconst 0, 1) := by decide +kernel
theorem dX3_countOvertakenBy_1 : decode cX3_countOvertakenBy 1 = .ok (.istore_n 2, 1) := by decide +kernel
theorem dX3_countOvertakenBy_2 : decode cX3_countOvertakenBy 2 = .ok (.iconst 0, 1) := by decide +kernel
theorem dX3_countOvertakenBy_3 : decode cX3_countOvertakenBy 3 = .ok (.istore_n 3, 1) := by decide +kernel
theorem dX3_countOvertakenBy_4 : decode cX3_countOvertakenBy 4 = .ok (.iload_n 3, 1) := by decide +kernel
theorem dX3_countOvertakenBy_5 : decode cX3_countOvertakenBy 5 = .ok (.aload_n 0, 1) := by decide +kernel
theorem dX3_countOvertakenBy_6 : decode cX3_countOvertakenBy 6 = .ok (.getfield 18, 3) := by decide +kernel
theorem dX3_countOvertakenBy_9 : decode cX3_countOvertakenBy 9 = .ok (.invokevirtual 39, 3) := by decide +kernel
theorem dX3_countOvertakenBy_12 : decode cX3_countOvertakenBy 12 = .ok (.if_icmp .ge 49, 3) := by decide +kernel
theorem dX3_countOvertakenBy_15 : decode cX3_countOvertakenBy 15 = .ok (.aload_n 0, 1) := by decide +kernel
theorem dX3_countOvertakenBy_16 : decode cX3_countOvertakenBy 16 = .ok (.getfield 18, 3) := by decide +kernel
theorem dX3_countOvertakenBy_19 : decode cX3_countOvertakenBy 19 = .ok (.iload_n 3, 1) := by decide +kernel
theorem dX3_countOvertakenBy_20 : decode cX3_countOvertakenBy 20 = .ok (.invokevirtual 43, 3) := by decide +kernel
theorem dX3_countOvertakenBy_23 : decode cX3_countOvertakenBy 23 = .ok (.checkcast 55, 3) := by decide +kernel
