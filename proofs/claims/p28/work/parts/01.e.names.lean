theorem wsL_law_x0 : ∀ w ∈ (vx_atS RX5 142 "java/lang/IndexOutOfBoundsException" ["java/lang/RuntimeException", "java/lang/Exception"]).filter goodWord, w ∈ lw_tbl := by decide +kernel
theorem wsL_law_x1 : ∀ w ∈ (vx_atS RX5 88 "java/lang/IllegalStateException" ["java/lang/RuntimeException", "java/lang/Exception"]).filter goodWord, w ∈ lw_tbl := by decide +kernel
theorem wsL_law_x2 : ∀ w ∈ (vx_atS RX5 214 "java/lang/IllegalArgumentException" ["java/lang/RuntimeException", "java/lang/Exception"]).filter goodWord, w ∈ lw_tbl := by decide +kernel
theorem wsL_law_in : ∀ w ∈ wsL_law, w ∈ lw_tbl := fun w h => (List.mem_append.mp h).elim (fun h => (List.mem_append.mp h).elim (fun h => (List.mem_append.mp h).elim (fun h => wsL_law_in0 w h) (fun h => wsL_law_x0 w h)) (fun h => wsL_law_x1 w h)) (fun h => wsL_law_x2 w h)
theorem inlX0 : ∀ w ∈ wsX00, w ∈ wsL_law := fun _ h => List.mem_append_left _ (List.mem_append_left _ (List.mem_append_left _ (List.mem_append_left _ (List.mem_append_left _ (List.mem_append_left _ (List.mem_append_left _ (List.mem_append_left _ (List.mem_append_right _ h))))))))
theorem inX0 : ∀ w ∈ wsX00, w ∈ lw_tbl := fun w h => wsL_law_in w (inlX0 w h)
theorem inX1 : ∀ w ∈ wsX10, w ∈ lw_tbl := by decide +kernel
theorem inlX2 : ∀ w ∈ wsX20, w ∈ wsL_law := fun _ h => List.mem_append_left _ (List.mem_append_left _ (List.mem_append_left _ (List.mem_append_left _ (List.mem_append_right _ h))))
theorem inX2 : ∀ w ∈ wsX20, w ∈ lw_tbl := fun w h => wsL_law_in w (inlX2 w h)
theorem inlX3 : ∀ w ∈ wsX30, w ∈ wsL_law := fun _ h => List.mem_append_left _ (List.mem_append_left _ (List.mem_append_left _ (List.mem_append_left _ (List.mem_append_left _ (List.mem_append_right _ h)))))
theorem inX3 : ∀ w ∈ wsX30, w ∈ lw_tbl := fun w h => wsL_law_in w (inlX3 w h)
theorem inlX4 : ∀ w ∈ wsX40, w ∈ wsL_law := fun _ h => List.mem_append_left _ (List.mem_append_left _ (List.mem_append_left _ (List.mem_append_left _ (List.mem_append_left _ (List.mem_append_left _ (List.mem_append_left _ (List.mem_append_right _ h)))))))
theorem inX4 : ∀ w ∈ wsX40, w ∈ lw_tbl := fun w h => wsL_law_in w (inlX4 w h)
theorem inlX5 : ∀ w ∈ wsX50, w ∈ wsL_law := fun _ h => List.mem_append_left _ (List.mem_append_left _ (List.mem_append_left _ (List.mem_append_left _ (List.mem_append_left _ (List.mem_append_left _ (List.mem_append_left _ (List.mem_append_left _ (List.mem_append_left _ (List.mem_append_right _ h)))))))))
theorem inX5 : ∀ w ∈ wsX50, w ∈ lw_tbl := fun w h => wsL_law_in w (inlX5 w h)
theorem inX6 : ∀ w ∈ wsX60, w ∈ lw_tbl := by decide +kernel
theorem inJx145de : ∀ w ∈ wsJx145de0, w ∈ lw_tbl := by decide +kernel
theorem inJx8e188 : ∀ w ∈ wsJx8e1880, w ∈ lw_tbl := by decide +kernel
theorem inJx29ce0 : ∀ w ∈ wsJx29ce00, w ∈ lw_tbl := by decide +kernel
theorem inJxab1ab : ∀ w ∈ wsJxab1ab0, w ∈ lw_tbl := by decide +kernel
theorem inJ9 : ∀ w ∈ wsJ90, w ∈ lw_tbl := by decide +kernel
theorem inJ0 : ∀ w ∈ wsJ00, w ∈ lw_tbl := by decide +kernel
theorem inJ10 : ∀ w ∈ wsJ100, w ∈ lw_tbl := by decide +kernel
theorem inJxa1e45 : ∀ w ∈ wsJxa1e450, w ∈ lw_tbl := by decide +kernel
theorem inJxc12de : ∀ w ∈ wsJxc12de0, w ∈ lw_tbl := by decide +kernel
theorem inlJx4a65c : ∀ w ∈ wsJx4a65c0, w ∈ wsL_law := fun _ h => List.mem_append_left _ (List.mem_append_left _ (List.mem_append_left _ (List.mem_append_left _ (List.mem_append_left _ (List.mem_append_left _ (List.mem_append_right _ h))))))
theorem inJx4a65c : ∀ w ∈ wsJx4a65c0, w ∈ lw_tbl := fun w h => wsL_law_in w (inlJx4a65c w h)
theorem inJ7 : ∀ w ∈ wsJ70, w ∈ lw_tbl := by decide +kernel
theorem inJx5ef63 : ∀ w ∈ wsJx5ef630, w ∈ lw_tbl := by decide +kernel
theorem inJxbd725 : ∀ w ∈ wsJxbd7250, w ∈ lw_tbl := by decide +kernel
theorem inJ15 : ∀ w ∈ wsJ150, w ∈ lw_tbl := by decide +kernel
theorem inJxf0a74 : ∀ w ∈ wsJxf0a740, w ∈ lw_tbl := by decide +kernel
theorem inJxa66e6 : ∀ w ∈ wsJxa66e60, w ∈ lw_tbl := by decide +kernel
theorem inJ8 : ∀ w ∈ wsJ80, w ∈ lw_tbl := by decide +kernel
theorem inJ3 : ∀ w ∈ wsJ30, w ∈ lw_tbl := by decide +kernel
set_option maxRecDepth 20000 in
theorem ggX0_init_Jx4a65c_init_da8c8 : GoodIn wsX0_init wsJx4a65c_init_da8c8 := goodIn_r _ [17, 18, 19, 20, 21, 22, 23, 24, 25, 26, 27, 28, 29, 2, 3, 37, 38, 39] (by decide +kernel) (by decide +kernel)
set_option maxRecDepth 20000 in
theorem gX0_init_Jx4a65c_init_da8c8 : GoodIn wsX0_init (wsJx4a65c_init_da8c8) := ggX0_init_Jx4a65c_init_da8c8
theorem dX0_init_0 : decode cX0_init 0 = .ok (.aload_n 0, 1) := by decide +kernel
theorem dX0_init_1 : decode cX0_init 1 = .ok (.invokespecial 3, 3) := by decide +kernel
theorem dX0_init_4 : decode cX0_init 4 = .ok (.aload_n 0, 1) := by decide +kernel
theorem dX0_init_5 : decode cX0_init 5 = .ok (.iconst 1, 1) := by decide +kernel
theorem dX0_init_6 : decode cX0_init 6 = .ok (.newarray .int, 2) := by decide +kernel
theorem dX0_init_8 : decode cX0_init 8 = .ok (.dup, 1) := by decide +kernel
theorem dX0_init_9 : decode cX0_init 9 = .ok (.iconst 0, 1) := by decide +kernel
theorem dX0_init_10 : decode cX0_init 10 = .ok (.iconst 1, 1) := by decide +kernel
theorem dX0_init_11 : decode cX0_init 11 = .ok (.iastore, 1) := by decide +kernel
theorem dX0_init_12 : decode cX0_init 12 = .ok (.putfield 9, 3) := by decide +kernel
theorem dX0_init_15 : decode cX0_init 15 = .ok (.aload_n 0, 1) := by decide +kernel
theorem dX0_init_16 : decode cX0_init 16 = .ok (.iconst 0, 1) := by decide +kernel
theorem dX0_init_17 : decode cX0_init 17 = .ok (.putfield 15, 3) := by decide +kernel
theorem dX0_init_20 : decode cX0_init 20 = .ok (.aload_n 0, 1) := by decide +kernel
theorem dX0_init_21 : decode cX0_init 21 = .ok (.iconst (-1), 1) := by decide +kernel
theorem dX0_init_22 : decode cX0_init 22 = .ok (.putfield 19, 3) := by decide +kernel
theorem dX0_init_25 : decode cX0_init 25 = .ok (.aload_n 0, 1) := by decide +kernel
theorem dX0_init_26 : decode cX0_init 26 = .ok (.iconst 0, 1) := by decide +kernel
theorem dX0_init_27 : decode cX0_init 27 = .ok (.putfield 22, 3) := by decide +kernel
theorem dX0_init_30 : decode cX0_init 30 = .ok (.aload_n 0, 1) := by decide +kernel
theorem dX0_init_31 : decode cX0_init 31 = .ok (.bipush 20, 2) := by decide +kernel
theorem dX0_init_33 : decode cX0_init 33 = .ok (.putfield 26, 3) := by decide +kernel
theorem dX0_init_36 : decode cX0_init 36 = .ok (.aload_n 0, 1) := by decide +kernel
theorem dX0_init_37 : decode cX0_init 37 = .ok (.bipush 10, 2) := by decide +kernel
theorem dX0_init_39 : decode cX0_init 39 = .ok (.putfield 29, 3) := by decide +kernel
theorem dX0_init_42 : decode cX0_init 42 = .ok (.aload_n 0, 1) := by decide +kernel
theorem dX0_init_43 : decode cX0_init 43 = .ok (.new 32, 3) := by decide +kernel
theorem dX0_init_46 : decode cX0_init 46 = .ok (.dup, 1) := by decide +kernel
theorem dX0_init_47 : decode cX0_init 47 = .ok (.invokespecial 34, 3) := by decide +kernel
theorem dX0_init_50 : decode cX0_init 50 = .ok (.putfield 35, 3) := by decide +kernel
theorem dX0_init_53 : decode cX0_init 53 = .ok (.return_, 1) := by decide +kernel
theorem dX1_delayAfter_0 : decode cX1_delayAfter 0 = .ok (.aload_n 0, 1) := by decide +kernel
theorem dX1_delayAfter_1 : decode cX1_delayAfter 1 = .ok (.getfield 36, 3) := by decide +kernel
theorem dX1_delayAfter_4 : decode cX1_delayAfter 4 = .ok (.iconst 0, 1) := by decide +kernel
theorem dX1_delayAfter_5 : decode cX1_delayAfter 5 = .ok (.iload_n 1, 1) := by decide +kernel
theorem dX1_delayAfter_6 : decode cX1_delayAfter 6 = .ok (.iconst 1, 1) := by decide +kernel
theorem dX1_delayAfter_7 : decode cX1_delayAfter 7 = .ok (.isub, 1) := by decide +kernel
theorem dX1_delayAfter_8 : decode cX1_delayAfter 8 = .ok (.iconst 3, 1) := by decide +kernel
theorem dX1_delayAfter_9 : decode cX1_delayAfter 9 = .ok (.invokestatic 42, 3) := by decide +kernel
theorem dX1_delayAfter_12 : decode cX1_delayAfter 12 = .ok (.invokestatic 48, 3) := by decide +kernel
theorem dX1_delayAfter_15 : decode cX1_delayAfter 15 = .ok (.ishl, 1) := by decide +kernel
theorem dX1_delayAfter_16 : decode cX1_delayAfter 16 = .ok (.ireturn, 1) := by decide +kernel
set_option maxRecDepth 20000 in
theorem ggX2_init_X2_add : GoodIn wsX2_init wsX2_add := goodIn_r _ [11, 4, 6, 12, 13] (by decide +kernel) (by decide +kernel)
set_option maxRecDepth 20000 in
theorem gX2_init_X2_add : GoodIn wsX2_init (wsV RX2 19 RX2 yX2_add wsX2_add) := goodIn_app (goodIn_of _ (by decide +kernel)) ggX2_init_X2_add
theorem dX2_init_0 : decode cX2_init 0 = .ok (.aload_n 0, 1) := by decide +kernel
theorem dX2_init_1 : decode cX2_init 1 = .ok (.invokespecial 3, 3) := by decide +kernel
theorem dX2_init_4 : decode cX2_init 4 = .ok (.aload_n 0, 1) := by decide +kernel
theorem dX2_init_5 : decode cX2_init 5 = .ok (.iconst 0, 1) := by decide +kernel
theorem dX2_init_6 : decode cX2_init 6 = .ok (.putfield 9, 3) := by decide +kernel
theorem dX2_init_9 : decode cX2_init 9 = .ok (.aload_n 0, 1) := by decide +kernel
theorem dX2_init_10 : decode cX2_init 10 = .ok (.iload_n 1, 1) := by decide +kernel
theorem dX2_init_11 : decode cX2_init 11 = .ok (.ifCond .le 7, 3) := by decide +kernel
theorem dX2_init_14 : decode cX2_init 14 = .ok (.iload_n 1, 1) := by decide +kernel
theorem dX2_init_15 : decode cX2_init 15 = .ok (.goto 4, 3) := by decide +kernel
theorem dX2_init_18 : decode cX2_init 18 = .ok (.iconst 0, 1) := by decide +kernel
theorem dX2_init_19 : decode cX2_init 19 = .ok (.newarray .int, 2) := by decide +kernel
theorem dX2_init_21 : decode cX2_init 21 = .ok (.putfield 15, 3) := by decide +kernel
theorem dX2_init_24 : decode cX2_init 24 = .ok (.aload_n 0, 1) := by decide +kernel
theorem dX2_init_25 : decode cX2_init 25 = .ok (.iconst 0, 1) := by decide +kernel
theorem dX2_init_26 : decode cX2_init 26 = .ok (.invokevirtual 19, 3) := by decide +kernel
theorem dX2_init_29 : decode cX2_init 29 = .ok (.return_, 1) := by decide +kernel
theorem dX2_add_0 : decode cX2_add 0 = .ok (.aload_n 0, 1) := by decide +kernel
theorem dX2_add_1 : decode cX2_add 1 = .ok (.getfield 9, 3) := by decide +kernel
theorem dX2_add_4 : decode cX2_add 4 = .ok (.aload_n 0, 1) := by decide +kernel
theorem dX2_add_5 : decode cX2_add 5 = .ok (.getfield 15, 3) := by decide +kernel
theorem dX2_add_8 : decode cX2_add 8 = .ok (.arraylength, 1) := by decide +kernel
theorem dX2_add_9 : decode cX2_add 9 = .ok (.if_icmp .ge 23, 3) := by decide +kernel
theorem dX2_add_12 : decode cX2_add 12 = .ok (.aload_n 0, 1) := by decide +kernel
theorem dX2_add_13 : decode cX2_add 13 = .ok (.getfield 15, 3) := by decide +kernel
theorem dX2_add_16 : decode cX2_add 16 = .ok (.aload_n 0, 1) := by decide +kernel
theorem dX2_add_17 : decode cX2_add 17 = .ok (.getfield 9, 3) := by decide +kernel
theorem dX2_add_20 : decode cX2_add 20 = .ok (.iload_n 1, 1) := by decide +kernel
theorem dX2_add_21 : decode cX2_add 21 = .ok (.iastore, 1) := by decide +kernel
theorem dX2_add_22 : decode cX2_add 22 = .ok (.aload_n 0, 1) := by decide +kernel
theorem dX2_add_23 : decode cX2_add 23 = .ok (.dup, 1) := by decide +kernel
theorem dX2_add_24 : decode cX2_add 24 = .ok (.getfield 9, 3) := by decide +kernel
theorem dX2_add_27 : decode cX2_add 27 = .ok (.iconst 1, 1) := by decide +kernel
theorem dX2_add_28 : decode cX2_add 28 = .ok (.iadd, 1) := by decide +kernel
theorem dX2_add_29 : decode cX2_add 29 = .ok (.putfield 9, 3) := by decide +kernel
theorem dX2_add_32 : decode cX2_add 32 = .ok (.return_, 1) := by decide +kernel
theorem dX2_stateAtItsEnd_0 : decode cX2_stateAtItsEnd 0 = .ok (.iconst 0, 1) := by decide +kernel
theorem dX2_stateAtItsEnd_1 : decode cX2_stateAtItsEnd 1 = .ok (.istore_n 2, 1) := by decide +kernel
theorem dX2_stateAtItsEnd_2 : decode cX2_stateAtItsEnd 2 = .ok (.iconst 0, 1) := by decide +kernel
theorem dX2_stateAtItsEnd_3 : decode cX2_stateAtItsEnd 3 = .ok (.istore_n 3, 1) := by decide +kernel
theorem dX2_stateAtItsEnd_4 : decode cX2_stateAtItsEnd 4 = .ok (.iconst 0, 1) := by decide +kernel
theorem dX2_stateAtItsEnd_5 : decode cX2_stateAtItsEnd 5 = .ok (.istore 4, 2) := by decide +kernel
theorem dX2_stateAtItsEnd_7 : decode cX2_stateAtItsEnd 7 = .ok (.iload 4, 2) := by decide +kernel
theorem dX2_stateAtItsEnd_9 : decode cX2_stateAtItsEnd 9 = .ok (.aload_n 0, 1) := by decide +kernel
theorem dX2_stateAtItsEnd_10 : decode cX2_stateAtItsEnd 10 = .ok (.getfield 9, 3) := by decide +kernel
theorem dX2_stateAtItsEnd_13 : decode cX2_stateAtItsEnd 13 = .ok (.if_icmp .ge 56, 3) := by decide +kernel
theorem dX2_stateAtItsEnd_16 : decode cX2_stateAtItsEnd 16 = .ok (.iload 4, 2) := by decide +kernel
theorem dX2_stateAtItsEnd_18 : decode cX2_stateAtItsEnd 18 = .ok (.aload_n 0, 1) := by decide +kernel
theorem dX2_stateAtItsEnd_19 : decode cX2_stateAtItsEnd 19 = .ok (.getfield 15, 3) := by decide +kernel
theorem dX2_stateAtItsEnd_22 : decode cX2_stateAtItsEnd 22 = .ok (.arraylength, 1) := by decide +kernel
theorem dX2_stateAtItsEnd_23 : decode cX2_stateAtItsEnd 23 = .ok (.if_icmp .ge 46, 3) := by decide +kernel
theorem dX2_stateAtItsEnd_26 : decode cX2_stateAtItsEnd 26 = .ok (.aload_n 0, 1) := by decide +kernel
theorem dX2_stateAtItsEnd_27 : decode cX2_stateAtItsEnd 27 = .ok (.getfield 15, 3) := by decide +kernel
theorem dX2_stateAtItsEnd_30 : decode cX2_stateAtItsEnd 30 = .ok (.iload 4, 2) := by decide +kernel
theorem dX2_stateAtItsEnd_32 : decode cX2_stateAtItsEnd 32 = .ok (.iaload, 1) := by decide +kernel
theorem dX2_stateAtItsEnd_33 : decode cX2_stateAtItsEnd 33 = .ok (.iconst 1, 1) := by decide +kernel
theorem dX2_stateAtItsEnd_34 : decode cX2_stateAtItsEnd 34 = .ok (.if_icmp .ne 6, 3) := by decide +kernel
theorem dX2_stateAtItsEnd_37 : decode cX2_stateAtItsEnd 37 = .ok (.iinc 3 1, 3) := by decide +kernel
theorem dX2_stateAtItsEnd_40 : decode cX2_stateAtItsEnd 40 = .ok (.aload_n 0, 1) := by decide +kernel
theorem dX2_stateAtItsEnd_41 : decode cX2_stateAtItsEnd 41 = .ok (.getfield 15, 3) := by decide +kernel
theorem dX2_stateAtItsEnd_44 : decode cX2_stateAtItsEnd 44 = .ok (.iload 4, 2) := by decide +kernel
theorem dX2_stateAtItsEnd_46 : decode cX2_stateAtItsEnd 46 = .ok (.iaload, 1) := by decide +kernel
theorem dX2_stateAtItsEnd_47 : decode cX2_stateAtItsEnd 47 = .ok (.bipush 10, 2) := by decide +kernel
theorem dX2_stateAtItsEnd_49 : decode cX2_stateAtItsEnd 49 = .ok (.if_icmp .lt 14, 3) := by decide +kernel
theorem dX2_stateAtItsEnd_52 : decode cX2_stateAtItsEnd 52 = .ok (.aload_n 0, 1) := by decide +kernel
theorem dX2_stateAtItsEnd_53 : decode cX2_stateAtItsEnd 53 = .ok (.getfield 15, 3) := by decide +kernel
theorem dX2_stateAtItsEnd_56 : decode cX2_stateAtItsEnd 56 = .ok (.iload 4, 2) := by decide +kernel
theorem dX2_stateAtItsEnd_58 : decode cX2_stateAtItsEnd 58 = .ok (.iaload, 1) := by decide +kernel
theorem dX2_stateAtItsEnd_59 : decode cX2_stateAtItsEnd 59 = .ok (.bipush 10, 2) := by decide +kernel
theorem dX2_stateAtItsEnd_61 : decode cX2_stateAtItsEnd 61 = .ok (.isub, 1) := by decide +kernel
theorem dX2_stateAtItsEnd_62 : decode cX2_stateAtItsEnd 62 = .ok (.istore_n 2, 1) := by decide +kernel
theorem dX2_stateAtItsEnd_63 : decode cX2_stateAtItsEnd 63 = .ok (.iinc 4 1, 3) := by decide +kernel
theorem dX2_stateAtItsEnd_66 : decode cX2_stateAtItsEnd 66 = .ok (.goto (-59), 3) := by decide +kernel
theorem dX2_stateAtItsEnd_69 : decode cX2_stateAtItsEnd 69 = .ok (.iload_n 3, 1) := by decide +kernel
theorem dX2_stateAtItsEnd_70 : decode cX2_stateAtItsEnd 70 = .ok (.iload_n 1, 1) := by decide +kernel
theorem dX2_stateAtItsEnd_71 : decode cX2_stateAtItsEnd 71 = .ok (.if_icmp .lt 7, 3) := by decide +kernel
theorem dX2_stateAtItsEnd_74 : decode cX2_stateAtItsEnd 74 = .ok (.iconst 1, 1) := by decide +kernel
theorem dX2_stateAtItsEnd_75 : decode cX2_stateAtItsEnd 75 = .ok (.goto 4, 3) := by decide +kernel
theorem dX2_stateAtItsEnd_78 : decode cX2_stateAtItsEnd 78 = .ok (.iload_n 2, 1) := by decide +kernel
theorem dX2_stateAtItsEnd_79 : decode cX2_stateAtItsEnd 79 = .ok (.ireturn, 1) := by decide +kernel
set_option maxRecDepth 20000 in
theorem ggX3_init_X2_init : GoodIn wsX3_init wsX2_init := goodIn_r _ [30, 31, 2, 3, 32, 22, 33, 34, 35, 36, 26, 37, 61, 62] (by decide +kernel) (by decide +kernel)
set_option maxRecDepth 20000 in
theorem gX3_init_X2_init : GoodIn wsX3_init (wsX2_init) := ggX3_init_X2_init
theorem dX3_init_0 : decode cX3_init 0 = .ok (.aload_n 0, 1) := by decide +kernel
theorem dX3_init_1 : decode cX3_init 1 = .ok (.invokespecial 3, 3) := by decide +kernel
theorem dX3_init_4 : decode cX3_init 4 = .ok (.aload_n 0, 1) := by decide +kernel
theorem dX3_init_5 : decode cX3_init 5 = .ok (.iconst 0, 1) := by decide +kernel
theorem dX3_init_6 : decode cX3_init 6 = .ok (.putfield 9, 3) := by decide +kernel
theorem dX3_init_9 : decode cX3_init 9 = .ok (.aload_n 0, 1) := by decide +kernel
theorem dX3_init_10 : decode cX3_init 10 = .ok (.iconst 0, 1) := by decide +kernel
theorem dX3_init_11 : decode cX3_init 11 = .ok (.putfield 15, 3) := by decide +kernel
theorem dX3_init_14 : decode cX3_init 14 = .ok (.aload_n 0, 1) := by decide +kernel
theorem dX3_init_15 : decode cX3_init 15 = .ok (.iconst 0, 1) := by decide +kernel
theorem dX3_init_16 : decode cX3_init 16 = .ok (.putfield 18, 3) := by decide +kernel
theorem dX3_init_19 : decode cX3_init 19 = .ok (.aload_n 0, 1) := by decide +kernel
theorem dX3_init_20 : decode cX3_init 20 = .ok (.iload_n 1, 1) := by decide +kernel
theorem dX3_init_21 : decode cX3_init 21 = .ok (.putfield 21, 3) := by decide +kernel
theorem dX3_init_24 : decode cX3_init 24 = .ok (.aload_n 0, 1) := by decide +kernel
theorem dX3_init_25 : decode cX3_init 25 = .ok (.aload_n 2, 1) := by decide +kernel
theorem dX3_init_26 : decode cX3_init 26 = .ok (.putfield 24, 3) := by decide +kernel
theorem dX3_init_29 : decode cX3_init 29 = .ok (.aload_n 0, 1) := by decide +kernel
theorem dX3_init_30 : decode cX3_init 30 = .ok (.aload_n 3, 1) := by decide +kernel
theorem dX3_init_31 : decode cX3_init 31 = .ok (.putfield 28, 3) := by decide +kernel
theorem dX3_init_34 : decode cX3_init 34 = .ok (.aload_n 0, 1) := by decide +kernel
theorem dX3_init_35 : decode cX3_init 35 = .ok (.iload 4, 2) := by decide +kernel
theorem dX3_init_37 : decode cX3_init 37 = .ok (.putfield 32, 3) := by decide +kernel
theorem dX3_init_40 : decode cX3_init 40 = .ok (.aload_n 0, 1) := by decide +kernel
theorem dX3_init_41 : decode cX3_init 41 = .ok (.iload 5, 2) := by decide +kernel
theorem dX3_init_43 : decode cX3_init 43 = .ok (.putfield 35, 3) := by decide +kernel
theorem dX3_init_46 : decode cX3_init 46 = .ok (.aload_n 0, 1) := by decide +kernel
theorem dX3_init_47 : decode cX3_init 47 = .ok (.aload_n 2, 1) := by decide +kernel
theorem dX3_init_48 : decode cX3_init 48 = .ok (.getfield 38, 3) := by decide +kernel
theorem dX3_init_51 : decode cX3_init 51 = .ok (.putfield 44, 3) := by decide +kernel
theorem dX3_init_54 : decode cX3_init 54 = .ok (.aload_n 0, 1) := by decide +kernel
theorem dX3_init_55 : decode cX3_init 55 = .ok (.aload_n 2, 1) := by decide +kernel
theorem dX3_init_56 : decode cX3_init 56 = .ok (.getfield 47, 3) := by decide +kernel
theorem dX3_init_59 : decode cX3_init 59 = .ok (.putfield 50, 3) := by decide +kernel
theorem dX3_init_62 : decode cX3_init 62 = .ok (.aload_n 0, 1) := by decide +kernel
theorem dX3_init_63 : decode cX3_init 63 = .ok (.aload_n 2, 1) := by decide +kernel
theorem dX3_init_64 : decode cX3_init 64 = .ok (.getfield 51, 3) := by decide +kernel
theorem dX3_init_67 : decode cX3_init 67 = .ok (.putfield 54, 3) := by decide +kernel
theorem dX3_init_70 : decode cX3_init 70 = .ok (.aload_n 0, 1) := by decide +kernel
theorem dX3_init_71 : decode cX3_init 71 = .ok (.aload_n 2, 1) := by decide +kernel
theorem dX3_init_72 : decode cX3_init 72 = .ok (.getfield 55, 3) := by decide +kernel
theorem dX3_init_75 : decode cX3_init 75 = .ok (.putfield 59, 3) := by decide +kernel
theorem dX3_init_78 : decode cX3_init 78 = .ok (.aload_n 0, 1) := by decide +kernel
theorem dX3_init_79 : decode cX3_init 79 = .ok (.iload 6, 2) := by decide +kernel
theorem dX3_init_81 : decode cX3_init 81 = .ok (.putfield 62, 3) := by decide +kernel
theorem dX3_init_84 : decode cX3_init 84 = .ok (.aload_n 0, 1) := by decide +kernel
theorem dX3_init_85 : decode cX3_init 85 = .ok (.iload 6, 2) := by decide +kernel
theorem dX3_init_87 : decode cX3_init 87 = .ok (.putfield 65, 3) := by decide +kernel
theorem dX3_init_90 : decode cX3_init 90 = .ok (.aload_n 0, 1) := by decide +kernel
theorem dX3_init_91 : decode cX3_init 91 = .ok (.iconst 3, 1) := by decide +kernel
theorem dX3_init_92 : decode cX3_init 92 = .ok (.newarray .int, 2) := by decide +kernel
theorem dX3_init_94 : decode cX3_init 94 = .ok (.putfield 68, 3) := by decide +kernel
theorem dX3_init_97 : decode cX3_init 97 = .ok (.aload_n 0, 1) := by decide +kernel
theorem dX3_init_98 : decode cX3_init 98 = .ok (.new 71, 3) := by decide +kernel
theorem dX3_init_101 : decode cX3_init 101 = .ok (.dup, 1) := by decide +kernel
theorem dX3_init_102 : decode cX3_init 102 = .ok (.iload 5, 2) := by decide +kernel
theorem dX3_init_104 : decode cX3_init 104 = .ok (.iconst 1, 1) := by decide +kernel
theorem dX3_init_105 : decode cX3_init 105 = .ok (.iadd, 1) := by decide +kernel
theorem dX3_init_106 : decode cX3_init 106 = .ok (.invokespecial 73, 3) := by decide +kernel
theorem dX3_init_109 : decode cX3_init 109 = .ok (.putfield 76, 3) := by decide +kernel
theorem dX3_init_112 : decode cX3_init 112 = .ok (.return_, 1) := by decide +kernel
theorem dX3_goesBetween_0 : decode cX3_goesBetween 0 = .ok (.aload_n 0, 1) := by decide +kernel
theorem dX3_goesBetween_1 : decode cX3_goesBetween 1 = .ok (.getfield 24, 3) := by decide +kernel
theorem dX3_goesBetween_4 : decode cX3_goesBetween 4 = .ok (.aload_n 1, 1) := by decide +kernel
theorem dX3_goesBetween_5 : decode cX3_goesBetween 5 = .ok (.if_acmp .ne 15, 3) := by decide +kernel
theorem dX3_goesBetween_8 : decode cX3_goesBetween 8 = .ok (.aload_n 0, 1) := by decide +kernel
theorem dX3_goesBetween_9 : decode cX3_goesBetween 9 = .ok (.getfield 28, 3) := by decide +kernel
theorem dX3_goesBetween_12 : decode cX3_goesBetween 12 = .ok (.aload_n 2, 1) := by decide +kernel
theorem dX3_goesBetween_13 : decode cX3_goesBetween 13 = .ok (.if_acmp .ne 7, 3) := by decide +kernel
theorem dX3_goesBetween_16 : decode cX3_goesBetween 16 = .ok (.iconst 1, 1) := by decide +kernel
theorem dX3_goesBetween_17 : decode cX3_goesBetween 17 = .ok (.goto 4, 3) := by decide +kernel
theorem dX3_goesBetween_20 : decode cX3_goesBetween 20 = .ok (.iconst 0, 1) := by decide +kernel
theorem dX3_goesBetween_21 : decode cX3_goesBetween 21 = .ok (.ireturn, 1) := by decide +kernel
theorem dX3_goesBefore_0 : decode cX3_goesBefore 0 = .ok (.aload_n 0, 1) := by decide +kernel
theorem dX3_goesBefore_1 : decode cX3_goesBefore 1 = .ok (.getfield 32, 3) := by decide +kernel
theorem dX3_goesBefore_4 : decode cX3_goesBefore 4 = .ok (.aload_n 1, 1) := by decide +kernel
theorem dX3_goesBefore_5 : decode cX3_goesBefore 5 = .ok (.getfield 32, 3) := by decide +kernel
theorem dX3_goesBefore_8 : decode cX3_goesBefore 8 = .ok (.if_icmp .eq 20, 3) := by decide +kernel
theorem dX3_goesBefore_11 : decode cX3_goesBefore 11 = .ok (.aload_n 0, 1) := by decide +kernel
theorem dX3_goesBefore_12 : decode cX3_goesBefore 12 = .ok (.getfield 32, 3) := by decide +kernel
theorem dX3_goesBefore_15 : decode cX3_goesBefore 15 = .ok (.aload_n 1, 1) := by decide +kernel
theorem dX3_goesBefore_16 : decode cX3_goesBefore 16 = .ok (.getfield 32, 3) := by decide +kernel
theorem dX3_goesBefore_19 : decode cX3_goesBefore 19 = .ok (.if_icmp .le 7, 3) := by decide +kernel
theorem dX3_goesBefore_22 : decode cX3_goesBefore 22 = .ok (.iconst 1, 1) := by decide +kernel
theorem dX3_goesBefore_23 : decode cX3_goesBefore 23 = .ok (.goto 4, 3) := by decide +kernel
theorem dX3_goesBefore_26 : decode cX3_goesBefore 26 = .ok (.iconst 0, 1) := by decide +kernel
theorem dX3_goesBefore_27 : decode cX3_goesBefore 27 = .ok (.ireturn, 1) := by decide +kernel
theorem dX3_goesBefore_28 : decode cX3_goesBefore 28 = .ok (.aload_n 0, 1) := by decide +kernel
theorem dX3_goesBefore_29 : decode cX3_goesBefore 29 = .ok (.getfield 65, 3) := by decide +kernel
theorem dX3_goesBefore_32 : decode cX3_goesBefore 32 = .ok (.aload_n 1, 1) := by decide +kernel
theorem dX3_goesBefore_33 : decode cX3_goesBefore 33 = .ok (.getfield 65, 3) := by decide +kernel
theorem dX3_goesBefore_36 : decode cX3_goesBefore 36 = .ok (.if_icmp .ge 7, 3) := by decide +kernel
theorem dX3_goesBefore_39 : decode cX3_goesBefore 39 = .ok (.iconst 1, 1) := by decide +kernel
theorem dX3_goesBefore_40 : decode cX3_goesBefore 40 = .ok (.goto 4, 3) := by decide +kernel
theorem dX3_goesBefore_43 : decode cX3_goesBefore 43 = .ok (.iconst 0, 1) := by decide +kernel
theorem dX3_goesBefore_44 : decode cX3_goesBefore 44 = .ok (.ireturn, 1) := by decide +kernel
set_option maxRecDepth 20000 in
theorem ggX3_arrive_J7_fill_53178 : GoodIn wsX3_arrive wsJ7_fill_53178 := goodIn_r _ [11] (by decide +kernel) (by decide +kernel)
set_option maxRecDepth 20000 in
theorem gX3_arrive_J7_fill_53178 : GoodIn wsX3_arrive (va_wsS RX3 85 yJ7_fill_53178 wsJ7_fill_53178) := goodIn_app (goodIn_of _ (by decide +kernel)) ggX3_arrive_J7_fill_53178
set_option maxRecDepth 20000 in
theorem ggX3_arrive_X2_add : GoodIn wsX3_arrive wsX2_add := goodIn_r _ [16, 17, 18, 139, 140] (by decide +kernel) (by decide +kernel)
set_option maxRecDepth 20000 in
theorem gX3_arrive_X2_add : GoodIn wsX3_arrive (wsV RX3 91 RX2 yX2_add wsX2_add) := goodIn_app (goodIn_of _ (by decide +kernel)) ggX3_arrive_X2_add
set_option maxRecDepth 20000 in
theorem ggX3_arrive_X3_finish : GoodIn wsX3_arrive wsX3_finish := goodIn_r _ [23, 24, 6, 1, 25, 26, 27, 12, 13, 14, 15, 16, 17, 18, 28, 29, 30, 31, 32, 33, 34, 35, 36, 37, 38, 39, 40, 41, 42, 43, 44, 45, 46, 47, 48, 49, 50, 51, 52, 53, 54, 55, 56, 57, 58, 59, 60, 61, 62, 63, 64, 65, 66, 67, 68, 69, 70, 71, 72, 73, 74, 75, 76, 77, 78, 79, 80, 81, 82, 83, 84, 85, 86, 87, 88, 89, 90, 91, 92, 93, 94, 95, 96, 97, 98, 99, 100, 101, 102, 103, 10, 104, 105, 106, 107, 108, 109, 110, 111, 112, 113, 114, 115, 116, 117, 118, 119, 120, 121, 122, 123, 124, 125, 126, 127, 128, 129, 130, 131, 132, 133, 141, 142, 143, 144, 145, 146, 147, 139, 140, 134, 135, 136, 137, 138, 148, 149, 150] (by decide +kernel) (by decide +kernel)
set_option maxRecDepth 20000 in
theorem gX3_arrive_X3_finish : GoodIn wsX3_arrive (wsV RX3 94 RX3 yX3_finish wsX3_finish) := goodIn_app (goodIn_of _ (by decide +kernel)) ggX3_arrive_X3_finish
theorem dX3_arrive_0 : decode cX3_arrive 0 = .ok (.aload_n 0, 1) := by decide +kernel
theorem dX3_arrive_1 : decode cX3_arrive 1 = .ok (.getfield 28, 3) := by decide +kernel
theorem dX3_arrive_4 : decode cX3_arrive 4 = .ok (.dup, 1) := by decide +kernel
theorem dX3_arrive_5 : decode cX3_arrive 5 = .ok (.getfield 80, 3) := by decide +kernel
theorem dX3_arrive_8 : decode cX3_arrive 8 = .ok (.iconst 1, 1) := by decide +kernel
theorem dX3_arrive_9 : decode cX3_arrive 9 = .ok (.iadd, 1) := by decide +kernel
theorem dX3_arrive_10 : decode cX3_arrive 10 = .ok (.putfield 80, 3) := by decide +kernel
theorem dX3_arrive_13 : decode cX3_arrive 13 = .ok (.aload_n 0, 1) := by decide +kernel
theorem dX3_arrive_14 : decode cX3_arrive 14 = .ok (.dup, 1) := by decide +kernel
theorem dX3_arrive_15 : decode cX3_arrive 15 = .ok (.getfield 18, 3) := by decide +kernel
theorem dX3_arrive_18 : decode cX3_arrive 18 = .ok (.iconst 1, 1) := by decide +kernel
theorem dX3_arrive_19 : decode cX3_arrive 19 = .ok (.iadd, 1) := by decide +kernel
theorem dX3_arrive_20 : decode cX3_arrive 20 = .ok (.putfield 18, 3) := by decide +kernel
theorem dX3_arrive_23 : decode cX3_arrive 23 = .ok (.aload_n 0, 1) := by decide +kernel
theorem dX3_arrive_24 : decode cX3_arrive 24 = .ok (.iload_n 1, 1) := by decide +kernel
theorem dX3_arrive_25 : decode cX3_arrive 25 = .ok (.putfield 65, 3) := by decide +kernel
theorem dX3_arrive_28 : decode cX3_arrive 28 = .ok (.aload_n 0, 1) := by decide +kernel
theorem dX3_arrive_29 : decode cX3_arrive 29 = .ok (.getfield 68, 3) := by decide +kernel
theorem dX3_arrive_32 : decode cX3_arrive 32 = .ok (.iconst 0, 1) := by decide +kernel
theorem dX3_arrive_33 : decode cX3_arrive 33 = .ok (.invokestatic 85, 3) := by decide +kernel
theorem dX3_arrive_36 : decode cX3_arrive 36 = .ok (.aload_n 0, 1) := by decide +kernel
theorem dX3_arrive_37 : decode cX3_arrive 37 = .ok (.getfield 76, 3) := by decide +kernel
theorem dX3_arrive_40 : decode cX3_arrive 40 = .ok (.iconst 1, 1) := by decide +kernel
theorem dX3_arrive_41 : decode cX3_arrive 41 = .ok (.invokevirtual 91, 3) := by decide +kernel
theorem dX3_arrive_44 : decode cX3_arrive 44 = .ok (.aload_n 0, 1) := by decide +kernel
theorem dX3_arrive_45 : decode cX3_arrive 45 = .ok (.getfield 18, 3) := by decide +kernel
theorem dX3_arrive_48 : decode cX3_arrive 48 = .ok (.aload_n 0, 1) := by decide +kernel
theorem dX3_arrive_49 : decode cX3_arrive 49 = .ok (.getfield 44, 3) := by decide +kernel
theorem dX3_arrive_52 : decode cX3_arrive 52 = .ok (.arraylength, 1) := by decide +kernel
theorem dX3_arrive_53 : decode cX3_arrive 53 = .ok (.if_icmp .lt 8, 3) := by decide +kernel
theorem dX3_arrive_56 : decode cX3_arrive 56 = .ok (.aload_n 0, 1) := by decide +kernel
theorem dX3_arrive_57 : decode cX3_arrive 57 = .ok (.iconst 1, 1) := by decide +kernel
theorem dX3_arrive_58 : decode cX3_arrive 58 = .ok (.invokevirtual 94, 3) := by decide +kernel
theorem dX3_arrive_61 : decode cX3_arrive 61 = .ok (.return_, 1) := by decide +kernel
set_option maxRecDepth 20000 in
theorem ggX3_fail_X1_delayAfter : GoodIn wsX3_fail wsX1_delayAfter := goodIn_r _ [9, 10, 11, 12, 13, 14, 15, 16, 17] (by decide +kernel) (by decide +kernel)
set_option maxRecDepth 20000 in
theorem gX3_fail_X1_delayAfter : GoodIn wsX3_fail (wsV RX3 102 RX1 yX1_delayAfter wsX1_delayAfter) := goodIn_app (goodIn_of _ (by decide +kernel)) ggX3_fail_X1_delayAfter
set_option maxRecDepth 20000 in
theorem ggX3_fail_X2_add : GoodIn wsX3_fail wsX2_add := goodIn_r _ [22, 23, 24, 41, 42] (by decide +kernel) (by decide +kernel)
set_option maxRecDepth 20000 in
theorem gX3_fail_X2_add : GoodIn wsX3_fail (wsV RX3 91 RX2 yX2_add wsX2_add) := goodIn_app (goodIn_of _ (by decide +kernel)) ggX3_fail_X2_add
theorem dX3_fail_0 : decode cX3_fail 0 = .ok (.aload_n 1, 1) := by decide +kernel
theorem dX3_fail_1 : decode cX3_fail 1 = .ok (.getfield 97, 3) := by decide +kernel
theorem dX3_fail_4 : decode cX3_fail 4 = .ok (.istore_n 3, 1) := by decide +kernel
theorem dX3_fail_5 : decode cX3_fail 5 = .ok (.iload_n 3, 1) := by decide +kernel
theorem dX3_fail_6 : decode cX3_fail 6 = .ok (.ifCond .lt 12, 3) := by decide +kernel
theorem dX3_fail_9 : decode cX3_fail 9 = .ok (.iload_n 3, 1) := by decide +kernel
theorem dX3_fail_10 : decode cX3_fail 10 = .ok (.aload_n 0, 1) := by decide +kernel
theorem dX3_fail_11 : decode cX3_fail 11 = .ok (.getfield 68, 3) := by decide +kernel
theorem dX3_fail_14 : decode cX3_fail 14 = .ok (.arraylength, 1) := by decide +kernel
theorem dX3_fail_15 : decode cX3_fail 15 = .ok (.if_icmp .lt 4, 3) := by decide +kernel
theorem dX3_fail_18 : decode cX3_fail 18 = .ok (.return_, 1) := by decide +kernel
theorem dX3_fail_19 : decode cX3_fail 19 = .ok (.aload_n 0, 1) := by decide +kernel
theorem dX3_fail_20 : decode cX3_fail 20 = .ok (.getfield 68, 3) := by decide +kernel
theorem dX3_fail_23 : decode cX3_fail 23 = .ok (.iload_n 3, 1) := by decide +kernel
theorem dX3_fail_24 : decode cX3_fail 24 = .ok (.dup2, 1) := by decide +kernel
theorem dX3_fail_25 : decode cX3_fail 25 = .ok (.iaload, 1) := by decide +kernel
theorem dX3_fail_26 : decode cX3_fail 26 = .ok (.iconst 1, 1) := by decide +kernel
theorem dX3_fail_27 : decode cX3_fail 27 = .ok (.iadd, 1) := by decide +kernel
theorem dX3_fail_28 : decode cX3_fail 28 = .ok (.iastore, 1) := by decide +kernel
theorem dX3_fail_29 : decode cX3_fail 29 = .ok (.aload_n 0, 1) := by decide +kernel
theorem dX3_fail_30 : decode cX3_fail 30 = .ok (.iload_n 2, 1) := by decide +kernel
theorem dX3_fail_31 : decode cX3_fail 31 = .ok (.aload_n 1, 1) := by decide +kernel
theorem dX3_fail_32 : decode cX3_fail 32 = .ok (.aload_n 0, 1) := by decide +kernel
theorem dX3_fail_33 : decode cX3_fail 33 = .ok (.getfield 68, 3) := by decide +kernel
theorem dX3_fail_36 : decode cX3_fail 36 = .ok (.iload_n 3, 1) := by decide +kernel
theorem dX3_fail_37 : decode cX3_fail 37 = .ok (.iaload, 1) := by decide +kernel
theorem dX3_fail_38 : decode cX3_fail 38 = .ok (.invokevirtual 102, 3) := by decide +kernel
theorem dX3_fail_41 : decode cX3_fail 41 = .ok (.iadd, 1) := by decide +kernel
theorem dX3_fail_42 : decode cX3_fail 42 = .ok (.putfield 65, 3) := by decide +kernel
theorem dX3_fail_45 : decode cX3_fail 45 = .ok (.aload_n 0, 1) := by decide +kernel
theorem dX3_fail_46 : decode cX3_fail 46 = .ok (.getfield 76, 3) := by decide +kernel
theorem dX3_fail_49 : decode cX3_fail 49 = .ok (.iconst 2, 1) := by decide +kernel
theorem dX3_fail_50 : decode cX3_fail 50 = .ok (.iload_n 3, 1) := by decide +kernel
theorem dX3_fail_51 : decode cX3_fail 51 = .ok (.iadd, 1) := by decide +kernel
theorem dX3_fail_52 : decode cX3_fail 52 = .ok (.invokevirtual 91, 3) := by decide +kernel
theorem dX3_fail_55 : decode cX3_fail 55 = .ok (.return_, 1) := by decide +kernel
set_option maxRecDepth 20000 in
theorem ggX3_finish_X2_add : GoodIn wsX3_finish wsX2_add := goodIn_r _ [11, 12, 13, 128, 129] (by decide +kernel) (by decide +kernel)
set_option maxRecDepth 20000 in
theorem gX3_finish_X2_add : GoodIn wsX3_finish (wsV RX3 91 RX2 yX2_add wsX2_add) := goodIn_app (goodIn_of _ (by decide +kernel)) ggX3_finish_X2_add
set_option maxRecDepth 20000 in
theorem ggX3_finish_X4_takeFromQueue : GoodIn wsX3_finish wsX4_takeFromQueue := goodIn_r _ [18, 19, 20, 21, 22, 23, 24, 25, 26, 27, 28, 29, 30, 31, 32, 33, 34, 35, 36, 37, 38, 39, 40, 41, 42, 43, 44, 45, 46, 47, 48, 49, 50, 51, 52, 53, 54, 55, 56, 130, 131, 132, 133, 134, 135, 136, 137] (by decide +kernel) (by decide +kernel)
set_option maxRecDepth 20000 in
theorem gX3_finish_X4_takeFromQueue : GoodIn wsX3_finish (wsV RX3 106 RX4 yX4_takeFromQueue wsX4_takeFromQueue) := goodIn_app (goodIn_of _ (by decide +kernel)) ggX3_finish_X4_takeFromQueue
set_option maxRecDepth 20000 in
theorem ggX3_finish_Jx4a65c_add_9ea2d : GoodIn wsX3_finish wsJx4a65c_add_9ea2d := goodIn_r _ [60, 51, 52, 42, 25, 61, 62, 63, 23, 64, 65, 66, 67, 68, 69, 70, 71, 72, 73, 74, 75, 76, 77, 78, 79, 80, 81, 82, 83, 84, 85, 86, 87, 88, 89, 90, 91, 92, 93, 94, 95, 96, 97, 98, 99, 100, 101, 102, 103, 104, 54, 55, 56, 135, 136, 137] (by decide +kernel) (by decide +kernel)
set_option maxRecDepth 20000 in
theorem gX3_finish_Jx4a65c_add_9ea2d : GoodIn wsX3_finish (wsV RX3 114 RJx4a65c yJx4a65c_add_9ea2d wsJx4a65c_add_9ea2d) := goodIn_app (goodIn_of _ (by decide +kernel)) ggX3_finish_Jx4a65c_add_9ea2d
theorem dX3_finish_0 : decode cX3_finish 0 = .ok (.aload_n 0, 1) := by decide +kernel
theorem dX3_finish_1 : decode cX3_finish 1 = .ok (.iload_n 1, 1) := by decide +kernel
theorem dX3_finish_2 : decode cX3_finish 2 = .ok (.putfield 9, 3) := by decide +kernel
theorem dX3_finish_5 : decode cX3_finish 5 = .ok (.iload_n 1, 1) := by decide +kernel
theorem dX3_finish_6 : decode cX3_finish 6 = .ok (.iconst 1, 1) := by decide +kernel
theorem dX3_finish_7 : decode cX3_finish 7 = .ok (.if_icmp .eq 14, 3) := by decide +kernel
theorem dX3_finish_10 : decode cX3_finish 10 = .ok (.aload_n 0, 1) := by decide +kernel
theorem dX3_finish_11 : decode cX3_finish 11 = .ok (.getfield 76, 3) := by decide +kernel
theorem dX3_finish_14 : decode cX3_finish 14 = .ok (.bipush 10, 2) := by decide +kernel
theorem dX3_finish_16 : decode cX3_finish 16 = .ok (.iload_n 1, 1) := by decide +kernel
theorem dX3_finish_17 : decode cX3_finish 17 = .ok (.iadd, 1) := by decide +kernel
theorem dX3_finish_18 : decode cX3_finish 18 = .ok (.invokevirtual 91, 3) := by decide +kernel
theorem dX3_finish_21 : decode cX3_finish 21 = .ok (.aload_n 0, 1) := by decide +kernel
theorem dX3_finish_22 : decode cX3_finish 22 = .ok (.getfield 28, 3) := by decide +kernel
theorem dX3_finish_25 : decode cX3_finish 25 = .ok (.aload_n 0, 1) := by decide +kernel
theorem dX3_finish_26 : decode cX3_finish 26 = .ok (.invokevirtual 106, 3) := by decide +kernel
theorem dX3_finish_29 : decode cX3_finish 29 = .ok (.aload_n 0, 1) := by decide +kernel
theorem dX3_finish_30 : decode cX3_finish 30 = .ok (.getfield 59, 3) := by decide +kernel
theorem dX3_finish_33 : decode cX3_finish 33 = .ok (.ifCond .eq 15, 3) := by decide +kernel
theorem dX3_finish_36 : decode cX3_finish 36 = .ok (.aload_n 0, 1) := by decide +kernel
theorem dX3_finish_37 : decode cX3_finish 37 = .ok (.getfield 24, 3) := by decide +kernel
theorem dX3_finish_40 : decode cX3_finish 40 = .ok (.getfield 110, 3) := by decide +kernel
theorem dX3_finish_43 : decode cX3_finish 43 = .ok (.aload_n 0, 1) := by decide +kernel
theorem dX3_finish_44 : decode cX3_finish 44 = .ok (.invokevirtual 114, 3) := by decide +kernel
theorem dX3_finish_47 : decode cX3_finish 47 = .ok (.pop, 1) := by decide +kernel
theorem dX3_finish_48 : decode cX3_finish 48 = .ok (.return_, 1) := by decide +kernel
set_option maxRecDepth 20000 in
theorem ggX4_init_Jx4a65c_init_da8c8 : GoodIn wsX4_init wsJx4a65c_init_da8c8 := goodIn_r _ [14, 15, 16, 17, 18, 19, 20, 21, 22, 23, 24, 25, 26, 2, 3, 32, 33, 34] (by decide +kernel) (by decide +kernel)
set_option maxRecDepth 20000 in
theorem gX4_init_Jx4a65c_init_da8c8 : GoodIn wsX4_init (wsJx4a65c_init_da8c8) := ggX4_init_Jx4a65c_init_da8c8
theorem dX4_init_0 : decode cX4_init 0 = .ok (.aload_n 0, 1) := by decide +kernel
theorem dX4_init_1 : decode cX4_init 1 = .ok (.invokespecial 3, 3) := by decide +kernel
theorem dX4_init_4 : decode cX4_init 4 = .ok (.aload_n 0, 1) := by decide +kernel
theorem dX4_init_5 : decode cX4_init 5 = .ok (.iconst 0, 1) := by decide +kernel
theorem dX4_init_6 : decode cX4_init 6 = .ok (.putfield 9, 3) := by decide +kernel
theorem dX4_init_9 : decode cX4_init 9 = .ok (.aload_n 0, 1) := by decide +kernel
theorem dX4_init_10 : decode cX4_init 10 = .ok (.bipush 10, 2) := by decide +kernel
theorem dX4_init_12 : decode cX4_init 12 = .ok (.putfield 15, 3) := by decide +kernel
theorem dX4_init_15 : decode cX4_init 15 = .ok (.aload_n 0, 1) := by decide +kernel
theorem dX4_init_16 : decode cX4_init 16 = .ok (.iconst 0, 1) := by decide +kernel
theorem dX4_init_17 : decode cX4_init 17 = .ok (.putfield 18, 3) := by decide +kernel
theorem dX4_init_20 : decode cX4_init 20 = .ok (.aload_n 0, 1) := by decide +kernel
theorem dX4_init_21 : decode cX4_init 21 = .ok (.iconst 0, 1) := by decide +kernel
theorem dX4_init_22 : decode cX4_init 22 = .ok (.putfield 21, 3) := by decide +kernel
theorem dX4_init_25 : decode cX4_init 25 = .ok (.aload_n 0, 1) := by decide +kernel
theorem dX4_init_26 : decode cX4_init 26 = .ok (.new 24, 3) := by decide +kernel
theorem dX4_init_29 : decode cX4_init 29 = .ok (.dup, 1) := by decide +kernel
theorem dX4_init_30 : decode cX4_init 30 = .ok (.invokespecial 26, 3) := by decide +kernel
theorem dX4_init_33 : decode cX4_init 33 = .ok (.putfield 27, 3) := by decide +kernel
theorem dX4_init_36 : decode cX4_init 36 = .ok (.return_, 1) := by decide +kernel
set_option maxRecDepth 20000 in
theorem ggX4_firstDueUntil_Jx4a65c_size_8abf5 : GoodIn wsX4_firstDueUntil wsJx4a65c_size_8abf5 := goodIn_r _ [8, 9, 55, 56, 57] (by decide +kernel) (by decide +kernel)
set_option maxRecDepth 20000 in
theorem gX4_firstDueUntil_Jx4a65c_size_8abf5 : GoodIn wsX4_firstDueUntil (wsV RX4 31 RJx4a65c yJx4a65c_size_8abf5 wsJx4a65c_size_8abf5) := goodIn_app (goodIn_of _ (by decide +kernel)) ggX4_firstDueUntil_Jx4a65c_size_8abf5
set_option maxRecDepth 20000 in
theorem ggX4_firstDueUntil_Jx4a65c_get_915e3 : GoodIn wsX4_firstDueUntil wsJx4a65c_get_915e3 := goodIn_r _ [13, 9, 14, 15, 16, 17, 18, 19, 20, 21, 22, 23, 24, 7, 25, 26, 55, 56, 57] (by decide +kernel) (by decide +kernel)
set_option maxRecDepth 20000 in
theorem gX4_firstDueUntil_Jx4a65c_get_915e3 : GoodIn wsX4_firstDueUntil (wsV RX4 35 RJx4a65c yJx4a65c_get_915e3 wsJx4a65c_get_915e3) := goodIn_app (goodIn_of _ (by decide +kernel)) ggX4_firstDueUntil_Jx4a65c_get_915e3
set_option maxRecDepth 20000 in
theorem ggX4_firstDueUntil_X3_goesBefore : GoodIn wsX4_firstDueUntil wsX3_goesBefore := goodIn_r _ [31, 32, 33, 39, 40, 41, 42, 43, 44, 45, 46, 47, 48, 49, 50, 51, 52, 53, 54] (by decide +kernel) (by decide +kernel)
set_option maxRecDepth 20000 in
theorem gX4_firstDueUntil_X3_goesBefore : GoodIn wsX4_firstDueUntil (wsV RX4 44 RX3 yX3_goesBefore wsX3_goesBefore) := goodIn_app (goodIn_of _ (by decide +kernel)) ggX4_firstDueUntil_X3_goesBefore
theorem dX4_firstDueUntil_0 : decode cX4_firstDueUntil 0 = .ok (.aconst_null, 1) := by decide +kernel
theorem dX4_firstDueUntil_1 : decode cX4_firstDueUntil 1 = .ok (.astore_n 2, 1) := by decide +kernel
theorem dX4_firstDueUntil_2 : decode cX4_firstDueUntil 2 = .ok (.iconst 0, 1) := by decide +kernel
theorem dX4_firstDueUntil_3 : decode cX4_firstDueUntil 3 = .ok (.istore_n 3, 1) := by decide +kernel
theorem dX4_firstDueUntil_4 : decode cX4_firstDueUntil 4 = .ok (.iload_n 3, 1) := by decide +kernel
theorem dX4_firstDueUntil_5 : decode cX4_firstDueUntil 5 = .ok (.aload_n 0, 1) := by decide +kernel
theorem dX4_firstDueUntil_6 : decode cX4_firstDueUntil 6 = .ok (.getfield 27, 3) := by decide +kernel
theorem dX4_firstDueUntil_9 : decode cX4_firstDueUntil 9 = .ok (.invokevirtual 31, 3) := by decide +kernel
theorem dX4_firstDueUntil_12 : decode cX4_firstDueUntil 12 = .ok (.if_icmp .ge 47, 3) := by decide +kernel
theorem dX4_firstDueUntil_15 : decode cX4_firstDueUntil 15 = .ok (.aload_n 0, 1) := by decide +kernel
theorem dX4_firstDueUntil_16 : decode cX4_firstDueUntil 16 = .ok (.getfield 27, 3) := by decide +kernel
theorem dX4_firstDueUntil_19 : decode cX4_firstDueUntil 19 = .ok (.iload_n 3, 1) := by decide +kernel
theorem dX4_firstDueUntil_20 : decode cX4_firstDueUntil 20 = .ok (.invokevirtual 35, 3) := by decide +kernel
theorem dX4_firstDueUntil_23 : decode cX4_firstDueUntil 23 = .ok (.checkcast 39, 3) := by decide +kernel
theorem dX4_firstDueUntil_26 : decode cX4_firstDueUntil 26 = .ok (.astore 4, 2) := by decide +kernel
theorem dX4_firstDueUntil_28 : decode cX4_firstDueUntil 28 = .ok (.aload 4, 2) := by decide +kernel
theorem dX4_firstDueUntil_30 : decode cX4_firstDueUntil 30 = .ok (.getfield 41, 3) := by decide +kernel
theorem dX4_firstDueUntil_33 : decode cX4_firstDueUntil 33 = .ok (.iload_n 1, 1) := by decide +kernel
theorem dX4_firstDueUntil_34 : decode cX4_firstDueUntil 34 = .ok (.if_icmp .gt 19, 3) := by decide +kernel
theorem dX4_firstDueUntil_37 : decode cX4_firstDueUntil 37 = .ok (.aload_n 2, 1) := by decide +kernel
theorem dX4_firstDueUntil_38 : decode cX4_firstDueUntil 38 = .ok (.ifnull 12, 3) := by decide +kernel
theorem dX4_firstDueUntil_41 : decode cX4_firstDueUntil 41 = .ok (.aload 4, 2) := by decide +kernel
theorem dX4_firstDueUntil_43 : decode cX4_firstDueUntil 43 = .ok (.aload_n 2, 1) := by decide +kernel
theorem dX4_firstDueUntil_44 : decode cX4_firstDueUntil 44 = .ok (.invokevirtual 44, 3) := by decide +kernel
theorem dX4_firstDueUntil_47 : decode cX4_firstDueUntil 47 = .ok (.ifCond .eq 6, 3) := by decide +kernel
theorem dX4_firstDueUntil_50 : decode cX4_firstDueUntil 50 = .ok (.aload 4, 2) := by decide +kernel
theorem dX4_firstDueUntil_52 : decode cX4_firstDueUntil 52 = .ok (.astore_n 2, 1) := by decide +kernel
theorem dX4_firstDueUntil_53 : decode cX4_firstDueUntil 53 = .ok (.iinc 3 1, 3) := by decide +kernel
theorem dX4_firstDueUntil_56 : decode cX4_firstDueUntil 56 = .ok (.goto (-52), 3) := by decide +kernel
theorem dX4_firstDueUntil_59 : decode cX4_firstDueUntil 59 = .ok (.aload_n 2, 1) := by decide +kernel
theorem dX4_firstDueUntil_60 : decode cX4_firstDueUntil 60 = .ok (.areturn, 1) := by decide +kernel
theorem dX4_causeToFail_0 : decode cX4_causeToFail 0 = .ok (.aload_n 0, 1) := by decide +kernel
theorem dX4_causeToFail_1 : decode cX4_causeToFail 1 = .ok (.getfield 9, 3) := by decide +kernel
theorem dX4_causeToFail_4 : decode cX4_causeToFail 4 = .ok (.iconst 2, 1) := by decide +kernel
theorem dX4_causeToFail_5 : decode cX4_causeToFail 5 = .ok (.if_icmp .ne 7, 3) := by decide +kernel
theorem dX4_causeToFail_8 : decode cX4_causeToFail 8 = .ok (.getstatic 48, 3) := by decide +kernel
theorem dX4_causeToFail_11 : decode cX4_causeToFail 11 = .ok (.areturn, 1) := by decide +kernel
theorem dX4_causeToFail_12 : decode cX4_causeToFail 12 = .ok (.aload_n 0, 1) := by decide +kernel
theorem dX4_causeToFail_13 : decode cX4_causeToFail 13 = .ok (.getfield 9, 3) := by decide +kernel
theorem dX4_causeToFail_16 : decode cX4_causeToFail 16 = .ok (.iconst 1, 1) := by decide +kernel
theorem dX4_causeToFail_17 : decode cX4_causeToFail 17 = .ok (.if_icmp .ne 7, 3) := by decide +kernel
theorem dX4_causeToFail_20 : decode cX4_causeToFail 20 = .ok (.getstatic 54, 3) := by decide +kernel
theorem dX4_causeToFail_23 : decode cX4_causeToFail 23 = .ok (.areturn, 1) := by decide +kernel
theorem dX4_causeToFail_24 : decode cX4_causeToFail 24 = .ok (.aload_n 0, 1) := by decide +kernel
theorem dX4_causeToFail_25 : decode cX4_causeToFail 25 = .ok (.getfield 18, 3) := by decide +kernel
theorem dX4_causeToFail_28 : decode cX4_causeToFail 28 = .ok (.aload_n 0, 1) := by decide +kernel
theorem dX4_causeToFail_29 : decode cX4_causeToFail 29 = .ok (.getfield 15, 3) := by decide +kernel
theorem dX4_causeToFail_32 : decode cX4_causeToFail 32 = .ok (.if_icmp .ge 7, 3) := by decide +kernel
theorem dX4_causeToFail_35 : decode cX4_causeToFail 35 = .ok (.aconst_null, 1) := by decide +kernel
theorem dX4_causeToFail_36 : decode cX4_causeToFail 36 = .ok (.goto 6, 3) := by decide +kernel
theorem dX4_causeToFail_39 : decode cX4_causeToFail 39 = .ok (.getstatic 57, 3) := by decide +kernel
theorem dX4_causeToFail_42 : decode cX4_causeToFail 42 = .ok (.areturn, 1) := by decide +kernel
set_option maxRecDepth 20000 in
theorem ggX4_wakeFrom_Jx4a65c_size_8abf5 : GoodIn wsX4_wakeFrom wsJx4a65c_size_8abf5 := goodIn_r _ [13, 14, 53, 54, 55] (by decide +kernel) (by decide +kernel)
set_option maxRecDepth 20000 in
theorem gX4_wakeFrom_Jx4a65c_size_8abf5 : GoodIn wsX4_wakeFrom (wsV RX4 31 RJx4a65c yJx4a65c_size_8abf5 wsJx4a65c_size_8abf5) := goodIn_app (goodIn_of _ (by decide +kernel)) ggX4_wakeFrom_Jx4a65c_size_8abf5
set_option maxRecDepth 20000 in
theorem ggX4_wakeFrom_Jx4a65c_get_915e3 : GoodIn wsX4_wakeFrom wsJx4a65c_get_915e3 := goodIn_r _ [18, 14, 19, 20, 21, 22, 23, 24, 25, 26, 27, 28, 29, 12, 30, 31, 53, 54, 55] (by decide +kernel) (by decide +kernel)
set_option maxRecDepth 20000 in
theorem gX4_wakeFrom_Jx4a65c_get_915e3 : GoodIn wsX4_wakeFrom (wsV RX4 35 RJx4a65c yJx4a65c_get_915e3 wsJx4a65c_get_915e3) := goodIn_app (goodIn_of _ (by decide +kernel)) ggX4_wakeFrom_Jx4a65c_get_915e3
theorem dX4_wakeFrom_0 : decode cX4_wakeFrom 0 = .ok (.aload_n 0, 1) := by decide +kernel
theorem dX4_wakeFrom_1 : decode cX4_wakeFrom 1 = .ok (.getfield 21, 3) := by decide +kernel
theorem dX4_wakeFrom_4 : decode cX4_wakeFrom 4 = .ok (.iload_n 1, 1) := by decide +kernel
theorem dX4_wakeFrom_5 : decode cX4_wakeFrom 5 = .ok (.iand, 1) := by decide +kernel
theorem dX4_wakeFrom_6 : decode cX4_wakeFrom 6 = .ok (.ifCond .ne 4, 3) := by decide +kernel
theorem dX4_wakeFrom_9 : decode cX4_wakeFrom 9 = .ok (.return_, 1) := by decide +kernel
theorem dX4_wakeFrom_10 : decode cX4_wakeFrom 10 = .ok (.aload_n 0, 1) := by decide +kernel
theorem dX4_wakeFrom_11 : decode cX4_wakeFrom 11 = .ok (.dup, 1) := by decide +kernel
theorem dX4_wakeFrom_12 : decode cX4_wakeFrom 12 = .ok (.getfield 21, 3) := by decide +kernel
theorem dX4_wakeFrom_15 : decode cX4_wakeFrom 15 = .ok (.iload_n 1, 1) := by decide +kernel
theorem dX4_wakeFrom_16 : decode cX4_wakeFrom 16 = .ok (.iconst (-1), 1) := by decide +kernel
theorem dX4_wakeFrom_17 : decode cX4_wakeFrom 17 = .ok (.ixor, 1) := by decide +kernel
theorem dX4_wakeFrom_18 : decode cX4_wakeFrom 18 = .ok (.iand, 1) := by decide +kernel
theorem dX4_wakeFrom_19 : decode cX4_wakeFrom 19 = .ok (.putfield 21, 3) := by decide +kernel
theorem dX4_wakeFrom_22 : decode cX4_wakeFrom 22 = .ok (.iconst 0, 1) := by decide +kernel
theorem dX4_wakeFrom_23 : decode cX4_wakeFrom 23 = .ok (.istore_n 3, 1) := by decide +kernel
theorem dX4_wakeFrom_24 : decode cX4_wakeFrom 24 = .ok (.iload_n 3, 1) := by decide +kernel
theorem dX4_wakeFrom_25 : decode cX4_wakeFrom 25 = .ok (.aload_n 0, 1) := by decide +kernel
theorem dX4_wakeFrom_26 : decode cX4_wakeFrom 26 = .ok (.getfield 27, 3) := by decide +kernel
theorem dX4_wakeFrom_29 : decode cX4_wakeFrom 29 = .ok (.invokevirtual 31, 3) := by decide +kernel
theorem dX4_wakeFrom_32 : decode cX4_wakeFrom 32 = .ok (.if_icmp .ge 36, 3) := by decide +kernel
theorem dX4_wakeFrom_35 : decode cX4_wakeFrom 35 = .ok (.aload_n 0, 1) := by decide +kernel
theorem dX4_wakeFrom_36 : decode cX4_wakeFrom 36 = .ok (.getfield 27, 3) := by decide +kernel
theorem dX4_wakeFrom_39 : decode cX4_wakeFrom 39 = .ok (.iload_n 3, 1) := by decide +kernel
theorem dX4_wakeFrom_40 : decode cX4_wakeFrom 40 = .ok (.invokevirtual 35, 3) := by decide +kernel
theorem dX4_wakeFrom_43 : decode cX4_wakeFrom 43 = .ok (.checkcast 39, 3) := by decide +kernel
theorem dX4_wakeFrom_46 : decode cX4_wakeFrom 46 = .ok (.astore 4, 2) := by decide +kernel
theorem dX4_wakeFrom_48 : decode cX4_wakeFrom 48 = .ok (.aload 4, 2) := by decide +kernel
theorem dX4_wakeFrom_50 : decode cX4_wakeFrom 50 = .ok (.aload 4, 2) := by decide +kernel
theorem dX4_wakeFrom_52 : decode cX4_wakeFrom 52 = .ok (.getfield 41, 3) := by decide +kernel
theorem dX4_wakeFrom_55 : decode cX4_wakeFrom 55 = .ok (.iload_n 2, 1) := by decide +kernel
theorem dX4_wakeFrom_56 : decode cX4_wakeFrom 56 = .ok (.invokestatic 60, 3) := by decide +kernel
theorem dX4_wakeFrom_59 : decode cX4_wakeFrom 59 = .ok (.putfield 41, 3) := by decide +kernel
theorem dX4_wakeFrom_62 : decode cX4_wakeFrom 62 = .ok (.iinc 3 1, 3) := by decide +kernel
theorem dX4_wakeFrom_65 : decode cX4_wakeFrom 65 = .ok (.goto (-41), 3) := by decide +kernel
theorem dX4_wakeFrom_68 : decode cX4_wakeFrom 68 = .ok (.return_, 1) := by decide +kernel
set_option maxRecDepth 20000 in
theorem ggX4_takeFromQueue_Jx4a65c_size_8abf5 : GoodIn wsX4_takeFromQueue wsJx4a65c_size_8abf5 := goodIn_r _ [6, 7, 44, 45, 46] (by decide +kernel) (by decide +kernel)
set_option maxRecDepth 20000 in
theorem gX4_takeFromQueue_Jx4a65c_size_8abf5 : GoodIn wsX4_takeFromQueue (wsV RX4 31 RJx4a65c yJx4a65c_size_8abf5 wsJx4a65c_size_8abf5) := goodIn_app (goodIn_of _ (by decide +kernel)) ggX4_takeFromQueue_Jx4a65c_size_8abf5
set_option maxRecDepth 20000 in
theorem ggX4_takeFromQueue_Jx4a65c_get_915e3 : GoodIn wsX4_takeFromQueue wsJx4a65c_get_915e3 := goodIn_r _ [11, 7, 12, 13, 14, 15, 16, 17, 18, 19, 20, 21, 22, 5, 23, 24, 44, 45, 46] (by decide +kernel) (by decide +kernel)
set_option maxRecDepth 20000 in
theorem gX4_takeFromQueue_Jx4a65c_get_915e3 : GoodIn wsX4_takeFromQueue (wsV RX4 35 RJx4a65c yJx4a65c_get_915e3 wsJx4a65c_get_915e3) := goodIn_app (goodIn_of _ (by decide +kernel)) ggX4_takeFromQueue_Jx4a65c_get_915e3
set_option maxRecDepth 20000 in
theorem ggX4_takeFromQueue_Jx4a65c_remove_915e3 : GoodIn wsX4_takeFromQueue wsJx4a65c_remove_915e3 := goodIn_r _ [28, 7, 24, 12, 13, 14, 15, 16, 17, 18, 19, 29, 30, 31, 5, 32, 33, 34, 35, 36, 37, 38, 44, 45, 46] (by decide +kernel) (by decide +kernel)
set_option maxRecDepth 20000 in
theorem gX4_takeFromQueue_Jx4a65c_remove_915e3 : GoodIn wsX4_takeFromQueue (wsV RX4 66 RJx4a65c yJx4a65c_remove_915e3 wsJx4a65c_remove_915e3) := goodIn_app (goodIn_of _ (by decide +kernel)) ggX4_takeFromQueue_Jx4a65c_remove_915e3
theorem dX4_takeFromQueue_0 : decode cX4_takeFromQueue 0 = .ok (.iconst 0, 1) := by decide +kernel
theorem dX4_takeFromQueue_1 : decode cX4_takeFromQueue 1 = .ok (.istore_n 2, 1) := by decide +kernel
theorem dX4_takeFromQueue_2 : decode cX4_takeFromQueue 2 = .ok (.iload_n 2, 1) := by decide +kernel
theorem dX4_takeFromQueue_3 : decode cX4_takeFromQueue 3 = .ok (.aload_n 0, 1) := by decide +kernel
theorem dX4_takeFromQueue_4 : decode cX4_takeFromQueue 4 = .ok (.getfield 27, 3) := by decide +kernel
theorem dX4_takeFromQueue_7 : decode cX4_takeFromQueue 7 = .ok (.invokevirtual 31, 3) := by decide +kernel
theorem dX4_takeFromQueue_10 : decode cX4_takeFromQueue 10 = .ok (.if_icmp .ge 31, 3) := by decide +kernel
theorem dX4_takeFromQueue_13 : decode cX4_takeFromQueue 13 = .ok (.aload_n 0, 1) := by decide +kernel
theorem dX4_takeFromQueue_14 : decode cX4_takeFromQueue 14 = .ok (.getfield 27, 3) := by decide +kernel
theorem dX4_takeFromQueue_17 : decode cX4_takeFromQueue 17 = .ok (.iload_n 2, 1) := by decide +kernel
theorem dX4_takeFromQueue_18 : decode cX4_takeFromQueue 18 = .ok (.invokevirtual 35, 3) := by decide +kernel
theorem dX4_takeFromQueue_21 : decode cX4_takeFromQueue 21 = .ok (.aload_n 1, 1) := by decide +kernel
theorem dX4_takeFromQueue_22 : decode cX4_takeFromQueue 22 = .ok (.if_acmp .ne 13, 3) := by decide +kernel
theorem dX4_takeFromQueue_25 : decode cX4_takeFromQueue 25 = .ok (.aload_n 0, 1) := by decide +kernel
theorem dX4_takeFromQueue_26 : decode cX4_takeFromQueue 26 = .ok (.getfield 27, 3) := by decide +kernel
theorem dX4_takeFromQueue_29 : decode cX4_takeFromQueue 29 = .ok (.iload_n 2, 1) := by decide +kernel
theorem dX4_takeFromQueue_30 : decode cX4_takeFromQueue 30 = .ok (.invokevirtual 66, 3) := by decide +kernel
theorem dX4_takeFromQueue_33 : decode cX4_takeFromQueue 33 = .ok (.pop, 1) := by decide +kernel
theorem dX4_takeFromQueue_34 : decode cX4_takeFromQueue 34 = .ok (.return_, 1) := by decide +kernel
theorem dX4_takeFromQueue_35 : decode cX4_takeFromQueue 35 = .ok (.iinc 2 1, 3) := by decide +kernel
theorem dX4_takeFromQueue_38 : decode cX4_takeFromQueue 38 = .ok (.goto (-36), 3) := by decide +kernel
theorem dX4_takeFromQueue_41 : decode cX4_takeFromQueue 41 = .ok (.return_, 1) := by decide +kernel
set_option maxRecDepth 20000 in
theorem ggX5_init_X0_init : GoodIn wsX5_init wsX0_init := goodIn_r _ [17, 18, 2, 3, 19, 20, 21, 22, 23, 24, 25, 26, 13, 14, 27, 28, 29, 30, 31, 32, 33, 34, 35, 36, 37, 38, 39, 40, 41, 42, 58, 59, 60, 61, 62, 63, 64, 70, 71, 72] (by decide +kernel) (by decide +kernel)
set_option maxRecDepth 20000 in
theorem gX5_init_X0_init_n15 : GoodIn wsX5_init (wsX0_init) := ggX5_init_X0_init
set_option maxRecDepth 20000 in
theorem ggX5_init_X4_init : GoodIn wsX5_init wsX4_init := goodIn_r _ [44, 45, 2, 3, 46, 47, 48, 49, 50, 13, 14, 51, 52, 29, 30, 31, 32, 33, 34, 35, 36, 37, 38, 39, 40, 41, 42, 65, 66, 67, 68, 69, 70, 71, 72] (by decide +kernel) (by decide +kernel)
set_option maxRecDepth 20000 in
theorem gX5_init_X4_init_n22 : GoodIn wsX5_init (wsX4_init) := ggX5_init_X4_init
set_option maxRecDepth 20000 in
theorem ggX5_init_Jx4a65c_init_da8c8 : GoodIn wsX5_init wsJx4a65c_init_da8c8 := goodIn_r _ [30, 31, 32, 33, 34, 35, 36, 37, 38, 39, 40, 41, 42, 2, 3, 70, 71, 72] (by decide +kernel) (by decide +kernel)
set_option maxRecDepth 20000 in
theorem gX5_init_Jx4a65c_init_da8c8 : GoodIn wsX5_init (wsJx4a65c_init_da8c8) := ggX5_init_Jx4a65c_init_da8c8
theorem dX5_init_0 : decode cX5_init 0 = .ok (.aload_n 0, 1) := by decide +kernel
theorem dX5_init_1 : decode cX5_init 1 = .ok (.invokespecial 1, 3) := by decide +kernel
theorem dX5_init_4 : decode cX5_init 4 = .ok (.aload_n 0, 1) := by decide +kernel
theorem dX5_init_5 : decode cX5_init 5 = .ok (.iconst 4, 1) := by decide +kernel
theorem dX5_init_6 : decode cX5_init 6 = .ok (.anewarray 9, 3) := by decide +kernel
theorem dX5_init_9 : decode cX5_init 9 = .ok (.putfield 11, 3) := by decide +kernel
theorem dX5_init_12 : decode cX5_init 12 = .ok (.iconst 0, 1) := by decide +kernel
theorem dX5_init_13 : decode cX5_init 13 = .ok (.istore_n 1, 1) := by decide +kernel
theorem dX5_init_14 : decode cX5_init 14 = .ok (.iload_n 1, 1) := by decide +kernel
theorem dX5_init_15 : decode cX5_init 15 = .ok (.aload_n 0, 1) := by decide +kernel
theorem dX5_init_16 : decode cX5_init 16 = .ok (.getfield 11, 3) := by decide +kernel
theorem dX5_init_19 : decode cX5_init 19 = .ok (.arraylength, 1) := by decide +kernel
theorem dX5_init_20 : decode cX5_init 20 = .ok (.if_icmp .ge 22, 3) := by decide +kernel
theorem dX5_init_23 : decode cX5_init 23 = .ok (.aload_n 0, 1) := by decide +kernel
theorem dX5_init_24 : decode cX5_init 24 = .ok (.getfield 11, 3) := by decide +kernel
theorem dX5_init_27 : decode cX5_init 27 = .ok (.iload_n 1, 1) := by decide +kernel
theorem dX5_init_28 : decode cX5_init 28 = .ok (.new 9, 3) := by decide +kernel
theorem dX5_init_31 : decode cX5_init 31 = .ok (.dup, 1) := by decide +kernel
theorem dX5_init_32 : decode cX5_init 32 = .ok (.invokespecial 15, 3) := by decide +kernel
theorem dX5_init_35 : decode cX5_init 35 = .ok (.aastore, 1) := by decide +kernel
theorem dX5_init_36 : decode cX5_init 36 = .ok (.iinc 1 1, 3) := by decide +kernel
theorem dX5_init_39 : decode cX5_init 39 = .ok (.goto (-25), 3) := by decide +kernel
theorem dX5_init_42 : decode cX5_init 42 = .ok (.aload_n 0, 1) := by decide +kernel
theorem dX5_init_43 : decode cX5_init 43 = .ok (.bipush 6, 2) := by decide +kernel
theorem dX5_init_45 : decode cX5_init 45 = .ok (.anewarray 16, 3) := by decide +kernel
theorem dX5_init_48 : decode cX5_init 48 = .ok (.putfield 18, 3) := by decide +kernel
theorem dX5_init_51 : decode cX5_init 51 = .ok (.iconst 0, 1) := by decide +kernel
theorem dX5_init_52 : decode cX5_init 52 = .ok (.istore_n 1, 1) := by decide +kernel
theorem dX5_init_53 : decode cX5_init 53 = .ok (.iload_n 1, 1) := by decide +kernel
theorem dX5_init_54 : decode cX5_init 54 = .ok (.aload_n 0, 1) := by decide +kernel
theorem dX5_init_55 : decode cX5_init 55 = .ok (.getfield 18, 3) := by decide +kernel
theorem dX5_init_58 : decode cX5_init 58 = .ok (.arraylength, 1) := by decide +kernel
theorem dX5_init_59 : decode cX5_init 59 = .ok (.if_icmp .ge 22, 3) := by decide +kernel
theorem dX5_init_62 : decode cX5_init 62 = .ok (.aload_n 0, 1) := by decide +kernel
theorem dX5_init_63 : decode cX5_init 63 = .ok (.getfield 18, 3) := by decide +kernel
theorem dX5_init_66 : decode cX5_init 66 = .ok (.iload_n 1, 1) := by decide +kernel
theorem dX5_init_67 : decode cX5_init 67 = .ok (.new 16, 3) := by decide +kernel
theorem dX5_init_70 : decode cX5_init 70 = .ok (.dup, 1) := by decide +kernel
theorem dX5_init_71 : decode cX5_init 71 = .ok (.invokespecial 22, 3) := by decide +kernel
theorem dX5_init_74 : decode cX5_init 74 = .ok (.aastore, 1) := by decide +kernel
theorem dX5_init_75 : decode cX5_init 75 = .ok (.iinc 1 1, 3) := by decide +kernel
theorem dX5_init_78 : decode cX5_init 78 = .ok (.goto (-25), 3) := by decide +kernel
theorem dX5_init_81 : decode cX5_init 81 = .ok (.aload_n 0, 1) := by decide +kernel
theorem dX5_init_82 : decode cX5_init 82 = .ok (.new 23, 3) := by decide +kernel
theorem dX5_init_85 : decode cX5_init 85 = .ok (.dup, 1) := by decide +kernel
theorem dX5_init_86 : decode cX5_init 86 = .ok (.invokespecial 25, 3) := by decide +kernel
theorem dX5_init_89 : decode cX5_init 89 = .ok (.putfield 26, 3) := by decide +kernel
theorem dX5_init_92 : decode cX5_init 92 = .ok (.return_, 1) := by decide +kernel
set_option maxRecDepth 20000 in
theorem ggX5_draft_X5_accountAt : GoodIn wsX5_draft wsX5_accountAt := goodIn_ca (goodIn_r _ [6, 7, 8, 9, 50, 51, 52, 53] (by decide +kernel) (by decide +kernel)) (goodIn_sub (fun _ h => List.mem_cons_of_mem _ (List.mem_append_left _ (List.mem_append_right _ h))) (by decide +kernel))
set_option maxRecDepth 20000 in
theorem gX5_draft_X5_accountAt : GoodIn wsX5_draft (wsV RX5 30 RX5 yX5_accountAt wsX5_accountAt) := goodIn_app (goodIn_of _ (by decide +kernel)) ggX5_draft_X5_accountAt
set_option maxRecDepth 20000 in
theorem ggX5_draft_X5_requireInRange : GoodIn wsX5_draft wsX5_requireInRange := goodIn_ca (goodIn_r _ [12, 13, 14] (by decide +kernel) (by decide +kernel)) (goodIn_sub (fun _ h => List.mem_cons_of_mem _ (List.mem_append_right _ h)) (by decide +kernel))
set_option maxRecDepth 20000 in
theorem gX5_draft_X5_requireInRange : GoodIn wsX5_draft (va_wsS RX5 34 yX5_requireInRange wsX5_requireInRange) := goodIn_app (goodIn_of _ (by decide +kernel)) ggX5_draft_X5_requireInRange
set_option maxRecDepth 20000 in
theorem ggX5_draft_X5_cut : GoodIn wsX5_draft wsX5_cut := goodIn_r _ [17, 18, 19, 20, 5, 21, 22, 23, 24, 25, 26, 27, 28, 29, 30, 31, 32, 33, 34, 35, 36, 37, 38, 39, 40, 41, 42] (by decide +kernel) (by decide +kernel)
set_option maxRecDepth 20000 in
theorem gX5_draft_X5_cut : GoodIn wsX5_draft (va_wsS RX5 38 yX5_cut wsX5_cut) := goodIn_app (goodIn_of _ (by decide +kernel)) ggX5_draft_X5_cut
theorem dX5_draft_0 : decode cX5_draft 0 = .ok (.aload_n 0, 1) := by decide +kernel
theorem dX5_draft_1 : decode cX5_draft 1 = .ok (.iload_n 1, 1) := by decide +kernel
theorem dX5_draft_2 : decode cX5_draft 2 = .ok (.invokevirtual 30, 3) := by decide +kernel
theorem dX5_draft_5 : decode cX5_draft 5 = .ok (.astore 5, 2) := by decide +kernel
theorem dX5_draft_7 : decode cX5_draft 7 = .ok (.iload_n 2, 1) := by decide +kernel
theorem dX5_draft_8 : decode cX5_draft 8 = .ok (.iconst 1, 1) := by decide +kernel
theorem dX5_draft_9 : decode cX5_draft 9 = .ok (.sipush 500, 3) := by decide +kernel
theorem dX5_draft_12 : decode cX5_draft 12 = .ok (.invokestatic 34, 3) := by decide +kernel
theorem dX5_draft_15 : decode cX5_draft 15 = .ok (.iload_n 3, 1) := by decide +kernel
theorem dX5_draft_16 : decode cX5_draft 16 = .ok (.iconst 0, 1) := by decide +kernel
theorem dX5_draft_17 : decode cX5_draft 17 = .ok (.bipush 50, 2) := by decide +kernel
theorem dX5_draft_19 : decode cX5_draft 19 = .ok (.invokestatic 34, 3) := by decide +kernel
theorem dX5_draft_22 : decode cX5_draft 22 = .ok (.aload 5, 2) := by decide +kernel
theorem dX5_draft_24 : decode cX5_draft 24 = .ok (.iload 4, 2) := by decide +kernel
theorem dX5_draft_26 : decode cX5_draft 26 = .ok (.ifCond .eq 15, 3) := by decide +kernel
theorem dX5_draft_29 : decode cX5_draft 29 = .ok (.iload_n 2, 1) := by decide +kernel
theorem dX5_draft_30 : decode cX5_draft 30 = .ok (.iconst 0, 1) := by decide +kernel
theorem dX5_draft_31 : decode cX5_draft 31 = .ok (.bipush 70, 2) := by decide +kernel
theorem dX5_draft_33 : decode cX5_draft 33 = .ok (.bipush 67, 2) := by decide +kernel
theorem dX5_draft_35 : decode cX5_draft 35 = .ok (.invokestatic 38, 3) := by decide +kernel
theorem dX5_draft_38 : decode cX5_draft 38 = .ok (.goto 14, 3) := by decide +kernel
theorem dX5_draft_41 : decode cX5_draft 41 = .ok (.iload_n 2, 1) := by decide +kernel
theorem dX5_draft_42 : decode cX5_draft 42 = .ok (.iload_n 3, 1) := by decide +kernel
theorem dX5_draft_43 : decode cX5_draft 43 = .ok (.sipush 160, 3) := by decide +kernel
theorem dX5_draft_46 : decode cX5_draft 46 = .ok (.sipush 153, 3) := by decide +kernel
theorem dX5_draft_49 : decode cX5_draft 49 = .ok (.invokestatic 38, 3) := by decide +kernel
theorem dX5_draft_52 : decode cX5_draft 52 = .ok (.putfield 42, 3) := by decide +kernel
theorem dX5_draft_55 : decode cX5_draft 55 = .ok (.aload 5, 2) := by decide +kernel
theorem dX5_draft_57 : decode cX5_draft 57 = .ok (.getfield 42, 3) := by decide +kernel
theorem dX5_draft_60 : decode cX5_draft 60 = .ok (.arraylength, 1) := by decide +kernel
theorem dX5_draft_61 : decode cX5_draft 61 = .ok (.ireturn, 1) := by decide +kernel
set_option maxRecDepth 20000 in
theorem ggX5_setOptions_X5_accountAt : GoodIn wsX5_setOptions wsX5_accountAt := goodIn_ca (goodIn_r _ [8, 9, 10, 11, 24, 25, 26, 27] (by decide +kernel) (by decide +kernel)) (goodIn_sub (fun _ h => List.mem_cons_of_mem _ (List.mem_append_left _ (List.mem_append_right _ h))) (by decide +kernel))
set_option maxRecDepth 20000 in
theorem gX5_setOptions_X5_accountAt : GoodIn wsX5_setOptions (wsV RX5 30 RX5 yX5_accountAt wsX5_accountAt) := goodIn_app (goodIn_of _ (by decide +kernel)) ggX5_setOptions_X5_accountAt
set_option maxRecDepth 20000 in
theorem ggX5_setOptions_X5_requireInRange : GoodIn wsX5_setOptions wsX5_requireInRange := goodIn_ca (goodIn_r _ [14, 15, 16] (by decide +kernel) (by decide +kernel)) (goodIn_sub (fun _ h => List.mem_cons_of_mem _ (List.mem_append_right _ h)) (by decide +kernel))
set_option maxRecDepth 20000 in
theorem gX5_setOptions_X5_requireInRange : GoodIn wsX5_setOptions (va_wsS RX5 34 yX5_requireInRange wsX5_requireInRange) := goodIn_app (goodIn_of _ (by decide +kernel)) ggX5_setOptions_X5_requireInRange
theorem dX5_setOptions_0 : decode cX5_setOptions 0 = .ok (.aload_n 0, 1) := by decide +kernel
theorem dX5_setOptions_1 : decode cX5_setOptions 1 = .ok (.iload_n 1, 1) := by decide +kernel
theorem dX5_setOptions_2 : decode cX5_setOptions 2 = .ok (.invokevirtual 30, 3) := by decide +kernel
theorem dX5_setOptions_5 : decode cX5_setOptions 5 = .ok (.astore 5, 2) := by decide +kernel
theorem dX5_setOptions_7 : decode cX5_setOptions 7 = .ok (.iload_n 2, 1) := by decide +kernel
theorem dX5_setOptions_8 : decode cX5_setOptions 8 = .ok (.iconst 0, 1) := by decide +kernel
theorem dX5_setOptions_9 : decode cX5_setOptions 9 = .ok (.bipush 7, 2) := by decide +kernel
theorem dX5_setOptions_11 : decode cX5_setOptions 11 = .ok (.invokestatic 34, 3) := by decide +kernel
theorem dX5_setOptions_14 : decode cX5_setOptions 14 = .ok (.iload_n 3, 1) := by decide +kernel
theorem dX5_setOptions_15 : decode cX5_setOptions 15 = .ok (.iconst (-1), 1) := by decide +kernel
theorem dX5_setOptions_16 : decode cX5_setOptions 16 = .ok (.if_icmp .eq 10, 3) := by decide +kernel
theorem dX5_setOptions_19 : decode cX5_setOptions 19 = .ok (.iload_n 3, 1) := by decide +kernel
theorem dX5_setOptions_20 : decode cX5_setOptions 20 = .ok (.iconst 0, 1) := by decide +kernel
theorem dX5_setOptions_21 : decode cX5_setOptions 21 = .ok (.bipush 99, 2) := by decide +kernel
theorem dX5_setOptions_23 : decode cX5_setOptions 23 = .ok (.invokestatic 34, 3) := by decide +kernel
theorem dX5_setOptions_26 : decode cX5_setOptions 26 = .ok (.aload 5, 2) := by decide +kernel
theorem dX5_setOptions_28 : decode cX5_setOptions 28 = .ok (.iload_n 2, 1) := by decide +kernel
theorem dX5_setOptions_29 : decode cX5_setOptions 29 = .ok (.putfield 46, 3) := by decide +kernel
theorem dX5_setOptions_32 : decode cX5_setOptions 32 = .ok (.aload 5, 2) := by decide +kernel
theorem dX5_setOptions_34 : decode cX5_setOptions 34 = .ok (.iload_n 3, 1) := by decide +kernel
theorem dX5_setOptions_35 : decode cX5_setOptions 35 = .ok (.putfield 50, 3) := by decide +kernel
theorem dX5_setOptions_38 : decode cX5_setOptions 38 = .ok (.aload 5, 2) := by decide +kernel
theorem dX5_setOptions_40 : decode cX5_setOptions 40 = .ok (.iload 4, 2) := by decide +kernel
theorem dX5_setOptions_42 : decode cX5_setOptions 42 = .ok (.putfield 53, 3) := by decide +kernel
theorem dX5_setOptions_45 : decode cX5_setOptions 45 = .ok (.return_, 1) := by decide +kernel
set_option maxRecDepth 20000 in
theorem ggX5_setRate_X5_accountAt : GoodIn wsX5_setRate wsX5_accountAt := goodIn_ca (goodIn_r _ [7, 8, 9, 10, 23, 24, 25, 26] (by decide +kernel) (by decide +kernel)) (goodIn_sub (fun _ h => List.mem_cons_of_mem _ (List.mem_append_left _ (List.mem_append_right _ h))) (by decide +kernel))
set_option maxRecDepth 20000 in
theorem gX5_setRate_X5_accountAt : GoodIn wsX5_setRate (wsV RX5 30 RX5 yX5_accountAt wsX5_accountAt) := goodIn_app (goodIn_of _ (by decide +kernel)) ggX5_setRate_X5_accountAt
set_option maxRecDepth 20000 in
theorem ggX5_setRate_X5_requireInRange : GoodIn wsX5_setRate wsX5_requireInRange := goodIn_ca (goodIn_r _ [13, 14, 15] (by decide +kernel) (by decide +kernel)) (goodIn_sub (fun _ h => List.mem_cons_of_mem _ (List.mem_append_right _ h)) (by decide +kernel))
set_option maxRecDepth 20000 in
theorem gX5_setRate_X5_requireInRange : GoodIn wsX5_setRate (va_wsS RX5 34 yX5_requireInRange wsX5_requireInRange) := goodIn_app (goodIn_of _ (by decide +kernel)) ggX5_setRate_X5_requireInRange
theorem dX5_setRate_0 : decode cX5_setRate 0 = .ok (.aload_n 0, 1) := by decide +kernel
theorem dX5_setRate_1 : decode cX5_setRate 1 = .ok (.iload_n 1, 1) := by decide +kernel
theorem dX5_setRate_2 : decode cX5_setRate 2 = .ok (.invokevirtual 30, 3) := by decide +kernel
theorem dX5_setRate_5 : decode cX5_setRate 5 = .ok (.astore 4, 2) := by decide +kernel
theorem dX5_setRate_7 : decode cX5_setRate 7 = .ok (.iload_n 2, 1) := by decide +kernel
theorem dX5_setRate_8 : decode cX5_setRate 8 = .ok (.iconst 0, 1) := by decide +kernel
theorem dX5_setRate_9 : decode cX5_setRate 9 = .ok (.bipush 40, 2) := by decide +kernel
theorem dX5_setRate_11 : decode cX5_setRate 11 = .ok (.invokestatic 34, 3) := by decide +kernel
theorem dX5_setRate_14 : decode cX5_setRate 14 = .ok (.iload_n 3, 1) := by decide +kernel
theorem dX5_setRate_15 : decode cX5_setRate 15 = .ok (.iconst 1, 1) := by decide +kernel
theorem dX5_setRate_16 : decode cX5_setRate 16 = .ok (.sipush 200, 3) := by decide +kernel
theorem dX5_setRate_19 : decode cX5_setRate 19 = .ok (.invokestatic 34, 3) := by decide +kernel
theorem dX5_setRate_22 : decode cX5_setRate 22 = .ok (.aload 4, 2) := by decide +kernel
theorem dX5_setRate_24 : decode cX5_setRate 24 = .ok (.getfield 57, 3) := by decide +kernel
theorem dX5_setRate_27 : decode cX5_setRate 27 = .ok (.istore 5, 2) := by decide +kernel
theorem dX5_setRate_29 : decode cX5_setRate 29 = .ok (.aload 4, 2) := by decide +kernel
theorem dX5_setRate_31 : decode cX5_setRate 31 = .ok (.iload_n 2, 1) := by decide +kernel
theorem dX5_setRate_32 : decode cX5_setRate 32 = .ok (.putfield 57, 3) := by decide +kernel
theorem dX5_setRate_35 : decode cX5_setRate 35 = .ok (.aload 4, 2) := by decide +kernel
theorem dX5_setRate_37 : decode cX5_setRate 37 = .ok (.iload_n 3, 1) := by decide +kernel
theorem dX5_setRate_38 : decode cX5_setRate 38 = .ok (.putfield 60, 3) := by decide +kernel
theorem dX5_setRate_41 : decode cX5_setRate 41 = .ok (.iload 5, 2) := by decide +kernel
theorem dX5_setRate_43 : decode cX5_setRate 43 = .ok (.ireturn, 1) := by decide +kernel
set_option maxRecDepth 20000 in
theorem ggX5_submit_X5_accountAt : GoodIn wsX5_submit wsX5_accountAt := goodIn_ca (goodIn_r _ [14, 15, 16, 17, 211, 212, 213, 214] (by decide +kernel) (by decide +kernel)) (goodIn_sub (fun _ h => List.mem_cons_of_mem _ (List.mem_append_left _ (List.mem_append_right _ h))) (by decide +kernel))
set_option maxRecDepth 20000 in
theorem gX5_submit_X5_accountAt : GoodIn wsX5_submit (wsV RX5 30 RX5 yX5_accountAt wsX5_accountAt) := goodIn_app (goodIn_of _ (by decide +kernel)) ggX5_submit_X5_accountAt
set_option maxRecDepth 20000 in
theorem ggX5_submit_X5_recipientAt : GoodIn wsX5_submit wsX5_recipientAt := goodIn_ca (goodIn_r _ [21, 15, 16, 22, 211, 212, 213, 214] (by decide +kernel) (by decide +kernel)) (goodIn_sub (fun _ h => List.mem_cons_of_mem _ (List.mem_append_left _ (List.mem_append_right _ h))) (by decide +kernel))
set_option maxRecDepth 20000 in
theorem gX5_submit_X5_recipientAt : GoodIn wsX5_submit (wsV RX5 63 RX5 yX5_recipientAt wsX5_recipientAt) := goodIn_app (goodIn_of _ (by decide +kernel)) ggX5_submit_X5_recipientAt
set_option maxRecDepth 20000 in
theorem ggX5_submit_X5_requireInRange : GoodIn wsX5_submit wsX5_requireInRange := goodIn_ca (goodIn_r _ [25, 26, 27] (by decide +kernel) (by decide +kernel)) (goodIn_sub (fun _ h => List.mem_cons_of_mem _ (List.mem_append_right _ h)) (by decide +kernel))
set_option maxRecDepth 20000 in
theorem gX5_submit_X5_requireInRange : GoodIn wsX5_submit (va_wsS RX5 34 yX5_requireInRange wsX5_requireInRange) := goodIn_app (goodIn_of _ (by decide +kernel)) ggX5_submit_X5_requireInRange
set_option maxRecDepth 20000 in
theorem ggX5_submit_X5_knownAgain : GoodIn wsX5_submit wsX5_knownAgain := goodIn_r _ [31, 32, 4, 33, 34, 8, 35, 36, 37, 38, 39, 40, 41, 42, 43, 44, 45, 46, 47, 48, 49, 50, 51, 52, 53, 54, 55, 56, 57, 58, 59, 60, 61, 7, 62, 63, 64, 220, 221, 222, 223, 224, 225, 226, 211, 212, 213, 214, 195, 196, 197, 198, 199, 200, 201, 202, 203, 204, 205, 206, 207, 208, 209, 210, 227, 228, 229] (by decide +kernel) (by decide +kernel)
set_option maxRecDepth 20000 in
theorem gX5_submit_X5_knownAgain : GoodIn wsX5_submit (wsV RX5 67 RX5 yX5_knownAgain wsX5_knownAgain) := goodIn_app (goodIn_of _ (by decide +kernel)) ggX5_submit_X5_knownAgain
set_option maxRecDepth 20000 in
theorem ggX5_submit_X5_isThrottled : GoodIn wsX5_submit wsX5_isThrottled := goodIn_r _ [68, 4, 33, 69, 8, 35, 70, 71, 36, 37, 38, 39, 40, 41, 42, 43, 44, 45, 46, 47, 48, 49, 50, 51, 52, 53, 54, 55, 56, 57, 58, 211, 212, 213, 214, 195, 196, 197, 198, 199, 200, 201, 202, 203, 204, 205, 206, 207, 208, 209, 210, 220, 221, 222, 223, 224, 225, 226, 227, 228, 229] (by decide +kernel) (by decide +kernel)
set_option maxRecDepth 20000 in
theorem gX5_submit_X5_isThrottled : GoodIn wsX5_submit (wsV RX5 76 RX5 yX5_isThrottled wsX5_isThrottled) := goodIn_app (goodIn_of _ (by decide +kernel)) ggX5_submit_X5_isThrottled
set_option maxRecDepth 20000 in
theorem ggX5_submit_Jx4a65c_size_8abf5 : GoodIn wsX5_submit wsJx4a65c_size_8abf5 := goodIn_r _ [40, 41, 227, 228, 229] (by decide +kernel) (by decide +kernel)
set_option maxRecDepth 20000 in
theorem gX5_submit_Jx4a65c_size_8abf5 : GoodIn wsX5_submit (wsV RX5 80 RJx4a65c yJx4a65c_size_8abf5 wsJx4a65c_size_8abf5) := goodIn_app (goodIn_of _ (by decide +kernel)) ggX5_submit_Jx4a65c_size_8abf5
set_option maxRecDepth 20000 in
theorem ggX5_submit_X3_init : GoodIn wsX5_submit wsX3_init := goodIn_r _ [74, 75, 76, 77, 78, 79, 80, 81, 63, 64, 82, 83, 84, 85, 86, 87, 88, 89, 90, 91, 92, 93, 94, 95, 96, 97, 98, 99, 100, 101, 102, 103, 104, 105, 106, 107, 108, 109, 195, 196, 197, 198, 199, 200, 201, 202, 203, 204, 205, 206, 207, 208, 209, 210, 220, 221, 222, 223, 224, 225, 226, 230, 231] (by decide +kernel) (by decide +kernel)
set_option maxRecDepth 20000 in
theorem gX5_submit_X3_init : GoodIn wsX5_submit (wsX3_init) := ggX5_submit_X3_init
set_option maxRecDepth 20000 in
theorem ggX5_submit_Jx4a65c_add_9ea2d : GoodIn wsX5_submit wsJx4a65c_add_9ea2d := goodIn_r _ [113, 114, 115, 58, 41, 116, 117, 118, 39, 119, 120, 121, 122, 123, 124, 125, 126, 127, 128, 129, 130, 131, 132, 133, 134, 135, 136, 137, 138, 139, 140, 141, 142, 143, 144, 145, 146, 147, 148, 149, 150, 151, 152, 153, 154, 155, 156, 157, 158, 159, 160, 161, 162, 227, 228, 229] (by decide +kernel) (by decide +kernel)
set_option maxRecDepth 20000 in
theorem gX5_submit_Jx4a65c_add_9ea2d : GoodIn wsX5_submit (wsV RX5 97 RJx4a65c yJx4a65c_add_9ea2d wsJx4a65c_add_9ea2d) := goodIn_app (goodIn_of _ (by decide +kernel)) ggX5_submit_Jx4a65c_add_9ea2d
set_option maxRecDepth 20000 in
theorem ggX5_submit_X5_deleteReplacedBy : GoodIn wsX5_submit wsX5_deleteReplacedBy := goodIn_r _ [166, 167, 3, 4, 33, 168, 169, 69, 170, 36, 37, 38, 39, 40, 41, 42, 43, 44, 45, 46, 47, 48, 49, 50, 51, 52, 53, 54, 55, 56, 57, 58, 59, 60, 61, 7, 62, 63, 64, 171, 172, 173, 174, 78, 99, 91, 175, 176, 107, 108, 98, 109, 104, 105, 177, 178, 179, 180, 181, 182, 183, 184, 185, 186, 187, 188, 189, 190, 191, 192, 114, 115, 193, 160, 161, 162, 194, 111, 112, 113, 116, 117, 118, 119, 120, 121, 122, 123, 124, 125, 126, 127, 128, 129, 130, 131, 132, 133, 134, 135, 136, 137, 138, 139, 140, 141, 142, 143, 144, 145, 146, 147, 148, 149, 150, 151, 152, 153, 154, 155, 156, 157, 158, 159, 195, 196, 197, 198, 199, 200, 201, 202, 203, 204, 205, 206, 207, 208, 209, 210, 211, 212, 213, 214, 227, 228, 229, 220, 221, 222, 223, 224, 225, 226, 230, 231, 215, 216, 217, 218, 219] (by decide +kernel) (by decide +kernel)
set_option maxRecDepth 20000 in
theorem gX5_submit_X5_deleteReplacedBy : GoodIn wsX5_submit (wsV RX5 104 RX5 yX5_deleteReplacedBy wsX5_deleteReplacedBy) := goodIn_app (goodIn_of _ (by decide +kernel)) ggX5_submit_X5_deleteReplacedBy
theorem dX5_submit_0 : decode cX5_submit 0 = .ok (.aload_n 0, 1) := by decide +kernel
theorem dX5_submit_1 : decode cX5_submit 1 = .ok (.iload_n 1, 1) := by decide +kernel
theorem dX5_submit_2 : decode cX5_submit 2 = .ok (.invokevirtual 30, 3) := by decide +kernel
theorem dX5_submit_5 : decode cX5_submit 5 = .ok (.astore 5, 2) := by decide +kernel
theorem dX5_submit_7 : decode cX5_submit 7 = .ok (.aload_n 0, 1) := by decide +kernel
theorem dX5_submit_8 : decode cX5_submit 8 = .ok (.iload_n 2, 1) := by decide +kernel
theorem dX5_submit_9 : decode cX5_submit 9 = .ok (.invokevirtual 63, 3) := by decide +kernel
theorem dX5_submit_12 : decode cX5_submit 12 = .ok (.astore 6, 2) := by decide +kernel
theorem dX5_submit_14 : decode cX5_submit 14 = .ok (.iload_n 3, 1) := by decide +kernel
theorem dX5_submit_15 : decode cX5_submit 15 = .ok (.iconst 0, 1) := by decide +kernel
theorem dX5_submit_16 : decode cX5_submit 16 = .ok (.iconst 3, 1) := by decide +kernel
theorem dX5_submit_17 : decode cX5_submit 17 = .ok (.invokestatic 34, 3) := by decide +kernel
theorem dX5_submit_20 : decode cX5_submit 20 = .ok (.iload 4, 2) := by decide +kernel
theorem dX5_submit_22 : decode cX5_submit 22 = .ok (.iconst 1, 1) := by decide +kernel
theorem dX5_submit_23 : decode cX5_submit 23 = .ok (.sipush 500, 3) := by decide +kernel
theorem dX5_submit_26 : decode cX5_submit 26 = .ok (.invokestatic 34, 3) := by decide +kernel
theorem dX5_submit_29 : decode cX5_submit 29 = .ok (.aload_n 0, 1) := by decide +kernel
theorem dX5_submit_30 : decode cX5_submit 30 = .ok (.aload 5, 2) := by decide +kernel
theorem dX5_submit_32 : decode cX5_submit 32 = .ok (.aload 6, 2) := by decide +kernel
theorem dX5_submit_34 : decode cX5_submit 34 = .ok (.invokevirtual 67, 3) := by decide +kernel
theorem dX5_submit_37 : decode cX5_submit 37 = .ok (.astore 7, 2) := by decide +kernel
theorem dX5_submit_39 : decode cX5_submit 39 = .ok (.aload 7, 2) := by decide +kernel
theorem dX5_submit_41 : decode cX5_submit 41 = .ok (.ifnull 9, 3) := by decide +kernel
theorem dX5_submit_44 : decode cX5_submit 44 = .ok (.aload 7, 2) := by decide +kernel
theorem dX5_submit_46 : decode cX5_submit 46 = .ok (.getfield 71, 3) := by decide +kernel
theorem dX5_submit_49 : decode cX5_submit 49 = .ok (.ireturn, 1) := by decide +kernel
theorem dX5_submit_50 : decode cX5_submit 50 = .ok (.aload_n 0, 1) := by decide +kernel
theorem dX5_submit_51 : decode cX5_submit 51 = .ok (.aload 5, 2) := by decide +kernel
theorem dX5_submit_53 : decode cX5_submit 53 = .ok (.invokevirtual 76, 3) := by decide +kernel
theorem dX5_submit_56 : decode cX5_submit 56 = .ok (.ifCond .ne 15, 3) := by decide +kernel
theorem dX5_submit_59 : decode cX5_submit 59 = .ok (.aload_n 0, 1) := by decide +kernel
theorem dX5_submit_60 : decode cX5_submit 60 = .ok (.getfield 26, 3) := by decide +kernel
theorem dX5_submit_63 : decode cX5_submit 63 = .ok (.invokevirtual 80, 3) := by decide +kernel
theorem dX5_submit_66 : decode cX5_submit 66 = .ok (.bipush 40, 2) := by decide +kernel
theorem dX5_submit_68 : decode cX5_submit 68 = .ok (.if_icmp .lt 13, 3) := by decide +kernel
theorem dX5_submit_71 : decode cX5_submit 71 = .ok (.new 84, 3) := by decide +kernel
theorem dX5_submit_74 : decode cX5_submit 74 = .ok (.dup, 1) := by decide +kernel
theorem dX5_submit_75 : decode cX5_submit 75 = .ok (.ldc 86, 2) := by decide +kernel
theorem dX5_submit_77 : decode cX5_submit 77 = .ok (.invokespecial 88, 3) := by decide +kernel
theorem dX5_submit_80 : decode cX5_submit 80 = .ok (.athrow, 1) := by decide +kernel
theorem dX5_submit_81 : decode cX5_submit 81 = .ok (.new 72, 3) := by decide +kernel
theorem dX5_submit_84 : decode cX5_submit 84 = .ok (.dup, 1) := by decide +kernel
theorem dX5_submit_85 : decode cX5_submit 85 = .ok (.aload_n 0, 1) := by decide +kernel
theorem dX5_submit_86 : decode cX5_submit 86 = .ok (.getfield 26, 3) := by decide +kernel
theorem dX5_submit_89 : decode cX5_submit 89 = .ok (.invokevirtual 80, 3) := by decide +kernel
theorem dX5_submit_92 : decode cX5_submit 92 = .ok (.aload 5, 2) := by decide +kernel
theorem dX5_submit_94 : decode cX5_submit 94 = .ok (.aload 6, 2) := by decide +kernel
theorem dX5_submit_96 : decode cX5_submit 96 = .ok (.iload_n 3, 1) := by decide +kernel
theorem dX5_submit_97 : decode cX5_submit 97 = .ok (.iload 4, 2) := by decide +kernel
theorem dX5_submit_99 : decode cX5_submit 99 = .ok (.aload_n 0, 1) := by decide +kernel
theorem dX5_submit_100 : decode cX5_submit 100 = .ok (.getfield 91, 3) := by decide +kernel
theorem dX5_submit_103 : decode cX5_submit 103 = .ok (.invokespecial 94, 3) := by decide +kernel
theorem dX5_submit_106 : decode cX5_submit 106 = .ok (.astore 8, 2) := by decide +kernel
theorem dX5_submit_108 : decode cX5_submit 108 = .ok (.aload_n 0, 1) := by decide +kernel
theorem dX5_submit_109 : decode cX5_submit 109 = .ok (.getfield 26, 3) := by decide +kernel
theorem dX5_submit_112 : decode cX5_submit 112 = .ok (.aload 8, 2) := by decide +kernel
theorem dX5_submit_114 : decode cX5_submit 114 = .ok (.invokevirtual 97, 3) := by decide +kernel
theorem dX5_submit_117 : decode cX5_submit 117 = .ok (.pop, 1) := by decide +kernel
theorem dX5_submit_118 : decode cX5_submit 118 = .ok (.aload 6, 2) := by decide +kernel
theorem dX5_submit_120 : decode cX5_submit 120 = .ok (.getfield 101, 3) := by decide +kernel
theorem dX5_submit_123 : decode cX5_submit 123 = .ok (.aload 8, 2) := by decide +kernel
theorem dX5_submit_125 : decode cX5_submit 125 = .ok (.invokevirtual 97, 3) := by decide +kernel
theorem dX5_submit_128 : decode cX5_submit 128 = .ok (.pop, 1) := by decide +kernel
theorem dX5_submit_129 : decode cX5_submit 129 = .ok (.aload_n 0, 1) := by decide +kernel
theorem dX5_submit_130 : decode cX5_submit 130 = .ok (.aload 8, 2) := by decide +kernel
theorem dX5_submit_132 : decode cX5_submit 132 = .ok (.invokevirtual 104, 3) := by decide +kernel
theorem dX5_submit_135 : decode cX5_submit 135 = .ok (.aload 8, 2) := by decide +kernel
theorem dX5_submit_137 : decode cX5_submit 137 = .ok (.getfield 71, 3) := by decide +kernel
theorem dX5_submit_140 : decode cX5_submit 140 = .ok (.ireturn, 1) := by decide +kernel
set_option maxRecDepth 20000 in
theorem ggX5_delete_X5_waitingMessageAt : GoodIn wsX5_delete wsX5_waitingMessageAt := goodIn_ca (goodIn_ca (goodIn_r _ [6, 7, 8, 9, 10, 11, 12, 5, 13, 14, 15, 16, 17, 18, 19, 20, 21, 22, 23, 24, 25, 26, 27, 28, 29, 30, 31, 32, 33, 34, 35, 36, 37, 38, 39, 40, 129, 130, 131, 132, 133, 134, 135, 136, 137, 138, 139, 140, 141, 142, 143, 144, 145, 146, 147, 148, 149, 150, 151] (by decide +kernel) (by decide +kernel)) (goodIn_sub (fun _ h => List.mem_cons_of_mem _ (List.mem_append_left _ (List.mem_append_right _ h))) (by decide +kernel))) (goodIn_sub (fun _ h => List.mem_cons_of_mem _ (List.mem_append_right _ h)) (by decide +kernel))
set_option maxRecDepth 20000 in
theorem gX5_delete_X5_waitingMessageAt : GoodIn wsX5_delete (wsV RX5 108 RX5 yX5_waitingMessageAt wsX5_waitingMessageAt) := goodIn_app (goodIn_of _ (by decide +kernel)) ggX5_delete_X5_waitingMessageAt
set_option maxRecDepth 20000 in
theorem ggX5_delete_X3_finish : GoodIn wsX5_delete wsX3_finish := goodIn_r _ [45, 46, 47, 48, 49, 50, 51, 52, 53, 54, 55, 56, 57, 58, 59, 60, 61, 62, 63, 64, 65, 19, 20, 21, 22, 23, 66, 25, 26, 27, 28, 29, 30, 31, 32, 33, 34, 35, 36, 37, 38, 39, 40, 67, 68, 69, 70, 71, 72, 73, 74, 75, 76, 77, 78, 79, 80, 81, 82, 83, 84, 85, 86, 87, 88, 89, 90, 91, 92, 93, 94, 95, 96, 97, 98, 99, 100, 101, 102, 103, 104, 105, 106, 107, 108, 109, 110, 111, 112, 113, 114, 115, 116, 117, 118, 119, 120, 121, 122, 123, 124, 125, 126, 127, 128, 129, 130, 131, 132, 133, 134, 135, 136, 137, 138, 139, 140, 141, 142, 143, 144, 152, 153, 154, 155, 156, 157, 158, 159, 160, 161, 162, 163, 164, 165, 149, 150, 151] (by decide +kernel) (by decide +kernel)
set_option maxRecDepth 20000 in
theorem gX5_delete_X3_finish : GoodIn wsX5_delete (wsV RX5 112 RX3 yX3_finish wsX3_finish) := goodIn_app (goodIn_of _ (by decide +kernel)) ggX5_delete_X3_finish
theorem dX5_delete_0 : decode cX5_delete 0 = .ok (.aload_n 0, 1) := by decide +kernel
theorem dX5_delete_1 : decode cX5_delete 1 = .ok (.iload_n 1, 1) := by decide +kernel
theorem dX5_delete_2 : decode cX5_delete 2 = .ok (.invokevirtual 108, 3) := by decide +kernel
theorem dX5_delete_5 : decode cX5_delete 5 = .ok (.astore_n 2, 1) := by decide +kernel
theorem dX5_delete_6 : decode cX5_delete 6 = .ok (.aload_n 2, 1) := by decide +kernel
theorem dX5_delete_7 : decode cX5_delete 7 = .ok (.iconst 3, 1) := by decide +kernel
theorem dX5_delete_8 : decode cX5_delete 8 = .ok (.invokevirtual 112, 3) := by decide +kernel
theorem dX5_delete_11 : decode cX5_delete 11 = .ok (.aload_n 2, 1) := by decide +kernel
theorem dX5_delete_12 : decode cX5_delete 12 = .ok (.getfield 116, 3) := by decide +kernel
theorem dX5_delete_15 : decode cX5_delete 15 = .ok (.ireturn, 1) := by decide +kernel
set_option maxRecDepth 20000 in
theorem ggX5_messages_Jx4a65c_size_8abf5 : GoodIn wsX5_messages wsJx4a65c_size_8abf5 := goodIn_r _ [6, 7, 12, 13, 14] (by decide +kernel) (by decide +kernel)
set_option maxRecDepth 20000 in
theorem gX5_messages_Jx4a65c_size_8abf5 : GoodIn wsX5_messages (wsV RX5 80 RJx4a65c yJx4a65c_size_8abf5 wsJx4a65c_size_8abf5) := goodIn_app (goodIn_of _ (by decide +kernel)) ggX5_messages_Jx4a65c_size_8abf5
theorem dX5_messages_0 : decode cX5_messages 0 = .ok (.aload_n 0, 1) := by decide +kernel
theorem dX5_messages_1 : decode cX5_messages 1 = .ok (.getfield 26, 3) := by decide +kernel
theorem dX5_messages_4 : decode cX5_messages 4 = .ok (.invokevirtual 80, 3) := by decide +kernel
theorem dX5_messages_7 : decode cX5_messages 7 = .ok (.ireturn, 1) := by decide +kernel
set_option maxRecDepth 20000 in
theorem ggX5_state_X5_messageAt : GoodIn wsX5_state wsX5_messageAt := goodIn_ca (goodIn_r _ [6, 7, 8, 9, 10, 11, 12, 13, 14, 15, 16, 17, 18, 19, 20, 21, 22, 23, 24, 25, 26, 27, 28, 29, 30, 31, 32, 33, 50, 51, 52, 53, 54, 55, 56] (by decide +kernel) (by decide +kernel)) (goodIn_sub (fun _ h => List.mem_cons_of_mem _ (List.mem_append_right _ h)) (by decide +kernel))
set_option maxRecDepth 20000 in
theorem gX5_state_X5_messageAt : GoodIn wsX5_state (wsV RX5 119 RX5 yX5_messageAt wsX5_messageAt) := goodIn_app (goodIn_of _ (by decide +kernel)) ggX5_state_X5_messageAt
theorem dX5_state_0 : decode cX5_state 0 = .ok (.aload_n 0, 1) := by decide +kernel
theorem dX5_state_1 : decode cX5_state 1 = .ok (.iload_n 1, 1) := by decide +kernel
theorem dX5_state_2 : decode cX5_state 2 = .ok (.invokevirtual 119, 3) := by decide +kernel
theorem dX5_state_5 : decode cX5_state 5 = .ok (.getfield 122, 3) := by decide +kernel
theorem dX5_state_8 : decode cX5_state 8 = .ok (.ireturn, 1) := by decide +kernel
set_option maxRecDepth 20000 in
theorem ggX5_stateByLog_X5_messageAt : GoodIn wsX5_stateByLog wsX5_messageAt := goodIn_ca (goodIn_r _ [7, 8, 9, 10, 11, 12, 13, 14, 15, 16, 17, 18, 19, 20, 21, 22, 23, 24, 25, 26, 27, 28, 29, 30, 31, 32, 33, 34, 58, 59, 60, 61, 62, 63, 64] (by decide +kernel) (by decide +kernel)) (goodIn_sub (fun _ h => List.mem_cons_of_mem _ (List.mem_append_right _ h)) (by decide +kernel))
set_option maxRecDepth 20000 in
theorem gX5_stateByLog_X5_messageAt : GoodIn wsX5_stateByLog (wsV RX5 119 RX5 yX5_messageAt wsX5_messageAt) := goodIn_app (goodIn_of _ (by decide +kernel)) ggX5_stateByLog_X5_messageAt
set_option maxRecDepth 20000 in
theorem ggX5_stateByLog_X2_stateAtItsEnd : GoodIn wsX5_stateByLog wsX2_stateAtItsEnd := goodIn_r _ [39, 40, 41, 65, 66] (by decide +kernel) (by decide +kernel)
set_option maxRecDepth 20000 in
theorem gX5_stateByLog_X2_stateAtItsEnd : GoodIn wsX5_stateByLog (wsV RX5 132 RX2 yX2_stateAtItsEnd wsX2_stateAtItsEnd) := goodIn_app (goodIn_of _ (by decide +kernel)) ggX5_stateByLog_X2_stateAtItsEnd
theorem dX5_stateByLog_0 : decode cX5_stateByLog 0 = .ok (.aload_n 0, 1) := by decide +kernel
theorem dX5_stateByLog_1 : decode cX5_stateByLog 1 = .ok (.iload_n 1, 1) := by decide +kernel
theorem dX5_stateByLog_2 : decode cX5_stateByLog 2 = .ok (.invokevirtual 119, 3) := by decide +kernel
theorem dX5_stateByLog_5 : decode cX5_stateByLog 5 = .ok (.astore_n 2, 1) := by decide +kernel
theorem dX5_stateByLog_6 : decode cX5_stateByLog 6 = .ok (.aload_n 2, 1) := by decide +kernel
theorem dX5_stateByLog_7 : decode cX5_stateByLog 7 = .ok (.getfield 125, 3) := by decide +kernel
theorem dX5_stateByLog_10 : decode cX5_stateByLog 10 = .ok (.aload_n 2, 1) := by decide +kernel
theorem dX5_stateByLog_11 : decode cX5_stateByLog 11 = .ok (.getfield 129, 3) := by decide +kernel
theorem dX5_stateByLog_14 : decode cX5_stateByLog 14 = .ok (.arraylength, 1) := by decide +kernel
theorem dX5_stateByLog_15 : decode cX5_stateByLog 15 = .ok (.invokevirtual 132, 3) := by decide +kernel
theorem dX5_stateByLog_18 : decode cX5_stateByLog 18 = .ok (.ireturn, 1) := by decide +kernel
set_option maxRecDepth 20000 in
theorem ggX5_parts_X5_messageAt : GoodIn wsX5_parts wsX5_messageAt := goodIn_ca (goodIn_r _ [6, 7, 8, 9, 10, 11, 12, 13, 14, 15, 16, 17, 18, 19, 20, 21, 22, 23, 24, 25, 26, 27, 28, 29, 30, 31, 32, 33, 50, 51, 52, 53, 54, 55, 56] (by decide +kernel) (by decide +kernel)) (goodIn_sub (fun _ h => List.mem_cons_of_mem _ (List.mem_append_right _ h)) (by decide +kernel))
set_option maxRecDepth 20000 in
theorem gX5_parts_X5_messageAt : GoodIn wsX5_parts (wsV RX5 119 RX5 yX5_messageAt wsX5_messageAt) := goodIn_app (goodIn_of _ (by decide +kernel)) ggX5_parts_X5_messageAt
theorem dX5_parts_0 : decode cX5_parts 0 = .ok (.aload_n 0, 1) := by decide +kernel
theorem dX5_parts_1 : decode cX5_parts 1 = .ok (.iload_n 1, 1) := by decide +kernel
theorem dX5_parts_2 : decode cX5_parts 2 = .ok (.invokevirtual 119, 3) := by decide +kernel
theorem dX5_parts_5 : decode cX5_parts 5 = .ok (.getfield 129, 3) := by decide +kernel
theorem dX5_parts_8 : decode cX5_parts 8 = .ok (.arraylength, 1) := by decide +kernel
theorem dX5_parts_9 : decode cX5_parts 9 = .ok (.ireturn, 1) := by decide +kernel
set_option maxRecDepth 20000 in
theorem ggX5_lettersIn_X5_messageAt : GoodIn wsX5_lettersIn wsX5_messageAt := goodIn_ca (goodIn_r _ [8, 1, 2, 9, 10, 11, 12, 13, 14, 15, 16, 17, 18, 19, 20, 21, 22, 23, 24, 25, 26, 27, 28, 29, 30, 31, 32, 33, 50, 51, 52, 53, 54, 55, 56] (by decide +kernel) (by decide +kernel)) (goodIn_sub (fun _ h => List.mem_cons_of_mem _ (List.mem_append_right _ h)) (by decide +kernel))
set_option maxRecDepth 20000 in
theorem gX5_lettersIn_X5_messageAt : GoodIn wsX5_lettersIn (wsV RX5 119 RX5 yX5_messageAt wsX5_messageAt) := goodIn_app (goodIn_of _ (by decide +kernel)) ggX5_lettersIn_X5_messageAt
theorem dX5_lettersIn_0 : decode cX5_lettersIn 0 = .ok (.aload_n 0, 1) := by decide +kernel
theorem dX5_lettersIn_1 : decode cX5_lettersIn 1 = .ok (.iload_n 1, 1) := by decide +kernel
theorem dX5_lettersIn_2 : decode cX5_lettersIn 2 = .ok (.invokevirtual 119, 3) := by decide +kernel
theorem dX5_lettersIn_5 : decode cX5_lettersIn 5 = .ok (.getfield 129, 3) := by decide +kernel
theorem dX5_lettersIn_8 : decode cX5_lettersIn 8 = .ok (.astore_n 3, 1) := by decide +kernel
theorem dX5_lettersIn_9 : decode cX5_lettersIn 9 = .ok (.iload_n 2, 1) := by decide +kernel
theorem dX5_lettersIn_10 : decode cX5_lettersIn 10 = .ok (.ifCond .lt 9, 3) := by decide +kernel
theorem dX5_lettersIn_13 : decode cX5_lettersIn 13 = .ok (.iload_n 2, 1) := by decide +kernel
theorem dX5_lettersIn_14 : decode cX5_lettersIn 14 = .ok (.aload_n 3, 1) := by decide +kernel
theorem dX5_lettersIn_15 : decode cX5_lettersIn 15 = .ok (.arraylength, 1) := by decide +kernel
theorem dX5_lettersIn_16 : decode cX5_lettersIn 16 = .ok (.if_icmp .lt 13, 3) := by decide +kernel
theorem dX5_lettersIn_19 : decode cX5_lettersIn 19 = .ok (.new 138, 3) := by decide +kernel
theorem dX5_lettersIn_22 : decode cX5_lettersIn 22 = .ok (.dup, 1) := by decide +kernel
theorem dX5_lettersIn_23 : decode cX5_lettersIn 23 = .ok (.ldc 140, 2) := by decide +kernel
theorem dX5_lettersIn_25 : decode cX5_lettersIn 25 = .ok (.invokespecial 142, 3) := by decide +kernel
theorem dX5_lettersIn_28 : decode cX5_lettersIn 28 = .ok (.athrow, 1) := by decide +kernel
theorem dX5_lettersIn_29 : decode cX5_lettersIn 29 = .ok (.aload_n 3, 1) := by decide +kernel
theorem dX5_lettersIn_30 : decode cX5_lettersIn 30 = .ok (.iload_n 2, 1) := by decide +kernel
theorem dX5_lettersIn_31 : decode cX5_lettersIn 31 = .ok (.iaload, 1) := by decide +kernel
theorem dX5_lettersIn_32 : decode cX5_lettersIn 32 = .ok (.ireturn, 1) := by decide +kernel
set_option maxRecDepth 20000 in
theorem ggX5_delivered_X5_messageAt : GoodIn wsX5_delivered wsX5_messageAt := goodIn_ca (goodIn_r _ [6, 7, 8, 9, 10, 11, 12, 13, 14, 15, 16, 17, 18, 19, 20, 21, 22, 23, 24, 25, 26, 27, 28, 29, 30, 31, 32, 33, 50, 51, 52, 53, 54, 55, 56] (by decide +kernel) (by decide +kernel)) (goodIn_sub (fun _ h => List.mem_cons_of_mem _ (List.mem_append_right _ h)) (by decide +kernel))
set_option maxRecDepth 20000 in
theorem gX5_delivered_X5_messageAt : GoodIn wsX5_delivered (wsV RX5 119 RX5 yX5_messageAt wsX5_messageAt) := goodIn_app (goodIn_of _ (by decide +kernel)) ggX5_delivered_X5_messageAt
theorem dX5_delivered_0 : decode cX5_delivered 0 = .ok (.aload_n 0, 1) := by decide +kernel
theorem dX5_delivered_1 : decode cX5_delivered 1 = .ok (.iload_n 1, 1) := by decide +kernel
theorem dX5_delivered_2 : decode cX5_delivered 2 = .ok (.invokevirtual 119, 3) := by decide +kernel
theorem dX5_delivered_5 : decode cX5_delivered 5 = .ok (.getfield 116, 3) := by decide +kernel
theorem dX5_delivered_8 : decode cX5_delivered 8 = .ok (.ireturn, 1) := by decide +kernel
set_option maxRecDepth 20000 in
theorem ggX5_attempts_X5_messageAt : GoodIn wsX5_attempts wsX5_messageAt := goodIn_ca (goodIn_r _ [6, 7, 8, 9, 10, 11, 12, 13, 14, 15, 16, 17, 18, 19, 20, 21, 22, 23, 24, 25, 26, 27, 28, 29, 30, 31, 32, 33, 50, 51, 52, 53, 54, 55, 56] (by decide +kernel) (by decide +kernel)) (goodIn_sub (fun _ h => List.mem_cons_of_mem _ (List.mem_append_right _ h)) (by decide +kernel))
set_option maxRecDepth 20000 in
theorem gX5_attempts_X5_messageAt : GoodIn wsX5_attempts (wsV RX5 119 RX5 yX5_messageAt wsX5_messageAt) := goodIn_app (goodIn_of _ (by decide +kernel)) ggX5_attempts_X5_messageAt
theorem dX5_attempts_0 : decode cX5_attempts 0 = .ok (.aload_n 0, 1) := by decide +kernel
theorem dX5_attempts_1 : decode cX5_attempts 1 = .ok (.iload_n 1, 1) := by decide +kernel
theorem dX5_attempts_2 : decode cX5_attempts 2 = .ok (.invokevirtual 119, 3) := by decide +kernel
theorem dX5_attempts_5 : decode cX5_attempts 5 = .ok (.getfield 143, 3) := by decide +kernel
theorem dX5_attempts_8 : decode cX5_attempts 8 = .ok (.ireturn, 1) := by decide +kernel
set_option maxRecDepth 20000 in
theorem ggX5_due_X5_waitingMessageAt : GoodIn wsX5_due wsX5_waitingMessageAt := goodIn_ca (goodIn_ca (goodIn_r _ [6, 7, 8, 9, 10, 11, 12, 5, 13, 14, 15, 16, 17, 18, 19, 20, 21, 22, 23, 24, 25, 26, 27, 28, 29, 30, 31, 32, 33, 34, 35, 36, 37, 38, 39, 40, 41, 42, 43, 44, 45, 46, 47, 48, 49, 50, 51, 52, 53, 54, 55, 56, 57, 58, 59, 60, 61, 62, 63] (by decide +kernel) (by decide +kernel)) (goodIn_sub (fun _ h => List.mem_cons_of_mem _ (List.mem_append_left _ (List.mem_append_right _ h))) (by decide +kernel))) (goodIn_sub (fun _ h => List.mem_cons_of_mem _ (List.mem_append_right _ h)) (by decide +kernel))
set_option maxRecDepth 20000 in
theorem gX5_due_X5_waitingMessageAt : GoodIn wsX5_due (wsV RX5 108 RX5 yX5_waitingMessageAt wsX5_waitingMessageAt) := goodIn_app (goodIn_of _ (by decide +kernel)) ggX5_due_X5_waitingMessageAt
theorem dX5_due_0 : decode cX5_due 0 = .ok (.aload_n 0, 1) := by decide +kernel
theorem dX5_due_1 : decode cX5_due 1 = .ok (.iload_n 1, 1) := by decide +kernel
theorem dX5_due_2 : decode cX5_due 2 = .ok (.invokevirtual 108, 3) := by decide +kernel
theorem dX5_due_5 : decode cX5_due 5 = .ok (.getfield 146, 3) := by decide +kernel
theorem dX5_due_8 : decode cX5_due 8 = .ok (.ireturn, 1) := by decide +kernel
set_option maxRecDepth 20000 in
theorem ggX5_setMode_X5_recipientAt : GoodIn wsX5_setMode wsX5_recipientAt := goodIn_ca (goodIn_r _ [7, 8, 9, 10, 57, 58, 59, 60] (by decide +kernel) (by decide +kernel)) (goodIn_sub (fun _ h => List.mem_cons_of_mem _ (List.mem_append_left _ (List.mem_append_right _ h))) (by decide +kernel))
set_option maxRecDepth 20000 in
theorem gX5_setMode_X5_recipientAt : GoodIn wsX5_setMode (wsV RX5 63 RX5 yX5_recipientAt wsX5_recipientAt) := goodIn_app (goodIn_of _ (by decide +kernel)) ggX5_setMode_X5_recipientAt
set_option maxRecDepth 20000 in
theorem ggX5_setMode_X5_requireInRange : GoodIn wsX5_setMode wsX5_requireInRange := goodIn_ca (goodIn_r _ [13, 14, 15] (by decide +kernel) (by decide +kernel)) (goodIn_sub (fun _ h => List.mem_cons_of_mem _ (List.mem_append_right _ h)) (by decide +kernel))
set_option maxRecDepth 20000 in
theorem gX5_setMode_X5_requireInRange : GoodIn wsX5_setMode (va_wsS RX5 34 yX5_requireInRange wsX5_requireInRange) := goodIn_app (goodIn_of _ (by decide +kernel)) ggX5_setMode_X5_requireInRange
set_option maxRecDepth 20000 in
theorem ggX5_setMode_X4_wakeFrom : GoodIn wsX5_setMode wsX4_wakeFrom := goodIn_r _ [20, 21, 22, 23, 24, 25, 26, 27, 28, 29, 30, 31, 32, 33, 34, 35, 36, 37, 38, 39, 40, 41, 42, 43, 44, 45, 46, 47, 48, 49, 50, 51, 52, 53, 54, 55, 56, 61, 62, 63, 64, 65, 66, 67, 68, 69, 70, 71, 72, 73, 74, 75, 76, 77, 78, 79] (by decide +kernel) (by decide +kernel)
set_option maxRecDepth 20000 in
theorem gX5_setMode_X4_wakeFrom : GoodIn wsX5_setMode (wsV RX5 152 RX4 yX4_wakeFrom wsX4_wakeFrom) := goodIn_app (goodIn_of _ (by decide +kernel)) ggX5_setMode_X4_wakeFrom
theorem dX5_setMode_0 : decode cX5_setMode 0 = .ok (.aload_n 0, 1) := by decide +kernel
theorem dX5_setMode_1 : decode cX5_setMode 1 = .ok (.iload_n 1, 1) := by decide +kernel
theorem dX5_setMode_2 : decode cX5_setMode 2 = .ok (.invokevirtual 63, 3) := by decide +kernel
theorem dX5_setMode_5 : decode cX5_setMode 5 = .ok (.astore_n 3, 1) := by decide +kernel
theorem dX5_setMode_6 : decode cX5_setMode 6 = .ok (.iload_n 2, 1) := by decide +kernel
theorem dX5_setMode_7 : decode cX5_setMode 7 = .ok (.iconst 0, 1) := by decide +kernel
theorem dX5_setMode_8 : decode cX5_setMode 8 = .ok (.iconst 3, 1) := by decide +kernel
theorem dX5_setMode_9 : decode cX5_setMode 9 = .ok (.invokestatic 34, 3) := by decide +kernel
theorem dX5_setMode_12 : decode cX5_setMode 12 = .ok (.aload_n 3, 1) := by decide +kernel
theorem dX5_setMode_13 : decode cX5_setMode 13 = .ok (.getfield 149, 3) := by decide +kernel
theorem dX5_setMode_16 : decode cX5_setMode 16 = .ok (.istore 4, 2) := by decide +kernel
theorem dX5_setMode_18 : decode cX5_setMode 18 = .ok (.aload_n 3, 1) := by decide +kernel
theorem dX5_setMode_19 : decode cX5_setMode 19 = .ok (.iload_n 2, 1) := by decide +kernel
theorem dX5_setMode_20 : decode cX5_setMode 20 = .ok (.putfield 149, 3) := by decide +kernel
theorem dX5_setMode_23 : decode cX5_setMode 23 = .ok (.iload_n 2, 1) := by decide +kernel
theorem dX5_setMode_24 : decode cX5_setMode 24 = .ok (.ifCond .ne 12, 3) := by decide +kernel
theorem dX5_setMode_27 : decode cX5_setMode 27 = .ok (.aload_n 3, 1) := by decide +kernel
theorem dX5_setMode_28 : decode cX5_setMode 28 = .ok (.iconst 1, 1) := by decide +kernel
theorem dX5_setMode_29 : decode cX5_setMode 29 = .ok (.aload_n 0, 1) := by decide +kernel
theorem dX5_setMode_30 : decode cX5_setMode 30 = .ok (.getfield 91, 3) := by decide +kernel
theorem dX5_setMode_33 : decode cX5_setMode 33 = .ok (.invokevirtual 152, 3) := by decide +kernel
theorem dX5_setMode_36 : decode cX5_setMode 36 = .ok (.iload 4, 2) := by decide +kernel
theorem dX5_setMode_38 : decode cX5_setMode 38 = .ok (.ireturn, 1) := by decide +kernel
set_option maxRecDepth 20000 in
theorem ggX5_setRoom_X5_recipientAt : GoodIn wsX5_setRoom wsX5_recipientAt := goodIn_ca (goodIn_r _ [6, 7, 8, 9, 62, 63, 64, 65] (by decide +kernel) (by decide +kernel)) (goodIn_sub (fun _ h => List.mem_cons_of_mem _ (List.mem_append_left _ (List.mem_append_right _ h))) (by decide +kernel))
set_option maxRecDepth 20000 in
theorem gX5_setRoom_X5_recipientAt : GoodIn wsX5_setRoom (wsV RX5 63 RX5 yX5_recipientAt wsX5_recipientAt) := goodIn_app (goodIn_of _ (by decide +kernel)) ggX5_setRoom_X5_recipientAt
set_option maxRecDepth 20000 in
theorem ggX5_setRoom_X5_requireInRange : GoodIn wsX5_setRoom wsX5_requireInRange := goodIn_ca (goodIn_r _ [12, 13, 14] (by decide +kernel) (by decide +kernel)) (goodIn_sub (fun _ h => List.mem_cons_of_mem _ (List.mem_append_right _ h)) (by decide +kernel))
set_option maxRecDepth 20000 in
theorem gX5_setRoom_X5_requireInRange : GoodIn wsX5_setRoom (va_wsS RX5 34 yX5_requireInRange wsX5_requireInRange) := goodIn_app (goodIn_of _ (by decide +kernel)) ggX5_setRoom_X5_requireInRange
set_option maxRecDepth 20000 in
theorem ggX5_setRoom_X5_wakeIfRoomAgain : GoodIn wsX5_setRoom wsX5_wakeIfRoomAgain := goodIn_r _ [18, 19, 1, 20, 21, 22, 23, 24, 25, 26, 27, 28, 29, 30, 31, 32, 33, 34, 35, 36, 37, 38, 39, 40, 41, 42, 43, 44, 45, 46, 47, 48, 49, 50, 51, 52, 53, 54, 55, 56, 57, 58, 59, 60, 61, 62, 63, 64, 65, 66, 67, 68, 69, 70, 71, 72, 73, 74, 75, 76, 77, 78, 79, 80, 81, 82, 83, 84] (by decide +kernel) (by decide +kernel)
set_option maxRecDepth 20000 in
theorem gX5_setRoom_X5_wakeIfRoomAgain : GoodIn wsX5_setRoom (wsV RX5 159 RX5 yX5_wakeIfRoomAgain wsX5_wakeIfRoomAgain) := goodIn_app (goodIn_of _ (by decide +kernel)) ggX5_setRoom_X5_wakeIfRoomAgain
theorem dX5_setRoom_0 : decode cX5_setRoom 0 = .ok (.aload_n 0, 1) := by decide +kernel
theorem dX5_setRoom_1 : decode cX5_setRoom 1 = .ok (.iload_n 1, 1) := by decide +kernel
theorem dX5_setRoom_2 : decode cX5_setRoom 2 = .ok (.invokevirtual 63, 3) := by decide +kernel
theorem dX5_setRoom_5 : decode cX5_setRoom 5 = .ok (.astore_n 3, 1) := by decide +kernel
theorem dX5_setRoom_6 : decode cX5_setRoom 6 = .ok (.iload_n 2, 1) := by decide +kernel
theorem dX5_setRoom_7 : decode cX5_setRoom 7 = .ok (.iconst 0, 1) := by decide +kernel
theorem dX5_setRoom_8 : decode cX5_setRoom 8 = .ok (.bipush 50, 2) := by decide +kernel
theorem dX5_setRoom_10 : decode cX5_setRoom 10 = .ok (.invokestatic 34, 3) := by decide +kernel
theorem dX5_setRoom_13 : decode cX5_setRoom 13 = .ok (.aload_n 3, 1) := by decide +kernel
theorem dX5_setRoom_14 : decode cX5_setRoom 14 = .ok (.getfield 156, 3) := by decide +kernel
theorem dX5_setRoom_17 : decode cX5_setRoom 17 = .ok (.istore 4, 2) := by decide +kernel
theorem dX5_setRoom_19 : decode cX5_setRoom 19 = .ok (.aload_n 3, 1) := by decide +kernel
theorem dX5_setRoom_20 : decode cX5_setRoom 20 = .ok (.iload_n 2, 1) := by decide +kernel
theorem dX5_setRoom_21 : decode cX5_setRoom 21 = .ok (.putfield 156, 3) := by decide +kernel
theorem dX5_setRoom_24 : decode cX5_setRoom 24 = .ok (.aload_n 0, 1) := by decide +kernel
theorem dX5_setRoom_25 : decode cX5_setRoom 25 = .ok (.aload_n 3, 1) := by decide +kernel
theorem dX5_setRoom_26 : decode cX5_setRoom 26 = .ok (.invokevirtual 159, 3) := by decide +kernel
theorem dX5_setRoom_29 : decode cX5_setRoom 29 = .ok (.iload 4, 2) := by decide +kernel
theorem dX5_setRoom_31 : decode cX5_setRoom 31 = .ok (.ireturn, 1) := by decide +kernel
set_option maxRecDepth 20000 in
theorem ggX5_read_X5_recipientAt : GoodIn wsX5_read wsX5_recipientAt := goodIn_ca (goodIn_r _ [10, 11, 12, 13, 65, 66, 67, 68] (by decide +kernel) (by decide +kernel)) (goodIn_sub (fun _ h => List.mem_cons_of_mem _ (List.mem_append_left _ (List.mem_append_right _ h))) (by decide +kernel))
set_option maxRecDepth 20000 in
theorem gX5_read_X5_recipientAt : GoodIn wsX5_read (wsV RX5 63 RX5 yX5_recipientAt wsX5_recipientAt) := goodIn_app (goodIn_of _ (by decide +kernel)) ggX5_read_X5_recipientAt
set_option maxRecDepth 20000 in
theorem ggX5_read_X5_requireInRange : GoodIn wsX5_read wsX5_requireInRange := goodIn_ca (goodIn_r _ [16, 17, 18] (by decide +kernel) (by decide +kernel)) (goodIn_sub (fun _ h => List.mem_cons_of_mem _ (List.mem_append_right _ h)) (by decide +kernel))
set_option maxRecDepth 20000 in
theorem gX5_read_X5_requireInRange : GoodIn wsX5_read (va_wsS RX5 34 yX5_requireInRange wsX5_requireInRange) := goodIn_app (goodIn_of _ (by decide +kernel)) ggX5_read_X5_requireInRange
set_option maxRecDepth 20000 in
theorem ggX5_read_X5_wakeIfRoomAgain : GoodIn wsX5_read wsX5_wakeIfRoomAgain := goodIn_r _ [22, 1, 23, 24, 25, 26, 27, 28, 29, 30, 31, 32, 33, 34, 35, 4, 36, 37, 38, 39, 40, 41, 42, 43, 44, 45, 46, 47, 48, 49, 50, 51, 52, 53, 54, 55, 56, 57, 58, 59, 60, 61, 62, 63, 64, 65, 66, 67, 68, 69, 70, 71, 72, 73, 74, 75, 76, 77, 78, 79, 80, 81, 82, 83, 84, 85, 86, 87] (by decide +kernel) (by decide +kernel)
set_option maxRecDepth 20000 in
theorem gX5_read_X5_wakeIfRoomAgain : GoodIn wsX5_read (wsV RX5 159 RX5 yX5_wakeIfRoomAgain wsX5_wakeIfRoomAgain) := goodIn_app (goodIn_of _ (by decide +kernel)) ggX5_read_X5_wakeIfRoomAgain
theorem dX5_read_0 : decode cX5_read 0 = .ok (.aload_n 0, 1) := by decide +kernel
theorem dX5_read_1 : decode cX5_read 1 = .ok (.iload_n 1, 1) := by decide +kernel
theorem dX5_read_2 : decode cX5_read 2 = .ok (.invokevirtual 63, 3) := by decide +kernel
theorem dX5_read_5 : decode cX5_read 5 = .ok (.astore_n 3, 1) := by decide +kernel
theorem dX5_read_6 : decode cX5_read 6 = .ok (.iload_n 2, 1) := by decide +kernel
theorem dX5_read_7 : decode cX5_read 7 = .ok (.iconst 1, 1) := by decide +kernel
theorem dX5_read_8 : decode cX5_read 8 = .ok (.bipush 50, 2) := by decide +kernel
