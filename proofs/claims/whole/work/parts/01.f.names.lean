theorem dX5_lettersThatFit_31 : decode cX5_lettersThatFit 31 = .ok (.if_icmp .le 6, 3) := by decide +kernel
theorem dX5_lettersThatFit_34 : decode cX5_lettersThatFit 34 = .ok (.goto 12, 3) := by decide +kernel
theorem dX5_lettersThatFit_37 : decode cX5_lettersThatFit 37 = .ok (.iinc 5 1, 3) := by decide +kernel
theorem dX5_lettersThatFit_40 : decode cX5_lettersThatFit 40 = .ok (.iinc 6 1, 3) := by decide +kernel
theorem dX5_lettersThatFit_43 : decode cX5_lettersThatFit 43 = .ok (.goto (-28), 3) := by decide +kernel
theorem dX5_lettersThatFit_46 : decode cX5_lettersThatFit 46 = .ok (.iload 5, 2) := by decide +kernel
theorem dX5_lettersThatFit_48 : decode cX5_lettersThatFit 48 = .ok (.ireturn, 1) := by decide +kernel
set_option maxRecDepth 20000 in
theorem ggX5_knownAgain_Jx4a65c_size_8abf5 : GoodIn wsX5_knownAgain wsJx4a65c_size_8abf5 := goodIn_r _ [11, 12, 64, 65, 66] (by decide +kernel) (by decide +kernel)
set_option maxRecDepth 20000 in
theorem gX5_knownAgain_Jx4a65c_size_8abf5 : GoodIn wsX5_knownAgain (wsV RX5 80 RJx4a65c yJx4a65c_size_8abf5 wsJx4a65c_size_8abf5) := goodIn_app (goodIn_of _ (by decide +kernel)) ggX5_knownAgain_Jx4a65c_size_8abf5
set_option maxRecDepth 20000 in
theorem ggX5_knownAgain_Jx4a65c_get_915e3 : GoodIn wsX5_knownAgain wsJx4a65c_get_915e3 := goodIn_r _ [16, 12, 17, 18, 19, 20, 21, 22, 23, 24, 25, 26, 27, 10, 28, 29, 64, 65, 66] (by decide +kernel) (by decide +kernel)
set_option maxRecDepth 20000 in
theorem gX5_knownAgain_Jx4a65c_get_915e3 : GoodIn wsX5_knownAgain (wsV RX5 199 RJx4a65c yJx4a65c_get_915e3 wsJx4a65c_get_915e3) := goodIn_app (goodIn_of _ (by decide +kernel)) ggX5_knownAgain_Jx4a65c_get_915e3
set_option maxRecDepth 20000 in
theorem ggX5_knownAgain_X3_goesBetween : GoodIn wsX5_knownAgain wsX3_goesBetween := goodIn_r _ [34, 35, 36, 48, 49, 50, 51, 52, 53, 54, 55, 56, 57, 58, 59, 60, 61, 62, 63] (by decide +kernel) (by decide +kernel)
set_option maxRecDepth 20000 in
theorem gX5_knownAgain_X3_goesBetween : GoodIn wsX5_knownAgain (wsV RX5 228 RX3 yX3_goesBetween wsX3_goesBetween) := goodIn_app (goodIn_of _ (by decide +kernel)) ggX5_knownAgain_X3_goesBetween
theorem dX5_knownAgain_0 : decode cX5_knownAgain 0 = .ok (.aload_n 1, 1) := by decide +kernel
theorem dX5_knownAgain_1 : decode cX5_knownAgain 1 = .ok (.getfield 50, 3) := by decide +kernel
theorem dX5_knownAgain_4 : decode cX5_knownAgain 4 = .ok (.iconst (-1), 1) := by decide +kernel
theorem dX5_knownAgain_5 : decode cX5_knownAgain 5 = .ok (.if_icmp .ne 5, 3) := by decide +kernel
theorem dX5_knownAgain_8 : decode cX5_knownAgain 8 = .ok (.aconst_null, 1) := by decide +kernel
theorem dX5_knownAgain_9 : decode cX5_knownAgain 9 = .ok (.areturn, 1) := by decide +kernel
theorem dX5_knownAgain_10 : decode cX5_knownAgain 10 = .ok (.aconst_null, 1) := by decide +kernel
theorem dX5_knownAgain_11 : decode cX5_knownAgain 11 = .ok (.astore_n 3, 1) := by decide +kernel
theorem dX5_knownAgain_12 : decode cX5_knownAgain 12 = .ok (.iconst 0, 1) := by decide +kernel
theorem dX5_knownAgain_13 : decode cX5_knownAgain 13 = .ok (.istore 4, 2) := by decide +kernel
theorem dX5_knownAgain_15 : decode cX5_knownAgain 15 = .ok (.iload 4, 2) := by decide +kernel
theorem dX5_knownAgain_17 : decode cX5_knownAgain 17 = .ok (.aload_n 0, 1) := by decide +kernel
theorem dX5_knownAgain_18 : decode cX5_knownAgain 18 = .ok (.getfield 26, 3) := by decide +kernel
theorem dX5_knownAgain_21 : decode cX5_knownAgain 21 = .ok (.invokevirtual 80, 3) := by decide +kernel
theorem dX5_knownAgain_24 : decode cX5_knownAgain 24 = .ok (.if_icmp .ge 63, 3) := by decide +kernel
theorem dX5_knownAgain_27 : decode cX5_knownAgain 27 = .ok (.aload_n 0, 1) := by decide +kernel
theorem dX5_knownAgain_28 : decode cX5_knownAgain 28 = .ok (.getfield 26, 3) := by decide +kernel
theorem dX5_knownAgain_31 : decode cX5_knownAgain 31 = .ok (.iload 4, 2) := by decide +kernel
theorem dX5_knownAgain_33 : decode cX5_knownAgain 33 = .ok (.invokevirtual 199, 3) := by decide +kernel
theorem dX5_knownAgain_36 : decode cX5_knownAgain 36 = .ok (.checkcast 72, 3) := by decide +kernel
theorem dX5_knownAgain_39 : decode cX5_knownAgain 39 = .ok (.astore 5, 2) := by decide +kernel
theorem dX5_knownAgain_41 : decode cX5_knownAgain 41 = .ok (.aload 5, 2) := by decide +kernel
theorem dX5_knownAgain_43 : decode cX5_knownAgain 43 = .ok (.aload_n 1, 1) := by decide +kernel
theorem dX5_knownAgain_44 : decode cX5_knownAgain 44 = .ok (.aload_n 2, 1) := by decide +kernel
theorem dX5_knownAgain_45 : decode cX5_knownAgain 45 = .ok (.invokevirtual 228, 3) := by decide +kernel
theorem dX5_knownAgain_48 : decode cX5_knownAgain 48 = .ok (.ifCond .eq 33, 3) := by decide +kernel
theorem dX5_knownAgain_51 : decode cX5_knownAgain 51 = .ok (.aload 5, 2) := by decide +kernel
theorem dX5_knownAgain_53 : decode cX5_knownAgain 53 = .ok (.getfield 232, 3) := by decide +kernel
theorem dX5_knownAgain_56 : decode cX5_knownAgain 56 = .ok (.aload_n 1, 1) := by decide +kernel
theorem dX5_knownAgain_57 : decode cX5_knownAgain 57 = .ok (.getfield 50, 3) := by decide +kernel
theorem dX5_knownAgain_60 : decode cX5_knownAgain 60 = .ok (.if_icmp .ne 21, 3) := by decide +kernel
theorem dX5_knownAgain_63 : decode cX5_knownAgain 63 = .ok (.aload_n 0, 1) := by decide +kernel
theorem dX5_knownAgain_64 : decode cX5_knownAgain 64 = .ok (.getfield 91, 3) := by decide +kernel
theorem dX5_knownAgain_67 : decode cX5_knownAgain 67 = .ok (.aload 5, 2) := by decide +kernel
theorem dX5_knownAgain_69 : decode cX5_knownAgain 69 = .ok (.getfield 233, 3) := by decide +kernel
theorem dX5_knownAgain_72 : decode cX5_knownAgain 72 = .ok (.isub, 1) := by decide +kernel
theorem dX5_knownAgain_73 : decode cX5_knownAgain 73 = .ok (.bipush 30, 2) := by decide +kernel
theorem dX5_knownAgain_75 : decode cX5_knownAgain 75 = .ok (.if_icmp .ge 6, 3) := by decide +kernel
theorem dX5_knownAgain_78 : decode cX5_knownAgain 78 = .ok (.aload 5, 2) := by decide +kernel
theorem dX5_knownAgain_80 : decode cX5_knownAgain 80 = .ok (.astore_n 3, 1) := by decide +kernel
theorem dX5_knownAgain_81 : decode cX5_knownAgain 81 = .ok (.iinc 4 1, 3) := by decide +kernel
theorem dX5_knownAgain_84 : decode cX5_knownAgain 84 = .ok (.goto (-69), 3) := by decide +kernel
theorem dX5_knownAgain_87 : decode cX5_knownAgain 87 = .ok (.aload_n 3, 1) := by decide +kernel
theorem dX5_knownAgain_88 : decode cX5_knownAgain 88 = .ok (.areturn, 1) := by decide +kernel
set_option maxRecDepth 20000 in
theorem ggX5_isThrottled_Jx4a65c_size_8abf5 : GoodIn wsX5_isThrottled wsJx4a65c_size_8abf5 := goodIn_r _ [12, 13, 58, 59, 60] (by decide +kernel) (by decide +kernel)
set_option maxRecDepth 20000 in
theorem gX5_isThrottled_Jx4a65c_size_8abf5 : GoodIn wsX5_isThrottled (wsV RX5 80 RJx4a65c yJx4a65c_size_8abf5 wsJx4a65c_size_8abf5) := goodIn_app (goodIn_of _ (by decide +kernel)) ggX5_isThrottled_Jx4a65c_size_8abf5
set_option maxRecDepth 20000 in
theorem ggX5_isThrottled_Jx4a65c_get_915e3 : GoodIn wsX5_isThrottled wsJx4a65c_get_915e3 := goodIn_r _ [17, 13, 18, 19, 20, 21, 22, 23, 24, 25, 26, 27, 28, 11, 29, 30, 58, 59, 60] (by decide +kernel) (by decide +kernel)
set_option maxRecDepth 20000 in
theorem gX5_isThrottled_Jx4a65c_get_915e3 : GoodIn wsX5_isThrottled (wsV RX5 199 RJx4a65c yJx4a65c_get_915e3 wsJx4a65c_get_915e3) := goodIn_app (goodIn_of _ (by decide +kernel)) ggX5_isThrottled_Jx4a65c_get_915e3
theorem dX5_isThrottled_0 : decode cX5_isThrottled 0 = .ok (.iconst 0, 1) := by decide +kernel
theorem dX5_isThrottled_1 : decode cX5_isThrottled 1 = .ok (.istore_n 2, 1) := by decide +kernel
theorem dX5_isThrottled_2 : decode cX5_isThrottled 2 = .ok (.iconst 0, 1) := by decide +kernel
theorem dX5_isThrottled_3 : decode cX5_isThrottled 3 = .ok (.istore_n 3, 1) := by decide +kernel
theorem dX5_isThrottled_4 : decode cX5_isThrottled 4 = .ok (.iload_n 3, 1) := by decide +kernel
theorem dX5_isThrottled_5 : decode cX5_isThrottled 5 = .ok (.aload_n 0, 1) := by decide +kernel
theorem dX5_isThrottled_6 : decode cX5_isThrottled 6 = .ok (.getfield 26, 3) := by decide +kernel
theorem dX5_isThrottled_9 : decode cX5_isThrottled 9 = .ok (.invokevirtual 80, 3) := by decide +kernel
theorem dX5_isThrottled_12 : decode cX5_isThrottled 12 = .ok (.if_icmp .ge 51, 3) := by decide +kernel
theorem dX5_isThrottled_15 : decode cX5_isThrottled 15 = .ok (.aload_n 0, 1) := by decide +kernel
theorem dX5_isThrottled_16 : decode cX5_isThrottled 16 = .ok (.getfield 26, 3) := by decide +kernel
theorem dX5_isThrottled_19 : decode cX5_isThrottled 19 = .ok (.iload_n 3, 1) := by decide +kernel
theorem dX5_isThrottled_20 : decode cX5_isThrottled 20 = .ok (.invokevirtual 199, 3) := by decide +kernel
theorem dX5_isThrottled_23 : decode cX5_isThrottled 23 = .ok (.checkcast 72, 3) := by decide +kernel
theorem dX5_isThrottled_26 : decode cX5_isThrottled 26 = .ok (.astore 4, 2) := by decide +kernel
theorem dX5_isThrottled_28 : decode cX5_isThrottled 28 = .ok (.aload 4, 2) := by decide +kernel
theorem dX5_isThrottled_30 : decode cX5_isThrottled 30 = .ok (.getfield 236, 3) := by decide +kernel
theorem dX5_isThrottled_33 : decode cX5_isThrottled 33 = .ok (.aload_n 1, 1) := by decide +kernel
theorem dX5_isThrottled_34 : decode cX5_isThrottled 34 = .ok (.if_acmp .ne 23, 3) := by decide +kernel
theorem dX5_isThrottled_37 : decode cX5_isThrottled 37 = .ok (.aload_n 0, 1) := by decide +kernel
theorem dX5_isThrottled_38 : decode cX5_isThrottled 38 = .ok (.getfield 91, 3) := by decide +kernel
theorem dX5_isThrottled_41 : decode cX5_isThrottled 41 = .ok (.aload 4, 2) := by decide +kernel
theorem dX5_isThrottled_43 : decode cX5_isThrottled 43 = .ok (.getfield 233, 3) := by decide +kernel
theorem dX5_isThrottled_46 : decode cX5_isThrottled 46 = .ok (.isub, 1) := by decide +kernel
theorem dX5_isThrottled_47 : decode cX5_isThrottled 47 = .ok (.aload_n 1, 1) := by decide +kernel
theorem dX5_isThrottled_48 : decode cX5_isThrottled 48 = .ok (.getfield 60, 3) := by decide +kernel
theorem dX5_isThrottled_51 : decode cX5_isThrottled 51 = .ok (.if_icmp .ge 6, 3) := by decide +kernel
theorem dX5_isThrottled_54 : decode cX5_isThrottled 54 = .ok (.iinc 2 1, 3) := by decide +kernel
theorem dX5_isThrottled_57 : decode cX5_isThrottled 57 = .ok (.iinc 3 1, 3) := by decide +kernel
theorem dX5_isThrottled_60 : decode cX5_isThrottled 60 = .ok (.goto (-56), 3) := by decide +kernel
theorem dX5_isThrottled_63 : decode cX5_isThrottled 63 = .ok (.iload_n 2, 1) := by decide +kernel
theorem dX5_isThrottled_64 : decode cX5_isThrottled 64 = .ok (.aload_n 1, 1) := by decide +kernel
theorem dX5_isThrottled_65 : decode cX5_isThrottled 65 = .ok (.getfield 57, 3) := by decide +kernel
theorem dX5_isThrottled_68 : decode cX5_isThrottled 68 = .ok (.if_icmp .lt 7, 3) := by decide +kernel
theorem dX5_isThrottled_71 : decode cX5_isThrottled 71 = .ok (.iconst 1, 1) := by decide +kernel
theorem dX5_isThrottled_72 : decode cX5_isThrottled 72 = .ok (.goto 4, 3) := by decide +kernel
theorem dX5_isThrottled_75 : decode cX5_isThrottled 75 = .ok (.iconst 0, 1) := by decide +kernel
theorem dX5_isThrottled_76 : decode cX5_isThrottled 76 = .ok (.ireturn, 1) := by decide +kernel
set_option maxRecDepth 20000 in
theorem ggX5_deleteReplacedBy_Jx4a65c_size_8abf5 : GoodIn wsX5_deleteReplacedBy wsJx4a65c_size_8abf5 := goodIn_r _ [13, 14, 144, 145, 146] (by decide +kernel) (by decide +kernel)
set_option maxRecDepth 20000 in
theorem gX5_deleteReplacedBy_Jx4a65c_size_8abf5 : GoodIn wsX5_deleteReplacedBy (wsV RX5 80 RJx4a65c yJx4a65c_size_8abf5 wsJx4a65c_size_8abf5) := goodIn_app (goodIn_of _ (by decide +kernel)) ggX5_deleteReplacedBy_Jx4a65c_size_8abf5
set_option maxRecDepth 20000 in
theorem ggX5_deleteReplacedBy_Jx4a65c_get_915e3 : GoodIn wsX5_deleteReplacedBy wsJx4a65c_get_915e3 := goodIn_r _ [18, 14, 19, 20, 21, 22, 23, 24, 25, 26, 27, 28, 29, 12, 30, 31, 144, 145, 146] (by decide +kernel) (by decide +kernel)
set_option maxRecDepth 20000 in
theorem gX5_deleteReplacedBy_Jx4a65c_get_915e3 : GoodIn wsX5_deleteReplacedBy (wsV RX5 199 RJx4a65c yJx4a65c_get_915e3 wsJx4a65c_get_915e3) := goodIn_app (goodIn_of _ (by decide +kernel)) ggX5_deleteReplacedBy_Jx4a65c_get_915e3
set_option maxRecDepth 20000 in
theorem ggX5_deleteReplacedBy_X3_goesBetween : GoodIn wsX5_deleteReplacedBy wsX3_goesBetween := goodIn_r _ [36, 37, 38, 124, 125, 126, 127, 128, 129, 130, 131, 132, 133, 134, 135, 136, 137, 138, 139] (by decide +kernel) (by decide +kernel)
set_option maxRecDepth 20000 in
theorem gX5_deleteReplacedBy_X3_goesBetween : GoodIn wsX5_deleteReplacedBy (wsV RX5 228 RX3 yX3_goesBetween wsX3_goesBetween) := goodIn_app (goodIn_of _ (by decide +kernel)) ggX5_deleteReplacedBy_X3_goesBetween
set_option maxRecDepth 20000 in
theorem ggX5_deleteReplacedBy_X3_finish : GoodIn wsX5_deleteReplacedBy wsX3_finish := goodIn_r _ [42, 43, 44, 38, 45, 37, 46, 47, 48, 49, 50, 51, 52, 53, 54, 55, 56, 57, 58, 59, 60, 10, 11, 12, 13, 14, 61, 16, 17, 18, 19, 20, 21, 22, 23, 24, 25, 26, 27, 28, 29, 30, 31, 62, 63, 64, 65, 66, 67, 68, 69, 70, 71, 72, 73, 74, 75, 76, 77, 78, 79, 80, 81, 82, 83, 84, 85, 86, 87, 88, 89, 90, 91, 92, 93, 94, 95, 96, 97, 98, 99, 100, 101, 102, 103, 104, 105, 106, 107, 108, 109, 110, 111, 112, 113, 114, 115, 116, 117, 118, 119, 120, 121, 122, 123, 124, 125, 126, 127, 128, 129, 130, 131, 132, 133, 134, 135, 136, 137, 138, 139, 147, 148, 149, 150, 151, 152, 153, 154, 155, 156, 157, 158, 159, 160, 144, 145, 146] (by decide +kernel) (by decide +kernel)
set_option maxRecDepth 20000 in
theorem gX5_deleteReplacedBy_X3_finish : GoodIn wsX5_deleteReplacedBy (wsV RX5 112 RX3 yX3_finish wsX3_finish) := goodIn_app (goodIn_of _ (by decide +kernel)) ggX5_deleteReplacedBy_X3_finish
theorem dX5_deleteReplacedBy_0 : decode cX5_deleteReplacedBy 0 = .ok (.aload_n 1, 1) := by decide +kernel
theorem dX5_deleteReplacedBy_1 : decode cX5_deleteReplacedBy 1 = .ok (.getfield 240, 3) := by decide +kernel
theorem dX5_deleteReplacedBy_4 : decode cX5_deleteReplacedBy 4 = .ok (.ifCond .ne 4, 3) := by decide +kernel
theorem dX5_deleteReplacedBy_7 : decode cX5_deleteReplacedBy 7 = .ok (.return_, 1) := by decide +kernel
theorem dX5_deleteReplacedBy_8 : decode cX5_deleteReplacedBy 8 = .ok (.iconst 0, 1) := by decide +kernel
theorem dX5_deleteReplacedBy_9 : decode cX5_deleteReplacedBy 9 = .ok (.istore_n 2, 1) := by decide +kernel
theorem dX5_deleteReplacedBy_10 : decode cX5_deleteReplacedBy 10 = .ok (.iload_n 2, 1) := by decide +kernel
theorem dX5_deleteReplacedBy_11 : decode cX5_deleteReplacedBy 11 = .ok (.aload_n 1, 1) := by decide +kernel
theorem dX5_deleteReplacedBy_12 : decode cX5_deleteReplacedBy 12 = .ok (.getfield 71, 3) := by decide +kernel
theorem dX5_deleteReplacedBy_15 : decode cX5_deleteReplacedBy 15 = .ok (.if_icmp .ge 77, 3) := by decide +kernel
theorem dX5_deleteReplacedBy_18 : decode cX5_deleteReplacedBy 18 = .ok (.iload_n 2, 1) := by decide +kernel
theorem dX5_deleteReplacedBy_19 : decode cX5_deleteReplacedBy 19 = .ok (.aload_n 0, 1) := by decide +kernel
theorem dX5_deleteReplacedBy_20 : decode cX5_deleteReplacedBy 20 = .ok (.getfield 26, 3) := by decide +kernel
theorem dX5_deleteReplacedBy_23 : decode cX5_deleteReplacedBy 23 = .ok (.invokevirtual 80, 3) := by decide +kernel
theorem dX5_deleteReplacedBy_26 : decode cX5_deleteReplacedBy 26 = .ok (.if_icmp .ge 66, 3) := by decide +kernel
theorem dX5_deleteReplacedBy_29 : decode cX5_deleteReplacedBy 29 = .ok (.aload_n 0, 1) := by decide +kernel
theorem dX5_deleteReplacedBy_30 : decode cX5_deleteReplacedBy 30 = .ok (.getfield 26, 3) := by decide +kernel
theorem dX5_deleteReplacedBy_33 : decode cX5_deleteReplacedBy 33 = .ok (.iload_n 2, 1) := by decide +kernel
theorem dX5_deleteReplacedBy_34 : decode cX5_deleteReplacedBy 34 = .ok (.invokevirtual 199, 3) := by decide +kernel
theorem dX5_deleteReplacedBy_37 : decode cX5_deleteReplacedBy 37 = .ok (.checkcast 72, 3) := by decide +kernel
theorem dX5_deleteReplacedBy_40 : decode cX5_deleteReplacedBy 40 = .ok (.astore_n 3, 1) := by decide +kernel
theorem dX5_deleteReplacedBy_41 : decode cX5_deleteReplacedBy 41 = .ok (.aload_n 3, 1) := by decide +kernel
theorem dX5_deleteReplacedBy_42 : decode cX5_deleteReplacedBy 42 = .ok (.getfield 122, 3) := by decide +kernel
theorem dX5_deleteReplacedBy_45 : decode cX5_deleteReplacedBy 45 = .ok (.ifCond .ne 41, 3) := by decide +kernel
theorem dX5_deleteReplacedBy_48 : decode cX5_deleteReplacedBy 48 = .ok (.aload_n 3, 1) := by decide +kernel
theorem dX5_deleteReplacedBy_49 : decode cX5_deleteReplacedBy 49 = .ok (.getfield 116, 3) := by decide +kernel
theorem dX5_deleteReplacedBy_52 : decode cX5_deleteReplacedBy 52 = .ok (.ifCond .ne 34, 3) := by decide +kernel
theorem dX5_deleteReplacedBy_55 : decode cX5_deleteReplacedBy 55 = .ok (.aload_n 3, 1) := by decide +kernel
theorem dX5_deleteReplacedBy_56 : decode cX5_deleteReplacedBy 56 = .ok (.getfield 240, 3) := by decide +kernel
theorem dX5_deleteReplacedBy_59 : decode cX5_deleteReplacedBy 59 = .ok (.aload_n 1, 1) := by decide +kernel
theorem dX5_deleteReplacedBy_60 : decode cX5_deleteReplacedBy 60 = .ok (.getfield 240, 3) := by decide +kernel
theorem dX5_deleteReplacedBy_63 : decode cX5_deleteReplacedBy 63 = .ok (.if_icmp .ne 23, 3) := by decide +kernel
theorem dX5_deleteReplacedBy_66 : decode cX5_deleteReplacedBy 66 = .ok (.aload_n 3, 1) := by decide +kernel
theorem dX5_deleteReplacedBy_67 : decode cX5_deleteReplacedBy 67 = .ok (.aload_n 1, 1) := by decide +kernel
theorem dX5_deleteReplacedBy_68 : decode cX5_deleteReplacedBy 68 = .ok (.getfield 236, 3) := by decide +kernel
theorem dX5_deleteReplacedBy_71 : decode cX5_deleteReplacedBy 71 = .ok (.aload_n 1, 1) := by decide +kernel
theorem dX5_deleteReplacedBy_72 : decode cX5_deleteReplacedBy 72 = .ok (.getfield 241, 3) := by decide +kernel
theorem dX5_deleteReplacedBy_75 : decode cX5_deleteReplacedBy 75 = .ok (.invokevirtual 228, 3) := by decide +kernel
theorem dX5_deleteReplacedBy_78 : decode cX5_deleteReplacedBy 78 = .ok (.ifCond .eq 8, 3) := by decide +kernel
theorem dX5_deleteReplacedBy_81 : decode cX5_deleteReplacedBy 81 = .ok (.aload_n 3, 1) := by decide +kernel
theorem dX5_deleteReplacedBy_82 : decode cX5_deleteReplacedBy 82 = .ok (.iconst 3, 1) := by decide +kernel
theorem dX5_deleteReplacedBy_83 : decode cX5_deleteReplacedBy 83 = .ok (.invokevirtual 112, 3) := by decide +kernel
theorem dX5_deleteReplacedBy_86 : decode cX5_deleteReplacedBy 86 = .ok (.iinc 2 1, 3) := by decide +kernel
theorem dX5_deleteReplacedBy_89 : decode cX5_deleteReplacedBy 89 = .ok (.goto (-79), 3) := by decide +kernel
theorem dX5_deleteReplacedBy_92 : decode cX5_deleteReplacedBy 92 = .ok (.return_, 1) := by decide +kernel
set_option maxRecDepth 20000 in
theorem ggX5_expireMessages_Jx4a65c_size_8abf5 : GoodIn wsX5_expireMessages wsJx4a65c_size_8abf5 := goodIn_r _ [11, 12, 138, 139, 140] (by decide +kernel) (by decide +kernel)
set_option maxRecDepth 20000 in
theorem gX5_expireMessages_Jx4a65c_size_8abf5 : GoodIn wsX5_expireMessages (wsV RX5 80 RJx4a65c yJx4a65c_size_8abf5 wsJx4a65c_size_8abf5) := goodIn_app (goodIn_of _ (by decide +kernel)) ggX5_expireMessages_Jx4a65c_size_8abf5
set_option maxRecDepth 20000 in
theorem ggX5_expireMessages_Jx4a65c_get_915e3 : GoodIn wsX5_expireMessages wsJx4a65c_get_915e3 := goodIn_r _ [16, 12, 17, 18, 19, 20, 21, 22, 23, 24, 25, 26, 27, 10, 28, 29, 138, 139, 140] (by decide +kernel) (by decide +kernel)
set_option maxRecDepth 20000 in
theorem gX5_expireMessages_Jx4a65c_get_915e3 : GoodIn wsX5_expireMessages (wsV RX5 199 RJx4a65c yJx4a65c_get_915e3 wsJx4a65c_get_915e3) := goodIn_app (goodIn_of _ (by decide +kernel)) ggX5_expireMessages_Jx4a65c_get_915e3
set_option maxRecDepth 20000 in
theorem ggX5_expireMessages_X3_finish : GoodIn wsX5_expireMessages wsX3_finish := goodIn_r _ [34, 35, 36, 37, 38, 39, 40, 41, 42, 43, 44, 45, 46, 47, 48, 49, 50, 51, 52, 53, 54, 8, 9, 10, 11, 12, 55, 14, 15, 16, 17, 18, 19, 20, 21, 22, 23, 24, 25, 26, 27, 28, 29, 56, 57, 58, 59, 60, 61, 62, 63, 64, 65, 66, 67, 68, 69, 70, 71, 72, 73, 74, 75, 76, 77, 78, 79, 80, 81, 82, 83, 84, 85, 86, 87, 88, 89, 90, 91, 92, 93, 94, 95, 96, 97, 98, 99, 100, 101, 102, 103, 104, 105, 106, 107, 108, 109, 110, 111, 112, 113, 114, 115, 116, 117, 122, 123, 124, 125, 126, 127, 128, 129, 130, 131, 132, 133, 134, 135, 136, 137, 141, 142, 143, 144, 145, 146, 147, 148, 149, 150, 151, 152, 153, 154, 138, 139, 140] (by decide +kernel) (by decide +kernel)
set_option maxRecDepth 20000 in
theorem gX5_expireMessages_X3_finish : GoodIn wsX5_expireMessages (wsV RX5 112 RX3 yX3_finish wsX3_finish) := goodIn_app (goodIn_of _ (by decide +kernel)) ggX5_expireMessages_X3_finish
theorem dX5_expireMessages_0 : decode cX5_expireMessages 0 = .ok (.iconst 0, 1) := by decide +kernel
theorem dX5_expireMessages_1 : decode cX5_expireMessages 1 = .ok (.istore_n 1, 1) := by decide +kernel
theorem dX5_expireMessages_2 : decode cX5_expireMessages 2 = .ok (.iload_n 1, 1) := by decide +kernel
theorem dX5_expireMessages_3 : decode cX5_expireMessages 3 = .ok (.aload_n 0, 1) := by decide +kernel
theorem dX5_expireMessages_4 : decode cX5_expireMessages 4 = .ok (.getfield 26, 3) := by decide +kernel
theorem dX5_expireMessages_7 : decode cX5_expireMessages 7 = .ok (.invokevirtual 80, 3) := by decide +kernel
theorem dX5_expireMessages_10 : decode cX5_expireMessages 10 = .ok (.if_icmp .ge 49, 3) := by decide +kernel
theorem dX5_expireMessages_13 : decode cX5_expireMessages 13 = .ok (.aload_n 0, 1) := by decide +kernel
theorem dX5_expireMessages_14 : decode cX5_expireMessages 14 = .ok (.getfield 26, 3) := by decide +kernel
theorem dX5_expireMessages_17 : decode cX5_expireMessages 17 = .ok (.iload_n 1, 1) := by decide +kernel
theorem dX5_expireMessages_18 : decode cX5_expireMessages 18 = .ok (.invokevirtual 199, 3) := by decide +kernel
theorem dX5_expireMessages_21 : decode cX5_expireMessages 21 = .ok (.checkcast 72, 3) := by decide +kernel
theorem dX5_expireMessages_24 : decode cX5_expireMessages 24 = .ok (.astore_n 2, 1) := by decide +kernel
theorem dX5_expireMessages_25 : decode cX5_expireMessages 25 = .ok (.aload_n 2, 1) := by decide +kernel
theorem dX5_expireMessages_26 : decode cX5_expireMessages 26 = .ok (.getfield 122, 3) := by decide +kernel
theorem dX5_expireMessages_29 : decode cX5_expireMessages 29 = .ok (.ifCond .ne 24, 3) := by decide +kernel
theorem dX5_expireMessages_32 : decode cX5_expireMessages 32 = .ok (.aload_n 0, 1) := by decide +kernel
theorem dX5_expireMessages_33 : decode cX5_expireMessages 33 = .ok (.getfield 91, 3) := by decide +kernel
theorem dX5_expireMessages_36 : decode cX5_expireMessages 36 = .ok (.aload_n 2, 1) := by decide +kernel
theorem dX5_expireMessages_37 : decode cX5_expireMessages 37 = .ok (.getfield 233, 3) := by decide +kernel
theorem dX5_expireMessages_40 : decode cX5_expireMessages 40 = .ok (.isub, 1) := by decide +kernel
theorem dX5_expireMessages_41 : decode cX5_expireMessages 41 = .ok (.aload_n 2, 1) := by decide +kernel
theorem dX5_expireMessages_42 : decode cX5_expireMessages 42 = .ok (.getfield 245, 3) := by decide +kernel
theorem dX5_expireMessages_45 : decode cX5_expireMessages 45 = .ok (.if_icmp .lt 8, 3) := by decide +kernel
theorem dX5_expireMessages_48 : decode cX5_expireMessages 48 = .ok (.aload_n 2, 1) := by decide +kernel
theorem dX5_expireMessages_49 : decode cX5_expireMessages 49 = .ok (.iconst 2, 1) := by decide +kernel
theorem dX5_expireMessages_50 : decode cX5_expireMessages 50 = .ok (.invokevirtual 112, 3) := by decide +kernel
theorem dX5_expireMessages_53 : decode cX5_expireMessages 53 = .ok (.iinc 1 1, 3) := by decide +kernel
theorem dX5_expireMessages_56 : decode cX5_expireMessages 56 = .ok (.goto (-54), 3) := by decide +kernel
theorem dX5_expireMessages_59 : decode cX5_expireMessages 59 = .ok (.return_, 1) := by decide +kernel
set_option maxRecDepth 20000 in
theorem ggX5_attemptFor_X4_firstDueUntil : GoodIn wsX5_attemptFor wsX4_firstDueUntil := goodIn_r _ [10, 11, 12, 13, 14, 15, 16, 17, 18, 19, 20, 21, 22, 23, 24, 25, 26, 27, 28, 29, 30, 31, 32, 33, 34, 35, 36, 37, 38, 39, 40, 41, 42, 43, 182, 183, 184, 185, 186, 166, 167, 168, 169, 170, 171, 172, 173, 174, 175, 176, 177, 178, 179, 180, 181, 187, 188, 189] (by decide +kernel) (by decide +kernel)
set_option maxRecDepth 20000 in
theorem gX5_attemptFor_X4_firstDueUntil : GoodIn wsX5_attemptFor (wsV RX5 176 RX4 yX4_firstDueUntil wsX4_firstDueUntil) := goodIn_app (goodIn_of _ (by decide +kernel)) ggX5_attemptFor_X4_firstDueUntil
set_option maxRecDepth 20000 in
theorem ggX5_attemptFor_X3_finish : GoodIn wsX5_attemptFor wsX3_finish := goodIn_r _ [47, 48, 49, 50, 51, 52, 53, 54, 55, 56, 57, 58, 59, 60, 61, 62, 63, 9, 64, 11, 14, 15, 16, 17, 18, 19, 20, 21, 22, 23, 24, 25, 26, 27, 28, 29, 30, 31, 32, 33, 34, 35, 36, 65, 66, 67, 68, 69, 70, 71, 72, 73, 74, 75, 76, 77, 78, 79, 80, 81, 82, 83, 84, 85, 86, 87, 88, 89, 90, 91, 92, 93, 94, 95, 96, 97, 98, 99, 100, 101, 102, 103, 104, 105, 106, 107, 108, 109, 110, 111, 112, 113, 114, 115, 116, 117, 118, 119, 120, 121, 122, 123, 124, 125, 126, 166, 167, 168, 169, 170, 171, 172, 173, 174, 175, 176, 177, 178, 179, 180, 181, 190, 191, 192, 193, 194, 195, 196, 197, 198, 182, 183, 184, 185, 186, 187, 188, 189] (by decide +kernel) (by decide +kernel)
set_option maxRecDepth 20000 in
theorem gX5_attemptFor_X3_finish : GoodIn wsX5_attemptFor (wsV RX5 112 RX3 yX3_finish wsX3_finish) := goodIn_app (goodIn_of _ (by decide +kernel)) ggX5_attemptFor_X3_finish
set_option maxRecDepth 20000 in
theorem ggX5_attemptFor_X4_causeToFail : GoodIn wsX5_attemptFor wsX4_causeToFail := goodIn_r _ [130, 131, 132, 133, 134, 135, 136, 182, 183, 184, 185, 186] (by decide +kernel) (by decide +kernel)
set_option maxRecDepth 20000 in
theorem gX5_attemptFor_X4_causeToFail : GoodIn wsX5_attemptFor (wsV RX5 248 RX4 yX4_causeToFail wsX4_causeToFail) := goodIn_app (goodIn_of _ (by decide +kernel)) ggX5_attemptFor_X4_causeToFail
set_option maxRecDepth 20000 in
theorem ggX5_attemptFor_X3_arrive : GoodIn wsX5_attemptFor wsX3_arrive := goodIn_r _ [140, 50, 141, 142, 43, 143, 49, 144, 145, 146, 112, 147, 54, 55, 56, 57, 58, 59, 60, 148, 45, 46, 40, 47, 48, 51, 52, 53, 61, 62, 63, 9, 64, 11, 14, 15, 16, 17, 18, 19, 20, 21, 22, 23, 24, 25, 26, 27, 28, 29, 30, 31, 32, 33, 34, 35, 36, 65, 66, 67, 68, 69, 70, 71, 72, 73, 74, 75, 76, 77, 78, 79, 80, 81, 82, 83, 84, 85, 86, 87, 88, 89, 90, 91, 92, 93, 94, 95, 96, 97, 98, 99, 100, 101, 102, 103, 104, 105, 106, 107, 108, 109, 110, 111, 113, 114, 115, 116, 117, 118, 119, 120, 121, 122, 123, 124, 125, 126, 166, 167, 168, 169, 170, 171, 172, 173, 174, 175, 176, 177, 178, 179, 180, 181, 182, 183, 184, 185, 186, 197, 198, 190, 191, 192, 193, 194, 195, 196, 187, 188, 189] (by decide +kernel) (by decide +kernel)
set_option maxRecDepth 20000 in
theorem gX5_attemptFor_X3_arrive : GoodIn wsX5_attemptFor (wsV RX5 252 RX3 yX3_arrive wsX3_arrive) := goodIn_app (goodIn_of _ (by decide +kernel)) ggX5_attemptFor_X3_arrive
set_option maxRecDepth 20000 in
theorem ggX5_attemptFor_X3_fail : GoodIn wsX5_attemptFor wsX3_fail := goodIn_r _ [152, 153, 143, 43, 49, 154, 155, 156, 157, 158, 159, 160, 124, 98, 125, 161, 97, 99, 54, 55, 56, 57, 58, 59, 60, 166, 167, 168, 169, 170, 171, 172, 173, 174, 175, 176, 177, 178, 179, 180, 181, 197, 198] (by decide +kernel) (by decide +kernel)
set_option maxRecDepth 20000 in
theorem gX5_attemptFor_X3_fail : GoodIn wsX5_attemptFor (wsV RX5 255 RX3 yX3_fail wsX3_fail) := goodIn_app (goodIn_of _ (by decide +kernel)) ggX5_attemptFor_X3_fail
theorem dX5_attemptFor_0 : decode cX5_attemptFor 0 = .ok (.aload_n 1, 1) := by decide +kernel
theorem dX5_attemptFor_1 : decode cX5_attemptFor 1 = .ok (.aload_n 0, 1) := by decide +kernel
theorem dX5_attemptFor_2 : decode cX5_attemptFor 2 = .ok (.getfield 91, 3) := by decide +kernel
theorem dX5_attemptFor_5 : decode cX5_attemptFor 5 = .ok (.invokevirtual 176, 3) := by decide +kernel
theorem dX5_attemptFor_8 : decode cX5_attemptFor 8 = .ok (.astore_n 2, 1) := by decide +kernel
theorem dX5_attemptFor_9 : decode cX5_attemptFor 9 = .ok (.aload_n 2, 1) := by decide +kernel
theorem dX5_attemptFor_10 : decode cX5_attemptFor 10 = .ok (.ifnonnull 5, 3) := by decide +kernel
theorem dX5_attemptFor_13 : decode cX5_attemptFor 13 = .ok (.iconst 0, 1) := by decide +kernel
theorem dX5_attemptFor_14 : decode cX5_attemptFor 14 = .ok (.ireturn, 1) := by decide +kernel
theorem dX5_attemptFor_15 : decode cX5_attemptFor 15 = .ok (.aload_n 2, 1) := by decide +kernel
theorem dX5_attemptFor_16 : decode cX5_attemptFor 16 = .ok (.dup, 1) := by decide +kernel
theorem dX5_attemptFor_17 : decode cX5_attemptFor 17 = .ok (.getfield 143, 3) := by decide +kernel
theorem dX5_attemptFor_20 : decode cX5_attemptFor 20 = .ok (.iconst 1, 1) := by decide +kernel
theorem dX5_attemptFor_21 : decode cX5_attemptFor 21 = .ok (.iadd, 1) := by decide +kernel
theorem dX5_attemptFor_22 : decode cX5_attemptFor 22 = .ok (.putfield 143, 3) := by decide +kernel
theorem dX5_attemptFor_25 : decode cX5_attemptFor 25 = .ok (.aload_n 1, 1) := by decide +kernel
theorem dX5_attemptFor_26 : decode cX5_attemptFor 26 = .ok (.getfield 149, 3) := by decide +kernel
theorem dX5_attemptFor_29 : decode cX5_attemptFor 29 = .ok (.iconst 3, 1) := by decide +kernel
theorem dX5_attemptFor_30 : decode cX5_attemptFor 30 = .ok (.if_icmp .ne 10, 3) := by decide +kernel
theorem dX5_attemptFor_33 : decode cX5_attemptFor 33 = .ok (.aload_n 2, 1) := by decide +kernel
theorem dX5_attemptFor_34 : decode cX5_attemptFor 34 = .ok (.iconst 4, 1) := by decide +kernel
theorem dX5_attemptFor_35 : decode cX5_attemptFor 35 = .ok (.invokevirtual 112, 3) := by decide +kernel
theorem dX5_attemptFor_38 : decode cX5_attemptFor 38 = .ok (.iconst 0, 1) := by decide +kernel
theorem dX5_attemptFor_39 : decode cX5_attemptFor 39 = .ok (.ireturn, 1) := by decide +kernel
theorem dX5_attemptFor_40 : decode cX5_attemptFor 40 = .ok (.aload_n 1, 1) := by decide +kernel
theorem dX5_attemptFor_41 : decode cX5_attemptFor 41 = .ok (.invokevirtual 248, 3) := by decide +kernel
theorem dX5_attemptFor_44 : decode cX5_attemptFor 44 = .ok (.astore_n 3, 1) := by decide +kernel
theorem dX5_attemptFor_45 : decode cX5_attemptFor 45 = .ok (.aload_n 3, 1) := by decide +kernel
theorem dX5_attemptFor_46 : decode cX5_attemptFor 46 = .ok (.ifnonnull 13, 3) := by decide +kernel
theorem dX5_attemptFor_49 : decode cX5_attemptFor 49 = .ok (.aload_n 2, 1) := by decide +kernel
theorem dX5_attemptFor_50 : decode cX5_attemptFor 50 = .ok (.aload_n 0, 1) := by decide +kernel
theorem dX5_attemptFor_51 : decode cX5_attemptFor 51 = .ok (.getfield 91, 3) := by decide +kernel
theorem dX5_attemptFor_54 : decode cX5_attemptFor 54 = .ok (.invokevirtual 252, 3) := by decide +kernel
theorem dX5_attemptFor_57 : decode cX5_attemptFor 57 = .ok (.iconst 1, 1) := by decide +kernel
theorem dX5_attemptFor_58 : decode cX5_attemptFor 58 = .ok (.ireturn, 1) := by decide +kernel
theorem dX5_attemptFor_59 : decode cX5_attemptFor 59 = .ok (.aload_n 2, 1) := by decide +kernel
theorem dX5_attemptFor_60 : decode cX5_attemptFor 60 = .ok (.aload_n 3, 1) := by decide +kernel
theorem dX5_attemptFor_61 : decode cX5_attemptFor 61 = .ok (.aload_n 0, 1) := by decide +kernel
theorem dX5_attemptFor_62 : decode cX5_attemptFor 62 = .ok (.getfield 91, 3) := by decide +kernel
theorem dX5_attemptFor_65 : decode cX5_attemptFor 65 = .ok (.invokevirtual 255, 3) := by decide +kernel
theorem dX5_attemptFor_68 : decode cX5_attemptFor 68 = .ok (.aload_n 1, 1) := by decide +kernel
theorem dX5_attemptFor_69 : decode cX5_attemptFor 69 = .ok (.dup, 1) := by decide +kernel
theorem dX5_attemptFor_70 : decode cX5_attemptFor 70 = .ok (.getfield 172, 3) := by decide +kernel
theorem dX5_attemptFor_73 : decode cX5_attemptFor 73 = .ok (.aload_n 3, 1) := by decide +kernel
theorem dX5_attemptFor_74 : decode cX5_attemptFor 74 = .ok (.getfield 259, 3) := by decide +kernel
theorem dX5_attemptFor_77 : decode cX5_attemptFor 77 = .ok (.ior, 1) := by decide +kernel
theorem dX5_attemptFor_78 : decode cX5_attemptFor 78 = .ok (.putfield 172, 3) := by decide +kernel
theorem dX5_attemptFor_81 : decode cX5_attemptFor 81 = .ok (.iconst 0, 1) := by decide +kernel
theorem dX5_attemptFor_82 : decode cX5_attemptFor 82 = .ok (.ireturn, 1) := by decide +kernel
set_option maxRecDepth 20000 in
theorem ggX5_wakeIfRoomAgain_X4_wakeFrom : GoodIn wsX5_wakeIfRoomAgain wsX4_wakeFrom := goodIn_r _ [8, 9, 10, 11, 12, 13, 14, 15, 16, 17, 18, 19, 20, 21, 22, 23, 24, 25, 26, 27, 28, 29, 30, 31, 32, 33, 34, 35, 36, 37, 38, 39, 40, 41, 42, 43, 44, 49, 50, 51, 52, 53, 54, 55, 56, 57, 58, 59, 60, 61, 62, 63, 64, 65, 66, 67] (by decide +kernel) (by decide +kernel)
set_option maxRecDepth 20000 in
theorem gX5_wakeIfRoomAgain_X4_wakeFrom : GoodIn wsX5_wakeIfRoomAgain (wsV RX5 152 RX4 yX4_wakeFrom wsX4_wakeFrom) := goodIn_app (goodIn_of _ (by decide +kernel)) ggX5_wakeIfRoomAgain_X4_wakeFrom
theorem dX5_wakeIfRoomAgain_0 : decode cX5_wakeIfRoomAgain 0 = .ok (.aload_n 1, 1) := by decide +kernel
theorem dX5_wakeIfRoomAgain_1 : decode cX5_wakeIfRoomAgain 1 = .ok (.getfield 163, 3) := by decide +kernel
theorem dX5_wakeIfRoomAgain_4 : decode cX5_wakeIfRoomAgain 4 = .ok (.aload_n 1, 1) := by decide +kernel
theorem dX5_wakeIfRoomAgain_5 : decode cX5_wakeIfRoomAgain 5 = .ok (.getfield 156, 3) := by decide +kernel
theorem dX5_wakeIfRoomAgain_8 : decode cX5_wakeIfRoomAgain 8 = .ok (.if_icmp .ge 12, 3) := by decide +kernel
theorem dX5_wakeIfRoomAgain_11 : decode cX5_wakeIfRoomAgain 11 = .ok (.aload_n 1, 1) := by decide +kernel
theorem dX5_wakeIfRoomAgain_12 : decode cX5_wakeIfRoomAgain 12 = .ok (.iconst 2, 1) := by decide +kernel
theorem dX5_wakeIfRoomAgain_13 : decode cX5_wakeIfRoomAgain 13 = .ok (.aload_n 0, 1) := by decide +kernel
theorem dX5_wakeIfRoomAgain_14 : decode cX5_wakeIfRoomAgain 14 = .ok (.getfield 91, 3) := by decide +kernel
theorem dX5_wakeIfRoomAgain_17 : decode cX5_wakeIfRoomAgain 17 = .ok (.invokevirtual 152, 3) := by decide +kernel
theorem dX5_wakeIfRoomAgain_20 : decode cX5_wakeIfRoomAgain 20 = .ok (.return_, 1) := by decide +kernel
theorem dX6_init_0 : decode cX6_init 0 = .ok (.aload_n 0, 1) := by decide +kernel
theorem dX6_init_1 : decode cX6_init 1 = .ok (.invokespecial 1, 3) := by decide +kernel
theorem dX6_init_4 : decode cX6_init 4 = .ok (.aload_n 0, 1) := by decide +kernel
theorem dX6_init_5 : decode cX6_init 5 = .ok (.iconst 4, 1) := by decide +kernel
theorem dX6_init_6 : decode cX6_init 6 = .ok (.newarray .int, 2) := by decide +kernel
theorem dX6_init_8 : decode cX6_init 8 = .ok (.putfield 7, 3) := by decide +kernel
theorem dX6_init_11 : decode cX6_init 11 = .ok (.aload_n 0, 1) := by decide +kernel
theorem dX6_init_12 : decode cX6_init 12 = .ok (.iconst 4, 1) := by decide +kernel
theorem dX6_init_13 : decode cX6_init 13 = .ok (.newarray .int, 2) := by decide +kernel
theorem dX6_init_15 : decode cX6_init 15 = .ok (.putfield 13, 3) := by decide +kernel
theorem dX6_init_18 : decode cX6_init 18 = .ok (.aload_n 0, 1) := by decide +kernel
theorem dX6_init_19 : decode cX6_init 19 = .ok (.iconst 4, 1) := by decide +kernel
theorem dX6_init_20 : decode cX6_init 20 = .ok (.newarray .boolean, 2) := by decide +kernel
theorem dX6_init_22 : decode cX6_init 22 = .ok (.putfield 16, 3) := by decide +kernel
theorem dX6_init_25 : decode cX6_init 25 = .ok (.aload_n 0, 1) := by decide +kernel
theorem dX6_init_26 : decode cX6_init 26 = .ok (.iconst 4, 1) := by decide +kernel
theorem dX6_init_27 : decode cX6_init 27 = .ok (.newarray .int, 2) := by decide +kernel
theorem dX6_init_29 : decode cX6_init 29 = .ok (.putfield 20, 3) := by decide +kernel
theorem dX6_init_32 : decode cX6_init 32 = .ok (.aload_n 0, 1) := by decide +kernel
theorem dX6_init_33 : decode cX6_init 33 = .ok (.iconst 4, 1) := by decide +kernel
theorem dX6_init_34 : decode cX6_init 34 = .ok (.newarray .int, 2) := by decide +kernel
theorem dX6_init_36 : decode cX6_init 36 = .ok (.putfield 23, 3) := by decide +kernel
theorem dX6_init_39 : decode cX6_init 39 = .ok (.aload_n 0, 1) := by decide +kernel
theorem dX6_init_40 : decode cX6_init 40 = .ok (.iconst 4, 1) := by decide +kernel
theorem dX6_init_41 : decode cX6_init 41 = .ok (.newarray .boolean, 2) := by decide +kernel
theorem dX6_init_43 : decode cX6_init 43 = .ok (.putfield 26, 3) := by decide +kernel
theorem dX6_init_46 : decode cX6_init 46 = .ok (.aload_n 0, 1) := by decide +kernel
theorem dX6_init_47 : decode cX6_init 47 = .ok (.iconst 4, 1) := by decide +kernel
theorem dX6_init_48 : decode cX6_init 48 = .ok (.newarray .int, 2) := by decide +kernel
theorem dX6_init_50 : decode cX6_init 50 = .ok (.putfield 29, 3) := by decide +kernel
theorem dX6_init_53 : decode cX6_init 53 = .ok (.aload_n 0, 1) := by decide +kernel
theorem dX6_init_54 : decode cX6_init 54 = .ok (.iconst 4, 1) := by decide +kernel
theorem dX6_init_55 : decode cX6_init 55 = .ok (.newarray .int, 2) := by decide +kernel
theorem dX6_init_57 : decode cX6_init 57 = .ok (.putfield 32, 3) := by decide +kernel
theorem dX6_init_60 : decode cX6_init 60 = .ok (.aload_n 0, 1) := by decide +kernel
theorem dX6_init_61 : decode cX6_init 61 = .ok (.iconst 4, 1) := by decide +kernel
theorem dX6_init_62 : decode cX6_init 62 = .ok (.newarray .int, 2) := by decide +kernel
theorem dX6_init_64 : decode cX6_init 64 = .ok (.putfield 35, 3) := by decide +kernel
theorem dX6_init_67 : decode cX6_init 67 = .ok (.aload_n 0, 1) := by decide +kernel
theorem dX6_init_68 : decode cX6_init 68 = .ok (.sipush 160, 3) := by decide +kernel
theorem dX6_init_71 : decode cX6_init 71 = .ok (.newarray .int, 2) := by decide +kernel
theorem dX6_init_73 : decode cX6_init 73 = .ok (.putfield 38, 3) := by decide +kernel
theorem dX6_init_76 : decode cX6_init 76 = .ok (.aload_n 0, 1) := by decide +kernel
theorem dX6_init_77 : decode cX6_init 77 = .ok (.bipush 40, 2) := by decide +kernel
theorem dX6_init_79 : decode cX6_init 79 = .ok (.newarray .int, 2) := by decide +kernel
theorem dX6_init_81 : decode cX6_init 81 = .ok (.putfield 41, 3) := by decide +kernel
theorem dX6_init_84 : decode cX6_init 84 = .ok (.aload_n 0, 1) := by decide +kernel
theorem dX6_init_85 : decode cX6_init 85 = .ok (.bipush 40, 2) := by decide +kernel
theorem dX6_init_87 : decode cX6_init 87 = .ok (.newarray .int, 2) := by decide +kernel
theorem dX6_init_89 : decode cX6_init 89 = .ok (.putfield 44, 3) := by decide +kernel
theorem dX6_init_92 : decode cX6_init 92 = .ok (.aload_n 0, 1) := by decide +kernel
theorem dX6_init_93 : decode cX6_init 93 = .ok (.bipush 40, 2) := by decide +kernel
theorem dX6_init_95 : decode cX6_init 95 = .ok (.newarray .int, 2) := by decide +kernel
theorem dX6_init_97 : decode cX6_init 97 = .ok (.putfield 47, 3) := by decide +kernel
theorem dX6_init_100 : decode cX6_init 100 = .ok (.aload_n 0, 1) := by decide +kernel
theorem dX6_init_101 : decode cX6_init 101 = .ok (.bipush 40, 2) := by decide +kernel
theorem dX6_init_103 : decode cX6_init 103 = .ok (.newarray .int, 2) := by decide +kernel
theorem dX6_init_105 : decode cX6_init 105 = .ok (.putfield 50, 3) := by decide +kernel
theorem dX6_init_108 : decode cX6_init 108 = .ok (.aload_n 0, 1) := by decide +kernel
theorem dX6_init_109 : decode cX6_init 109 = .ok (.bipush 40, 2) := by decide +kernel
theorem dX6_init_111 : decode cX6_init 111 = .ok (.newarray .int, 2) := by decide +kernel
theorem dX6_init_113 : decode cX6_init 113 = .ok (.putfield 53, 3) := by decide +kernel
theorem dX6_init_116 : decode cX6_init 116 = .ok (.aload_n 0, 1) := by decide +kernel
theorem dX6_init_117 : decode cX6_init 117 = .ok (.bipush 40, 2) := by decide +kernel
theorem dX6_init_119 : decode cX6_init 119 = .ok (.newarray .int, 2) := by decide +kernel
theorem dX6_init_121 : decode cX6_init 121 = .ok (.putfield 56, 3) := by decide +kernel
theorem dX6_init_124 : decode cX6_init 124 = .ok (.aload_n 0, 1) := by decide +kernel
theorem dX6_init_125 : decode cX6_init 125 = .ok (.bipush 40, 2) := by decide +kernel
theorem dX6_init_127 : decode cX6_init 127 = .ok (.newarray .int, 2) := by decide +kernel
theorem dX6_init_129 : decode cX6_init 129 = .ok (.putfield 59, 3) := by decide +kernel
theorem dX6_init_132 : decode cX6_init 132 = .ok (.aload_n 0, 1) := by decide +kernel
theorem dX6_init_133 : decode cX6_init 133 = .ok (.bipush 40, 2) := by decide +kernel
theorem dX6_init_135 : decode cX6_init 135 = .ok (.newarray .boolean, 2) := by decide +kernel
theorem dX6_init_137 : decode cX6_init 137 = .ok (.putfield 62, 3) := by decide +kernel
theorem dX6_init_140 : decode cX6_init 140 = .ok (.aload_n 0, 1) := by decide +kernel
theorem dX6_init_141 : decode cX6_init 141 = .ok (.bipush 40, 2) := by decide +kernel
theorem dX6_init_143 : decode cX6_init 143 = .ok (.newarray .int, 2) := by decide +kernel
theorem dX6_init_145 : decode cX6_init 145 = .ok (.putfield 65, 3) := by decide +kernel
theorem dX6_init_148 : decode cX6_init 148 = .ok (.aload_n 0, 1) := by decide +kernel
theorem dX6_init_149 : decode cX6_init 149 = .ok (.bipush 40, 2) := by decide +kernel
theorem dX6_init_151 : decode cX6_init 151 = .ok (.newarray .int, 2) := by decide +kernel
theorem dX6_init_153 : decode cX6_init 153 = .ok (.putfield 68, 3) := by decide +kernel
theorem dX6_init_156 : decode cX6_init 156 = .ok (.aload_n 0, 1) := by decide +kernel
theorem dX6_init_157 : decode cX6_init 157 = .ok (.bipush 40, 2) := by decide +kernel
theorem dX6_init_159 : decode cX6_init 159 = .ok (.newarray .boolean, 2) := by decide +kernel
theorem dX6_init_161 : decode cX6_init 161 = .ok (.putfield 71, 3) := by decide +kernel
theorem dX6_init_164 : decode cX6_init 164 = .ok (.aload_n 0, 1) := by decide +kernel
theorem dX6_init_165 : decode cX6_init 165 = .ok (.bipush 40, 2) := by decide +kernel
theorem dX6_init_167 : decode cX6_init 167 = .ok (.newarray .int, 2) := by decide +kernel
theorem dX6_init_169 : decode cX6_init 169 = .ok (.putfield 74, 3) := by decide +kernel
theorem dX6_init_172 : decode cX6_init 172 = .ok (.aload_n 0, 1) := by decide +kernel
theorem dX6_init_173 : decode cX6_init 173 = .ok (.bipush 40, 2) := by decide +kernel
theorem dX6_init_175 : decode cX6_init 175 = .ok (.newarray .int, 2) := by decide +kernel
theorem dX6_init_177 : decode cX6_init 177 = .ok (.putfield 77, 3) := by decide +kernel
theorem dX6_init_180 : decode cX6_init 180 = .ok (.aload_n 0, 1) := by decide +kernel
theorem dX6_init_181 : decode cX6_init 181 = .ok (.bipush 40, 2) := by decide +kernel
theorem dX6_init_183 : decode cX6_init 183 = .ok (.newarray .int, 2) := by decide +kernel
theorem dX6_init_185 : decode cX6_init 185 = .ok (.putfield 80, 3) := by decide +kernel
theorem dX6_init_188 : decode cX6_init 188 = .ok (.aload_n 0, 1) := by decide +kernel
theorem dX6_init_189 : decode cX6_init 189 = .ok (.bipush 40, 2) := by decide +kernel
theorem dX6_init_191 : decode cX6_init 191 = .ok (.newarray .int, 2) := by decide +kernel
theorem dX6_init_193 : decode cX6_init 193 = .ok (.putfield 83, 3) := by decide +kernel
theorem dX6_init_196 : decode cX6_init 196 = .ok (.aload_n 0, 1) := by decide +kernel
theorem dX6_init_197 : decode cX6_init 197 = .ok (.bipush 120, 2) := by decide +kernel
theorem dX6_init_199 : decode cX6_init 199 = .ok (.newarray .int, 2) := by decide +kernel
theorem dX6_init_201 : decode cX6_init 201 = .ok (.putfield 86, 3) := by decide +kernel
theorem dX6_init_204 : decode cX6_init 204 = .ok (.aload_n 0, 1) := by decide +kernel
theorem dX6_init_205 : decode cX6_init 205 = .ok (.bipush 6, 2) := by decide +kernel
theorem dX6_init_207 : decode cX6_init 207 = .ok (.newarray .int, 2) := by decide +kernel
theorem dX6_init_209 : decode cX6_init 209 = .ok (.putfield 89, 3) := by decide +kernel
theorem dX6_init_212 : decode cX6_init 212 = .ok (.aload_n 0, 1) := by decide +kernel
theorem dX6_init_213 : decode cX6_init 213 = .ok (.bipush 6, 2) := by decide +kernel
theorem dX6_init_215 : decode cX6_init 215 = .ok (.newarray .int, 2) := by decide +kernel
theorem dX6_init_217 : decode cX6_init 217 = .ok (.putfield 92, 3) := by decide +kernel
theorem dX6_init_220 : decode cX6_init 220 = .ok (.aload_n 0, 1) := by decide +kernel
theorem dX6_init_221 : decode cX6_init 221 = .ok (.bipush 6, 2) := by decide +kernel
theorem dX6_init_223 : decode cX6_init 223 = .ok (.newarray .int, 2) := by decide +kernel
theorem dX6_init_225 : decode cX6_init 225 = .ok (.putfield 95, 3) := by decide +kernel
theorem dX6_init_228 : decode cX6_init 228 = .ok (.aload_n 0, 1) := by decide +kernel
theorem dX6_init_229 : decode cX6_init 229 = .ok (.bipush 6, 2) := by decide +kernel
theorem dX6_init_231 : decode cX6_init 231 = .ok (.newarray .int, 2) := by decide +kernel
theorem dX6_init_233 : decode cX6_init 233 = .ok (.putfield 98, 3) := by decide +kernel
theorem dX6_init_236 : decode cX6_init 236 = .ok (.iconst 0, 1) := by decide +kernel
theorem dX6_init_237 : decode cX6_init 237 = .ok (.istore_n 1, 1) := by decide +kernel
theorem dX6_init_238 : decode cX6_init 238 = .ok (.iload_n 1, 1) := by decide +kernel
theorem dX6_init_239 : decode cX6_init 239 = .ok (.iconst 4, 1) := by decide +kernel
theorem dX6_init_240 : decode cX6_init 240 = .ok (.if_icmp .ge 39, 3) := by decide +kernel
theorem dX6_init_243 : decode cX6_init 243 = .ok (.aload_n 0, 1) := by decide +kernel
theorem dX6_init_244 : decode cX6_init 244 = .ok (.getfield 7, 3) := by decide +kernel
theorem dX6_init_247 : decode cX6_init 247 = .ok (.iload_n 1, 1) := by decide +kernel
theorem dX6_init_248 : decode cX6_init 248 = .ok (.iconst 1, 1) := by decide +kernel
theorem dX6_init_249 : decode cX6_init 249 = .ok (.iastore, 1) := by decide +kernel
theorem dX6_init_250 : decode cX6_init 250 = .ok (.aload_n 0, 1) := by decide +kernel
theorem dX6_init_251 : decode cX6_init 251 = .ok (.getfield 23, 3) := by decide +kernel
theorem dX6_init_254 : decode cX6_init 254 = .ok (.iload_n 1, 1) := by decide +kernel
theorem dX6_init_255 : decode cX6_init 255 = .ok (.iconst (-1), 1) := by decide +kernel
theorem dX6_init_256 : decode cX6_init 256 = .ok (.iastore, 1) := by decide +kernel
theorem dX6_init_257 : decode cX6_init 257 = .ok (.aload_n 0, 1) := by decide +kernel
theorem dX6_init_258 : decode cX6_init 258 = .ok (.getfield 29, 3) := by decide +kernel
theorem dX6_init_261 : decode cX6_init 261 = .ok (.iload_n 1, 1) := by decide +kernel
theorem dX6_init_262 : decode cX6_init 262 = .ok (.bipush 20, 2) := by decide +kernel
theorem dX6_init_264 : decode cX6_init 264 = .ok (.iastore, 1) := by decide +kernel
theorem dX6_init_265 : decode cX6_init 265 = .ok (.aload_n 0, 1) := by decide +kernel
theorem dX6_init_266 : decode cX6_init 266 = .ok (.getfield 32, 3) := by decide +kernel
theorem dX6_init_269 : decode cX6_init 269 = .ok (.iload_n 1, 1) := by decide +kernel
theorem dX6_init_270 : decode cX6_init 270 = .ok (.bipush 10, 2) := by decide +kernel
theorem dX6_init_272 : decode cX6_init 272 = .ok (.iastore, 1) := by decide +kernel
theorem dX6_init_273 : decode cX6_init 273 = .ok (.iinc 1 1, 3) := by decide +kernel
theorem dX6_init_276 : decode cX6_init 276 = .ok (.goto (-38), 3) := by decide +kernel
theorem dX6_init_279 : decode cX6_init 279 = .ok (.iconst 0, 1) := by decide +kernel
theorem dX6_init_280 : decode cX6_init 280 = .ok (.istore_n 1, 1) := by decide +kernel
theorem dX6_init_281 : decode cX6_init 281 = .ok (.iload_n 1, 1) := by decide +kernel
theorem dX6_init_282 : decode cX6_init 282 = .ok (.bipush 6, 2) := by decide +kernel
theorem dX6_init_284 : decode cX6_init 284 = .ok (.if_icmp .ge 17, 3) := by decide +kernel
theorem dX6_init_287 : decode cX6_init 287 = .ok (.aload_n 0, 1) := by decide +kernel
theorem dX6_init_288 : decode cX6_init 288 = .ok (.getfield 92, 3) := by decide +kernel
theorem dX6_init_291 : decode cX6_init 291 = .ok (.iload_n 1, 1) := by decide +kernel
theorem dX6_init_292 : decode cX6_init 292 = .ok (.bipush 10, 2) := by decide +kernel
theorem dX6_init_294 : decode cX6_init 294 = .ok (.iastore, 1) := by decide +kernel
theorem dX6_init_295 : decode cX6_init 295 = .ok (.iinc 1 1, 3) := by decide +kernel
theorem dX6_init_298 : decode cX6_init 298 = .ok (.goto (-17), 3) := by decide +kernel
theorem dX6_init_301 : decode cX6_init 301 = .ok (.return_, 1) := by decide +kernel
theorem dX6_thrown_0 : decode cX6_thrown 0 = .ok (.aload_n 0, 1) := by decide +kernel
theorem dX6_thrown_1 : decode cX6_thrown 1 = .ok (.getfield 101, 3) := by decide +kernel
theorem dX6_thrown_4 : decode cX6_thrown 4 = .ok (.ireturn, 1) := by decide +kernel
theorem dX6_fails_0 : decode cX6_fails 0 = .ok (.aload_n 0, 1) := by decide +kernel
theorem dX6_fails_1 : decode cX6_fails 1 = .ok (.iload_n 1, 1) := by decide +kernel
theorem dX6_fails_2 : decode cX6_fails 2 = .ok (.putfield 101, 3) := by decide +kernel
theorem dX6_fails_5 : decode cX6_fails 5 = .ok (.iload_n 1, 1) := by decide +kernel
theorem dX6_fails_6 : decode cX6_fails 6 = .ok (.ifCond .le 7, 3) := by decide +kernel
theorem dX6_fails_9 : decode cX6_fails 9 = .ok (.iconst 1, 1) := by decide +kernel
theorem dX6_fails_10 : decode cX6_fails 10 = .ok (.goto 4, 3) := by decide +kernel
theorem dX6_fails_13 : decode cX6_fails 13 = .ok (.iconst 0, 1) := by decide +kernel
theorem dX6_fails_14 : decode cX6_fails 14 = .ok (.ireturn, 1) := by decide +kernel
theorem dX6_tells_0 : decode cX6_tells 0 = .ok (.aload_n 0, 1) := by decide +kernel
theorem dX6_tells_1 : decode cX6_tells 1 = .ok (.iconst 0, 1) := by decide +kernel
theorem dX6_tells_2 : decode cX6_tells 2 = .ok (.putfield 101, 3) := by decide +kernel
theorem dX6_tells_5 : decode cX6_tells 5 = .ok (.iload_n 1, 1) := by decide +kernel
theorem dX6_tells_6 : decode cX6_tells 6 = .ok (.ireturn, 1) := by decide +kernel
theorem dX6_isIn_0 : decode cX6_isIn 0 = .ok (.iload_n 0, 1) := by decide +kernel
theorem dX6_isIn_1 : decode cX6_isIn 1 = .ok (.iload_n 1, 1) := by decide +kernel
theorem dX6_isIn_2 : decode cX6_isIn 2 = .ok (.if_icmp .lt 12, 3) := by decide +kernel
theorem dX6_isIn_5 : decode cX6_isIn 5 = .ok (.iload_n 0, 1) := by decide +kernel
theorem dX6_isIn_6 : decode cX6_isIn 6 = .ok (.iload_n 2, 1) := by decide +kernel
theorem dX6_isIn_7 : decode cX6_isIn 7 = .ok (.if_icmp .gt 7, 3) := by decide +kernel
theorem dX6_isIn_10 : decode cX6_isIn 10 = .ok (.iconst 1, 1) := by decide +kernel
theorem dX6_isIn_11 : decode cX6_isIn 11 = .ok (.goto 4, 3) := by decide +kernel
theorem dX6_isIn_14 : decode cX6_isIn 14 = .ok (.iconst 0, 1) := by decide +kernel
theorem dX6_isIn_15 : decode cX6_isIn 15 = .ok (.ireturn, 1) := by decide +kernel
set_option maxRecDepth 20000 in
theorem ggX6_isAccount_X6_isIn : GoodIn wsX6_isAccount wsX6_isIn := goodIn_r _ [4] (by decide +kernel) (by decide +kernel)
set_option maxRecDepth 20000 in
theorem gX6_isAccount_X6_isIn : GoodIn wsX6_isAccount (va_wsS RX6 105 yX6_isIn wsX6_isIn) := goodIn_app (goodIn_of _ (by decide +kernel)) ggX6_isAccount_X6_isIn
theorem dX6_isAccount_0 : decode cX6_isAccount 0 = .ok (.iload_n 0, 1) := by decide +kernel
theorem dX6_isAccount_1 : decode cX6_isAccount 1 = .ok (.iconst 0, 1) := by decide +kernel
theorem dX6_isAccount_2 : decode cX6_isAccount 2 = .ok (.iconst 3, 1) := by decide +kernel
theorem dX6_isAccount_3 : decode cX6_isAccount 3 = .ok (.invokestatic 105, 3) := by decide +kernel
theorem dX6_isAccount_6 : decode cX6_isAccount 6 = .ok (.ireturn, 1) := by decide +kernel
set_option maxRecDepth 20000 in
theorem ggX6_isRecipient_X6_isIn : GoodIn wsX6_isRecipient wsX6_isIn := goodIn_r _ [4] (by decide +kernel) (by decide +kernel)
set_option maxRecDepth 20000 in
theorem gX6_isRecipient_X6_isIn : GoodIn wsX6_isRecipient (va_wsS RX6 105 yX6_isIn wsX6_isIn) := goodIn_app (goodIn_of _ (by decide +kernel)) ggX6_isRecipient_X6_isIn
theorem dX6_isRecipient_0 : decode cX6_isRecipient 0 = .ok (.iload_n 0, 1) := by decide +kernel
theorem dX6_isRecipient_1 : decode cX6_isRecipient 1 = .ok (.iconst 0, 1) := by decide +kernel
theorem dX6_isRecipient_2 : decode cX6_isRecipient 2 = .ok (.iconst 5, 1) := by decide +kernel
theorem dX6_isRecipient_3 : decode cX6_isRecipient 3 = .ok (.invokestatic 105, 3) := by decide +kernel
theorem dX6_isRecipient_6 : decode cX6_isRecipient 6 = .ok (.ireturn, 1) := by decide +kernel
theorem dX6_lettersOf_0 : decode cX6_lettersOf 0 = .ok (.iload_n 2, 1) := by decide +kernel
theorem dX6_lettersOf_1 : decode cX6_lettersOf 1 = .ok (.ifCond .eq 7, 3) := by decide +kernel
theorem dX6_lettersOf_4 : decode cX6_lettersOf 4 = .ok (.iload_n 0, 1) := by decide +kernel
theorem dX6_lettersOf_5 : decode cX6_lettersOf 5 = .ok (.goto 16, 3) := by decide +kernel
theorem dX6_lettersOf_8 : decode cX6_lettersOf 8 = .ok (.iload_n 0, 1) := by decide +kernel
theorem dX6_lettersOf_9 : decode cX6_lettersOf 9 = .ok (.iload_n 1, 1) := by decide +kernel
theorem dX6_lettersOf_10 : decode cX6_lettersOf 10 = .ok (.ifCond .ne 7, 3) := by decide +kernel
theorem dX6_lettersOf_13 : decode cX6_lettersOf 13 = .ok (.iconst 0, 1) := by decide +kernel
theorem dX6_lettersOf_14 : decode cX6_lettersOf 14 = .ok (.goto 6, 3) := by decide +kernel
theorem dX6_lettersOf_17 : decode cX6_lettersOf 17 = .ok (.iload_n 0, 1) := by decide +kernel
theorem dX6_lettersOf_18 : decode cX6_lettersOf 18 = .ok (.iload_n 1, 1) := by decide +kernel
theorem dX6_lettersOf_19 : decode cX6_lettersOf 19 = .ok (.idiv, 1) := by decide +kernel
theorem dX6_lettersOf_20 : decode cX6_lettersOf 20 = .ok (.iadd, 1) := by decide +kernel
theorem dX6_lettersOf_21 : decode cX6_lettersOf 21 = .ok (.istore 4, 2) := by decide +kernel
theorem dX6_lettersOf_23 : decode cX6_lettersOf 23 = .ok (.iload 4, 2) := by decide +kernel
theorem dX6_lettersOf_25 : decode cX6_lettersOf 25 = .ok (.iload_n 2, 1) := by decide +kernel
theorem dX6_lettersOf_26 : decode cX6_lettersOf 26 = .ok (.ifCond .eq 8, 3) := by decide +kernel
theorem dX6_lettersOf_29 : decode cX6_lettersOf 29 = .ok (.bipush 70, 2) := by decide +kernel
theorem dX6_lettersOf_31 : decode cX6_lettersOf 31 = .ok (.goto 6, 3) := by decide +kernel
theorem dX6_lettersOf_34 : decode cX6_lettersOf 34 = .ok (.sipush 160, 3) := by decide +kernel
theorem dX6_lettersOf_37 : decode cX6_lettersOf 37 = .ok (.if_icmp .gt 13, 3) := by decide +kernel
theorem dX6_lettersOf_40 : decode cX6_lettersOf 40 = .ok (.iload_n 3, 1) := by decide +kernel
theorem dX6_lettersOf_41 : decode cX6_lettersOf 41 = .ok (.ifCond .ne 7, 3) := by decide +kernel
theorem dX6_lettersOf_44 : decode cX6_lettersOf 44 = .ok (.iload_n 0, 1) := by decide +kernel
theorem dX6_lettersOf_45 : decode cX6_lettersOf 45 = .ok (.goto 4, 3) := by decide +kernel
theorem dX6_lettersOf_48 : decode cX6_lettersOf 48 = .ok (.iconst 0, 1) := by decide +kernel
theorem dX6_lettersOf_49 : decode cX6_lettersOf 49 = .ok (.ireturn, 1) := by decide +kernel
theorem dX6_lettersOf_50 : decode cX6_lettersOf 50 = .ok (.iconst 0, 1) := by decide +kernel
theorem dX6_lettersOf_51 : decode cX6_lettersOf 51 = .ok (.istore 5, 2) := by decide +kernel
theorem dX6_lettersOf_53 : decode cX6_lettersOf 53 = .ok (.iconst 0, 1) := by decide +kernel
theorem dX6_lettersOf_54 : decode cX6_lettersOf 54 = .ok (.istore 6, 2) := by decide +kernel
theorem dX6_lettersOf_56 : decode cX6_lettersOf 56 = .ok (.iconst 0, 1) := by decide +kernel
theorem dX6_lettersOf_57 : decode cX6_lettersOf 57 = .ok (.istore 7, 2) := by decide +kernel
theorem dX6_lettersOf_59 : decode cX6_lettersOf 59 = .ok (.iload 7, 2) := by decide +kernel
theorem dX6_lettersOf_61 : decode cX6_lettersOf 61 = .ok (.iload_n 3, 1) := by decide +kernel
theorem dX6_lettersOf_62 : decode cX6_lettersOf 62 = .ok (.if_icmp .gt 101, 3) := by decide +kernel
theorem dX6_lettersOf_65 : decode cX6_lettersOf 65 = .ok (.iconst 0, 1) := by decide +kernel
theorem dX6_lettersOf_66 : decode cX6_lettersOf 66 = .ok (.istore 6, 2) := by decide +kernel
theorem dX6_lettersOf_68 : decode cX6_lettersOf 68 = .ok (.iconst 0, 1) := by decide +kernel
theorem dX6_lettersOf_69 : decode cX6_lettersOf 69 = .ok (.istore 8, 2) := by decide +kernel
theorem dX6_lettersOf_71 : decode cX6_lettersOf 71 = .ok (.iconst 1, 1) := by decide +kernel
theorem dX6_lettersOf_72 : decode cX6_lettersOf 72 = .ok (.istore 9, 2) := by decide +kernel
theorem dX6_lettersOf_74 : decode cX6_lettersOf 74 = .ok (.iload 9, 2) := by decide +kernel
theorem dX6_lettersOf_76 : decode cX6_lettersOf 76 = .ok (.ifCond .eq 81, 3) := by decide +kernel
theorem dX6_lettersOf_79 : decode cX6_lettersOf 79 = .ok (.iload 5, 2) := by decide +kernel
theorem dX6_lettersOf_81 : decode cX6_lettersOf 81 = .ok (.iload_n 0, 1) := by decide +kernel
theorem dX6_lettersOf_82 : decode cX6_lettersOf 82 = .ok (.if_icmp .ge 75, 3) := by decide +kernel
theorem dX6_lettersOf_85 : decode cX6_lettersOf 85 = .ok (.iload_n 2, 1) := by decide +kernel
theorem dX6_lettersOf_86 : decode cX6_lettersOf 86 = .ok (.ifCond .ne 20, 3) := by decide +kernel
theorem dX6_lettersOf_89 : decode cX6_lettersOf 89 = .ok (.iload_n 1, 1) := by decide +kernel
theorem dX6_lettersOf_90 : decode cX6_lettersOf 90 = .ok (.ifCond .le 16, 3) := by decide +kernel
theorem dX6_lettersOf_93 : decode cX6_lettersOf 93 = .ok (.iload 5, 2) := by decide +kernel
theorem dX6_lettersOf_95 : decode cX6_lettersOf 95 = .ok (.iconst 1, 1) := by decide +kernel
theorem dX6_lettersOf_96 : decode cX6_lettersOf 96 = .ok (.iadd, 1) := by decide +kernel
theorem dX6_lettersOf_97 : decode cX6_lettersOf 97 = .ok (.iload_n 1, 1) := by decide +kernel
theorem dX6_lettersOf_98 : decode cX6_lettersOf 98 = .ok (.irem, 1) := by decide +kernel
theorem dX6_lettersOf_99 : decode cX6_lettersOf 99 = .ok (.ifCond .ne 7, 3) := by decide +kernel
theorem dX6_lettersOf_102 : decode cX6_lettersOf 102 = .ok (.iconst 2, 1) := by decide +kernel
theorem dX6_lettersOf_103 : decode cX6_lettersOf 103 = .ok (.goto 4, 3) := by decide +kernel
theorem dX6_lettersOf_106 : decode cX6_lettersOf 106 = .ok (.iconst 1, 1) := by decide +kernel
theorem dX6_lettersOf_107 : decode cX6_lettersOf 107 = .ok (.istore 10, 2) := by decide +kernel
theorem dX6_lettersOf_109 : decode cX6_lettersOf 109 = .ok (.iload 8, 2) := by decide +kernel
theorem dX6_lettersOf_111 : decode cX6_lettersOf 111 = .ok (.iload 10, 2) := by decide +kernel
theorem dX6_lettersOf_113 : decode cX6_lettersOf 113 = .ok (.iadd, 1) := by decide +kernel
theorem dX6_lettersOf_114 : decode cX6_lettersOf 114 = .ok (.iload_n 2, 1) := by decide +kernel
theorem dX6_lettersOf_115 : decode cX6_lettersOf 115 = .ok (.ifCond .eq 8, 3) := by decide +kernel
theorem dX6_lettersOf_118 : decode cX6_lettersOf 118 = .ok (.bipush 67, 2) := by decide +kernel
theorem dX6_lettersOf_120 : decode cX6_lettersOf 120 = .ok (.goto 6, 3) := by decide +kernel
theorem dX6_lettersOf_123 : decode cX6_lettersOf 123 = .ok (.sipush 153, 3) := by decide +kernel
theorem dX6_lettersOf_126 : decode cX6_lettersOf 126 = .ok (.if_icmp .gt 7, 3) := by decide +kernel
theorem dX6_lettersOf_129 : decode cX6_lettersOf 129 = .ok (.iconst 1, 1) := by decide +kernel
theorem dX6_lettersOf_130 : decode cX6_lettersOf 130 = .ok (.goto 4, 3) := by decide +kernel
theorem dX6_lettersOf_133 : decode cX6_lettersOf 133 = .ok (.iconst 0, 1) := by decide +kernel
theorem dX6_lettersOf_134 : decode cX6_lettersOf 134 = .ok (.istore 9, 2) := by decide +kernel
theorem dX6_lettersOf_136 : decode cX6_lettersOf 136 = .ok (.iload 9, 2) := by decide +kernel
theorem dX6_lettersOf_138 : decode cX6_lettersOf 138 = .ok (.ifCond .eq 16, 3) := by decide +kernel
theorem dX6_lettersOf_141 : decode cX6_lettersOf 141 = .ok (.iload 8, 2) := by decide +kernel
theorem dX6_lettersOf_143 : decode cX6_lettersOf 143 = .ok (.iload 10, 2) := by decide +kernel
theorem dX6_lettersOf_145 : decode cX6_lettersOf 145 = .ok (.iadd, 1) := by decide +kernel
theorem dX6_lettersOf_146 : decode cX6_lettersOf 146 = .ok (.istore 8, 2) := by decide +kernel
theorem dX6_lettersOf_148 : decode cX6_lettersOf 148 = .ok (.iinc 5 1, 3) := by decide +kernel
theorem dX6_lettersOf_151 : decode cX6_lettersOf 151 = .ok (.iinc 6 1, 3) := by decide +kernel
theorem dX6_lettersOf_154 : decode cX6_lettersOf 154 = .ok (.goto (-80), 3) := by decide +kernel
theorem dX6_lettersOf_157 : decode cX6_lettersOf 157 = .ok (.iinc 7 1, 3) := by decide +kernel
theorem dX6_lettersOf_160 : decode cX6_lettersOf 160 = .ok (.goto (-101), 3) := by decide +kernel
theorem dX6_lettersOf_163 : decode cX6_lettersOf 163 = .ok (.iload 6, 2) := by decide +kernel
theorem dX6_lettersOf_165 : decode cX6_lettersOf 165 = .ok (.ireturn, 1) := by decide +kernel
set_option maxRecDepth 20000 in
theorem ggX6_partsOf_X6_lettersOf : GoodIn wsX6_partsOf wsX6_lettersOf := goodIn_r _ [4] (by decide +kernel) (by decide +kernel)
set_option maxRecDepth 20000 in
theorem gX6_partsOf_X6_lettersOf : GoodIn wsX6_partsOf (va_wsS RX6 109 yX6_lettersOf wsX6_lettersOf) := goodIn_app (goodIn_of _ (by decide +kernel)) ggX6_partsOf_X6_lettersOf
theorem dX6_partsOf_0 : decode cX6_partsOf 0 = .ok (.iconst 0, 1) := by decide +kernel
theorem dX6_partsOf_1 : decode cX6_partsOf 1 = .ok (.istore_n 3, 1) := by decide +kernel
theorem dX6_partsOf_2 : decode cX6_partsOf 2 = .ok (.iload_n 0, 1) := by decide +kernel
theorem dX6_partsOf_3 : decode cX6_partsOf 3 = .ok (.iload_n 1, 1) := by decide +kernel
theorem dX6_partsOf_4 : decode cX6_partsOf 4 = .ok (.iload_n 2, 1) := by decide +kernel
theorem dX6_partsOf_5 : decode cX6_partsOf 5 = .ok (.iload_n 3, 1) := by decide +kernel
theorem dX6_partsOf_6 : decode cX6_partsOf 6 = .ok (.invokestatic 109, 3) := by decide +kernel
theorem dX6_partsOf_9 : decode cX6_partsOf 9 = .ok (.ifCond .le 9, 3) := by decide +kernel
theorem dX6_partsOf_12 : decode cX6_partsOf 12 = .ok (.iinc 3 1, 3) := by decide +kernel
theorem dX6_partsOf_15 : decode cX6_partsOf 15 = .ok (.goto (-13), 3) := by decide +kernel
theorem dX6_partsOf_18 : decode cX6_partsOf 18 = .ok (.iload_n 3, 1) := by decide +kernel
theorem dX6_partsOf_19 : decode cX6_partsOf 19 = .ok (.ireturn, 1) := by decide +kernel
set_option maxRecDepth 20000 in
theorem ggX6_draft_X6_isIn : GoodIn wsX6_draft wsX6_isIn := goodIn_r _ [7] (by decide +kernel) (by decide +kernel)
set_option maxRecDepth 20000 in
theorem gX6_draft_X6_isIn : GoodIn wsX6_draft (va_wsS RX6 105 yX6_isIn wsX6_isIn) := goodIn_app (goodIn_of _ (by decide +kernel)) ggX6_draft_X6_isIn
set_option maxRecDepth 20000 in
theorem ggX6_draft_X6_isAccount : GoodIn wsX6_draft wsX6_isAccount := goodIn_r _ [10, 4, 5, 6, 7] (by decide +kernel) (by decide +kernel)
set_option maxRecDepth 20000 in
theorem gX6_draft_X6_isAccount : GoodIn wsX6_draft (va_wsS RX6 113 yX6_isAccount wsX6_isAccount) := goodIn_app (goodIn_of _ (by decide +kernel)) ggX6_draft_X6_isAccount
set_option maxRecDepth 20000 in
theorem ggX6_draft_X6_fails : GoodIn wsX6_draft wsX6_fails := goodIn_r _ [14, 15, 22, 23, 24, 25, 26, 27, 28, 29, 30, 31, 32, 33, 34, 35, 36, 37, 38, 39, 40, 41, 42, 43, 44, 45, 46, 47, 48, 49, 50, 51, 52, 53, 54] (by decide +kernel) (by decide +kernel)
set_option maxRecDepth 20000 in
theorem gX6_draft_X6_fails : GoodIn wsX6_draft (wsV RX6 117 RX6 yX6_fails wsX6_fails) := goodIn_app (goodIn_of _ (by decide +kernel)) ggX6_draft_X6_fails
set_option maxRecDepth 20000 in
theorem ggX6_draft_X6_partsOf : GoodIn wsX6_draft wsX6_partsOf := goodIn_r _ [18, 19, 20, 6, 21] (by decide +kernel) (by decide +kernel)
set_option maxRecDepth 20000 in
theorem gX6_draft_X6_partsOf : GoodIn wsX6_draft (va_wsS RX6 120 yX6_partsOf wsX6_partsOf) := goodIn_app (goodIn_of _ (by decide +kernel)) ggX6_draft_X6_partsOf
theorem dX6_draft_0 : decode cX6_draft 0 = .ok (.iload_n 2, 1) := by decide +kernel
theorem dX6_draft_1 : decode cX6_draft 1 = .ok (.iconst 1, 1) := by decide +kernel
theorem dX6_draft_2 : decode cX6_draft 2 = .ok (.sipush 500, 3) := by decide +kernel
theorem dX6_draft_5 : decode cX6_draft 5 = .ok (.invokestatic 105, 3) := by decide +kernel
theorem dX6_draft_8 : decode cX6_draft 8 = .ok (.ifCond .eq 17, 3) := by decide +kernel
theorem dX6_draft_11 : decode cX6_draft 11 = .ok (.iload_n 3, 1) := by decide +kernel
theorem dX6_draft_12 : decode cX6_draft 12 = .ok (.iconst 0, 1) := by decide +kernel
theorem dX6_draft_13 : decode cX6_draft 13 = .ok (.bipush 50, 2) := by decide +kernel
theorem dX6_draft_15 : decode cX6_draft 15 = .ok (.invokestatic 105, 3) := by decide +kernel
theorem dX6_draft_18 : decode cX6_draft 18 = .ok (.ifCond .eq 7, 3) := by decide +kernel
theorem dX6_draft_21 : decode cX6_draft 21 = .ok (.iconst 1, 1) := by decide +kernel
theorem dX6_draft_22 : decode cX6_draft 22 = .ok (.goto 4, 3) := by decide +kernel
theorem dX6_draft_25 : decode cX6_draft 25 = .ok (.iconst 0, 1) := by decide +kernel
theorem dX6_draft_26 : decode cX6_draft 26 = .ok (.istore 5, 2) := by decide +kernel
theorem dX6_draft_28 : decode cX6_draft 28 = .ok (.aload_n 0, 1) := by decide +kernel
theorem dX6_draft_29 : decode cX6_draft 29 = .ok (.iload_n 1, 1) := by decide +kernel
theorem dX6_draft_30 : decode cX6_draft 30 = .ok (.invokestatic 113, 3) := by decide +kernel
theorem dX6_draft_33 : decode cX6_draft 33 = .ok (.ifCond .ne 7, 3) := by decide +kernel
theorem dX6_draft_36 : decode cX6_draft 36 = .ok (.iconst 1, 1) := by decide +kernel
theorem dX6_draft_37 : decode cX6_draft 37 = .ok (.goto 13, 3) := by decide +kernel
theorem dX6_draft_40 : decode cX6_draft 40 = .ok (.iload 5, 2) := by decide +kernel
theorem dX6_draft_42 : decode cX6_draft 42 = .ok (.ifCond .eq 7, 3) := by decide +kernel
theorem dX6_draft_45 : decode cX6_draft 45 = .ok (.iconst 0, 1) := by decide +kernel
theorem dX6_draft_46 : decode cX6_draft 46 = .ok (.goto 4, 3) := by decide +kernel
theorem dX6_draft_49 : decode cX6_draft 49 = .ok (.iconst 2, 1) := by decide +kernel
theorem dX6_draft_50 : decode cX6_draft 50 = .ok (.invokevirtual 117, 3) := by decide +kernel
theorem dX6_draft_53 : decode cX6_draft 53 = .ok (.ifCond .eq 5, 3) := by decide +kernel
theorem dX6_draft_56 : decode cX6_draft 56 = .ok (.iconst 0, 1) := by decide +kernel
theorem dX6_draft_57 : decode cX6_draft 57 = .ok (.ireturn, 1) := by decide +kernel
theorem dX6_draft_58 : decode cX6_draft 58 = .ok (.aload_n 0, 1) := by decide +kernel
theorem dX6_draft_59 : decode cX6_draft 59 = .ok (.getfield 7, 3) := by decide +kernel
theorem dX6_draft_62 : decode cX6_draft 62 = .ok (.iload_n 1, 1) := by decide +kernel
theorem dX6_draft_63 : decode cX6_draft 63 = .ok (.iload_n 2, 1) := by decide +kernel
theorem dX6_draft_64 : decode cX6_draft 64 = .ok (.iastore, 1) := by decide +kernel
theorem dX6_draft_65 : decode cX6_draft 65 = .ok (.aload_n 0, 1) := by decide +kernel
theorem dX6_draft_66 : decode cX6_draft 66 = .ok (.getfield 13, 3) := by decide +kernel
theorem dX6_draft_69 : decode cX6_draft 69 = .ok (.iload_n 1, 1) := by decide +kernel
theorem dX6_draft_70 : decode cX6_draft 70 = .ok (.iload_n 3, 1) := by decide +kernel
theorem dX6_draft_71 : decode cX6_draft 71 = .ok (.iastore, 1) := by decide +kernel
theorem dX6_draft_72 : decode cX6_draft 72 = .ok (.aload_n 0, 1) := by decide +kernel
theorem dX6_draft_73 : decode cX6_draft 73 = .ok (.getfield 16, 3) := by decide +kernel
theorem dX6_draft_76 : decode cX6_draft 76 = .ok (.iload_n 1, 1) := by decide +kernel
theorem dX6_draft_77 : decode cX6_draft 77 = .ok (.iload 4, 2) := by decide +kernel
theorem dX6_draft_79 : decode cX6_draft 79 = .ok (.bastore, 1) := by decide +kernel
theorem dX6_draft_80 : decode cX6_draft 80 = .ok (.iload_n 2, 1) := by decide +kernel
theorem dX6_draft_81 : decode cX6_draft 81 = .ok (.iload_n 3, 1) := by decide +kernel
theorem dX6_draft_82 : decode cX6_draft 82 = .ok (.iload 4, 2) := by decide +kernel
theorem dX6_draft_84 : decode cX6_draft 84 = .ok (.invokestatic 120, 3) := by decide +kernel
theorem dX6_draft_87 : decode cX6_draft 87 = .ok (.ireturn, 1) := by decide +kernel
set_option maxRecDepth 20000 in
theorem ggX6_setOptions_X6_isIn : GoodIn wsX6_setOptions wsX6_isIn := goodIn_r _ [7] (by decide +kernel) (by decide +kernel)
set_option maxRecDepth 20000 in
theorem gX6_setOptions_X6_isIn : GoodIn wsX6_setOptions (va_wsS RX6 105 yX6_isIn wsX6_isIn) := goodIn_app (goodIn_of _ (by decide +kernel)) ggX6_setOptions_X6_isIn
set_option maxRecDepth 20000 in
theorem ggX6_setOptions_X6_isAccount : GoodIn wsX6_setOptions wsX6_isAccount := goodIn_r _ [10, 4, 5, 6, 7] (by decide +kernel) (by decide +kernel)
set_option maxRecDepth 20000 in
theorem gX6_setOptions_X6_isAccount : GoodIn wsX6_setOptions (va_wsS RX6 113 yX6_isAccount wsX6_isAccount) := goodIn_app (goodIn_of _ (by decide +kernel)) ggX6_setOptions_X6_isAccount
set_option maxRecDepth 20000 in
theorem ggX6_setOptions_X6_fails : GoodIn wsX6_setOptions wsX6_fails := goodIn_r _ [14, 15, 16, 17, 18, 19, 20, 21, 22, 23, 24, 25, 26, 27, 28, 29, 30, 31, 32, 33, 34, 35, 36, 37, 38, 39, 40, 41, 42, 43, 44, 45, 46, 47, 48] (by decide +kernel) (by decide +kernel)
set_option maxRecDepth 20000 in
theorem gX6_setOptions_X6_fails : GoodIn wsX6_setOptions (wsV RX6 117 RX6 yX6_fails wsX6_fails) := goodIn_app (goodIn_of _ (by decide +kernel)) ggX6_setOptions_X6_fails
theorem dX6_setOptions_0 : decode cX6_setOptions 0 = .ok (.iload_n 2, 1) := by decide +kernel
theorem dX6_setOptions_1 : decode cX6_setOptions 1 = .ok (.iconst 0, 1) := by decide +kernel
theorem dX6_setOptions_2 : decode cX6_setOptions 2 = .ok (.bipush 7, 2) := by decide +kernel
theorem dX6_setOptions_4 : decode cX6_setOptions 4 = .ok (.invokestatic 105, 3) := by decide +kernel
theorem dX6_setOptions_7 : decode cX6_setOptions 7 = .ok (.ifCond .eq 17, 3) := by decide +kernel
theorem dX6_setOptions_10 : decode cX6_setOptions 10 = .ok (.iload_n 3, 1) := by decide +kernel
theorem dX6_setOptions_11 : decode cX6_setOptions 11 = .ok (.iconst (-1), 1) := by decide +kernel
theorem dX6_setOptions_12 : decode cX6_setOptions 12 = .ok (.bipush 99, 2) := by decide +kernel
theorem dX6_setOptions_14 : decode cX6_setOptions 14 = .ok (.invokestatic 105, 3) := by decide +kernel
theorem dX6_setOptions_17 : decode cX6_setOptions 17 = .ok (.ifCond .eq 7, 3) := by decide +kernel
theorem dX6_setOptions_20 : decode cX6_setOptions 20 = .ok (.iconst 1, 1) := by decide +kernel
theorem dX6_setOptions_21 : decode cX6_setOptions 21 = .ok (.goto 4, 3) := by decide +kernel
theorem dX6_setOptions_24 : decode cX6_setOptions 24 = .ok (.iconst 0, 1) := by decide +kernel
theorem dX6_setOptions_25 : decode cX6_setOptions 25 = .ok (.istore 5, 2) := by decide +kernel
theorem dX6_setOptions_27 : decode cX6_setOptions 27 = .ok (.aload_n 0, 1) := by decide +kernel
theorem dX6_setOptions_28 : decode cX6_setOptions 28 = .ok (.iload_n 1, 1) := by decide +kernel
theorem dX6_setOptions_29 : decode cX6_setOptions 29 = .ok (.invokestatic 113, 3) := by decide +kernel
theorem dX6_setOptions_32 : decode cX6_setOptions 32 = .ok (.ifCond .ne 7, 3) := by decide +kernel
theorem dX6_setOptions_35 : decode cX6_setOptions 35 = .ok (.iconst 1, 1) := by decide +kernel
theorem dX6_setOptions_36 : decode cX6_setOptions 36 = .ok (.goto 13, 3) := by decide +kernel
theorem dX6_setOptions_39 : decode cX6_setOptions 39 = .ok (.iload 5, 2) := by decide +kernel
theorem dX6_setOptions_41 : decode cX6_setOptions 41 = .ok (.ifCond .eq 7, 3) := by decide +kernel
theorem dX6_setOptions_44 : decode cX6_setOptions 44 = .ok (.iconst 0, 1) := by decide +kernel
theorem dX6_setOptions_45 : decode cX6_setOptions 45 = .ok (.goto 4, 3) := by decide +kernel
theorem dX6_setOptions_48 : decode cX6_setOptions 48 = .ok (.iconst 2, 1) := by decide +kernel
theorem dX6_setOptions_49 : decode cX6_setOptions 49 = .ok (.invokevirtual 117, 3) := by decide +kernel
theorem dX6_setOptions_52 : decode cX6_setOptions 52 = .ok (.ifCond .ne 25, 3) := by decide +kernel
theorem dX6_setOptions_55 : decode cX6_setOptions 55 = .ok (.aload_n 0, 1) := by decide +kernel
theorem dX6_setOptions_56 : decode cX6_setOptions 56 = .ok (.getfield 20, 3) := by decide +kernel
theorem dX6_setOptions_59 : decode cX6_setOptions 59 = .ok (.iload_n 1, 1) := by decide +kernel
theorem dX6_setOptions_60 : decode cX6_setOptions 60 = .ok (.iload_n 2, 1) := by decide +kernel
theorem dX6_setOptions_61 : decode cX6_setOptions 61 = .ok (.iastore, 1) := by decide +kernel
theorem dX6_setOptions_62 : decode cX6_setOptions 62 = .ok (.aload_n 0, 1) := by decide +kernel
theorem dX6_setOptions_63 : decode cX6_setOptions 63 = .ok (.getfield 23, 3) := by decide +kernel
theorem dX6_setOptions_66 : decode cX6_setOptions 66 = .ok (.iload_n 1, 1) := by decide +kernel
theorem dX6_setOptions_67 : decode cX6_setOptions 67 = .ok (.iload_n 3, 1) := by decide +kernel
theorem dX6_setOptions_68 : decode cX6_setOptions 68 = .ok (.iastore, 1) := by decide +kernel
theorem dX6_setOptions_69 : decode cX6_setOptions 69 = .ok (.aload_n 0, 1) := by decide +kernel
theorem dX6_setOptions_70 : decode cX6_setOptions 70 = .ok (.getfield 26, 3) := by decide +kernel
theorem dX6_setOptions_73 : decode cX6_setOptions 73 = .ok (.iload_n 1, 1) := by decide +kernel
theorem dX6_setOptions_74 : decode cX6_setOptions 74 = .ok (.iload 4, 2) := by decide +kernel
theorem dX6_setOptions_76 : decode cX6_setOptions 76 = .ok (.bastore, 1) := by decide +kernel
theorem dX6_setOptions_77 : decode cX6_setOptions 77 = .ok (.return_, 1) := by decide +kernel
set_option maxRecDepth 20000 in
theorem ggX6_setRate_X6_isIn : GoodIn wsX6_setRate wsX6_isIn := goodIn_r _ [6] (by decide +kernel) (by decide +kernel)
set_option maxRecDepth 20000 in
theorem gX6_setRate_X6_isIn : GoodIn wsX6_setRate (va_wsS RX6 105 yX6_isIn wsX6_isIn) := goodIn_app (goodIn_of _ (by decide +kernel)) ggX6_setRate_X6_isIn
set_option maxRecDepth 20000 in
theorem ggX6_setRate_X6_isAccount : GoodIn wsX6_setRate wsX6_isAccount := goodIn_r _ [9, 3, 4, 5, 6] (by decide +kernel) (by decide +kernel)
set_option maxRecDepth 20000 in
theorem gX6_setRate_X6_isAccount : GoodIn wsX6_setRate (va_wsS RX6 113 yX6_isAccount wsX6_isAccount) := goodIn_app (goodIn_of _ (by decide +kernel)) ggX6_setRate_X6_isAccount
set_option maxRecDepth 20000 in
theorem ggX6_setRate_X6_fails : GoodIn wsX6_setRate wsX6_fails := goodIn_r _ [13, 14, 15, 16, 17, 18, 19, 20, 21, 22, 23, 24, 25, 26, 27, 28, 29, 30, 31, 32, 33, 34, 35, 36, 37, 38, 39, 40, 41, 42, 43, 44, 45, 46, 47] (by decide +kernel) (by decide +kernel)
set_option maxRecDepth 20000 in
theorem gX6_setRate_X6_fails : GoodIn wsX6_setRate (wsV RX6 117 RX6 yX6_fails wsX6_fails) := goodIn_app (goodIn_of _ (by decide +kernel)) ggX6_setRate_X6_fails
theorem dX6_setRate_0 : decode cX6_setRate 0 = .ok (.iload_n 2, 1) := by decide +kernel
theorem dX6_setRate_1 : decode cX6_setRate 1 = .ok (.iconst 0, 1) := by decide +kernel
theorem dX6_setRate_2 : decode cX6_setRate 2 = .ok (.bipush 40, 2) := by decide +kernel
theorem dX6_setRate_4 : decode cX6_setRate 4 = .ok (.invokestatic 105, 3) := by decide +kernel
theorem dX6_setRate_7 : decode cX6_setRate 7 = .ok (.ifCond .eq 18, 3) := by decide +kernel
theorem dX6_setRate_10 : decode cX6_setRate 10 = .ok (.iload_n 3, 1) := by decide +kernel
theorem dX6_setRate_11 : decode cX6_setRate 11 = .ok (.iconst 1, 1) := by decide +kernel
theorem dX6_setRate_12 : decode cX6_setRate 12 = .ok (.sipush 200, 3) := by decide +kernel
theorem dX6_setRate_15 : decode cX6_setRate 15 = .ok (.invokestatic 105, 3) := by decide +kernel
theorem dX6_setRate_18 : decode cX6_setRate 18 = .ok (.ifCond .eq 7, 3) := by decide +kernel
theorem dX6_setRate_21 : decode cX6_setRate 21 = .ok (.iconst 1, 1) := by decide +kernel
theorem dX6_setRate_22 : decode cX6_setRate 22 = .ok (.goto 4, 3) := by decide +kernel
theorem dX6_setRate_25 : decode cX6_setRate 25 = .ok (.iconst 0, 1) := by decide +kernel
theorem dX6_setRate_26 : decode cX6_setRate 26 = .ok (.istore 4, 2) := by decide +kernel
theorem dX6_setRate_28 : decode cX6_setRate 28 = .ok (.aload_n 0, 1) := by decide +kernel
theorem dX6_setRate_29 : decode cX6_setRate 29 = .ok (.iload_n 1, 1) := by decide +kernel
theorem dX6_setRate_30 : decode cX6_setRate 30 = .ok (.invokestatic 113, 3) := by decide +kernel
theorem dX6_setRate_33 : decode cX6_setRate 33 = .ok (.ifCond .ne 7, 3) := by decide +kernel
theorem dX6_setRate_36 : decode cX6_setRate 36 = .ok (.iconst 1, 1) := by decide +kernel
theorem dX6_setRate_37 : decode cX6_setRate 37 = .ok (.goto 13, 3) := by decide +kernel
theorem dX6_setRate_40 : decode cX6_setRate 40 = .ok (.iload 4, 2) := by decide +kernel
theorem dX6_setRate_42 : decode cX6_setRate 42 = .ok (.ifCond .eq 7, 3) := by decide +kernel
theorem dX6_setRate_45 : decode cX6_setRate 45 = .ok (.iconst 0, 1) := by decide +kernel
theorem dX6_setRate_46 : decode cX6_setRate 46 = .ok (.goto 4, 3) := by decide +kernel
theorem dX6_setRate_49 : decode cX6_setRate 49 = .ok (.iconst 2, 1) := by decide +kernel
theorem dX6_setRate_50 : decode cX6_setRate 50 = .ok (.invokevirtual 117, 3) := by decide +kernel
theorem dX6_setRate_53 : decode cX6_setRate 53 = .ok (.ifCond .eq 5, 3) := by decide +kernel
theorem dX6_setRate_56 : decode cX6_setRate 56 = .ok (.iconst 0, 1) := by decide +kernel
theorem dX6_setRate_57 : decode cX6_setRate 57 = .ok (.ireturn, 1) := by decide +kernel
theorem dX6_setRate_58 : decode cX6_setRate 58 = .ok (.aload_n 0, 1) := by decide +kernel
theorem dX6_setRate_59 : decode cX6_setRate 59 = .ok (.getfield 29, 3) := by decide +kernel
theorem dX6_setRate_62 : decode cX6_setRate 62 = .ok (.iload_n 1, 1) := by decide +kernel
theorem dX6_setRate_63 : decode cX6_setRate 63 = .ok (.iaload, 1) := by decide +kernel
theorem dX6_setRate_64 : decode cX6_setRate 64 = .ok (.istore 5, 2) := by decide +kernel
theorem dX6_setRate_66 : decode cX6_setRate 66 = .ok (.aload_n 0, 1) := by decide +kernel
theorem dX6_setRate_67 : decode cX6_setRate 67 = .ok (.getfield 29, 3) := by decide +kernel
theorem dX6_setRate_70 : decode cX6_setRate 70 = .ok (.iload_n 1, 1) := by decide +kernel
theorem dX6_setRate_71 : decode cX6_setRate 71 = .ok (.iload_n 2, 1) := by decide +kernel
theorem dX6_setRate_72 : decode cX6_setRate 72 = .ok (.iastore, 1) := by decide +kernel
theorem dX6_setRate_73 : decode cX6_setRate 73 = .ok (.aload_n 0, 1) := by decide +kernel
theorem dX6_setRate_74 : decode cX6_setRate 74 = .ok (.getfield 32, 3) := by decide +kernel
theorem dX6_setRate_77 : decode cX6_setRate 77 = .ok (.iload_n 1, 1) := by decide +kernel
theorem dX6_setRate_78 : decode cX6_setRate 78 = .ok (.iload_n 3, 1) := by decide +kernel
theorem dX6_setRate_79 : decode cX6_setRate 79 = .ok (.iastore, 1) := by decide +kernel
theorem dX6_setRate_80 : decode cX6_setRate 80 = .ok (.iload 5, 2) := by decide +kernel
theorem dX6_setRate_82 : decode cX6_setRate 82 = .ok (.ireturn, 1) := by decide +kernel
theorem dX6_known_0 : decode cX6_known 0 = .ok (.iconst (-1), 1) := by decide +kernel
theorem dX6_known_1 : decode cX6_known 1 = .ok (.istore_n 3, 1) := by decide +kernel
theorem dX6_known_2 : decode cX6_known 2 = .ok (.iconst 0, 1) := by decide +kernel
theorem dX6_known_3 : decode cX6_known 3 = .ok (.istore 4, 2) := by decide +kernel
theorem dX6_known_5 : decode cX6_known 5 = .ok (.iload 4, 2) := by decide +kernel
theorem dX6_known_7 : decode cX6_known 7 = .ok (.aload_n 0, 1) := by decide +kernel
theorem dX6_known_8 : decode cX6_known 8 = .ok (.getfield 124, 3) := by decide +kernel
theorem dX6_known_11 : decode cX6_known 11 = .ok (.if_icmp .ge 93, 3) := by decide +kernel
theorem dX6_known_14 : decode cX6_known 14 = .ok (.aload_n 0, 1) := by decide +kernel
theorem dX6_known_15 : decode cX6_known 15 = .ok (.getfield 23, 3) := by decide +kernel
theorem dX6_known_18 : decode cX6_known 18 = .ok (.iload_n 1, 1) := by decide +kernel
theorem dX6_known_19 : decode cX6_known 19 = .ok (.iaload, 1) := by decide +kernel
theorem dX6_known_20 : decode cX6_known 20 = .ok (.iconst (-1), 1) := by decide +kernel
theorem dX6_known_21 : decode cX6_known 21 = .ok (.if_icmp .eq 83, 3) := by decide +kernel
theorem dX6_known_24 : decode cX6_known 24 = .ok (.aload_n 0, 1) := by decide +kernel
theorem dX6_known_25 : decode cX6_known 25 = .ok (.getfield 41, 3) := by decide +kernel
theorem dX6_known_28 : decode cX6_known 28 = .ok (.iload 4, 2) := by decide +kernel
theorem dX6_known_30 : decode cX6_known 30 = .ok (.iaload, 1) := by decide +kernel
theorem dX6_known_31 : decode cX6_known 31 = .ok (.iload_n 1, 1) := by decide +kernel
theorem dX6_known_32 : decode cX6_known 32 = .ok (.if_icmp .ne 51, 3) := by decide +kernel
theorem dX6_known_35 : decode cX6_known 35 = .ok (.aload_n 0, 1) := by decide +kernel
theorem dX6_known_36 : decode cX6_known 36 = .ok (.getfield 44, 3) := by decide +kernel
theorem dX6_known_39 : decode cX6_known 39 = .ok (.iload 4, 2) := by decide +kernel
theorem dX6_known_41 : decode cX6_known 41 = .ok (.iaload, 1) := by decide +kernel
theorem dX6_known_42 : decode cX6_known 42 = .ok (.iload_n 2, 1) := by decide +kernel
theorem dX6_known_43 : decode cX6_known 43 = .ok (.if_icmp .ne 40, 3) := by decide +kernel
theorem dX6_known_46 : decode cX6_known 46 = .ok (.aload_n 0, 1) := by decide +kernel
theorem dX6_known_47 : decode cX6_known 47 = .ok (.getfield 68, 3) := by decide +kernel
theorem dX6_known_50 : decode cX6_known 50 = .ok (.iload 4, 2) := by decide +kernel
theorem dX6_known_52 : decode cX6_known 52 = .ok (.iaload, 1) := by decide +kernel
theorem dX6_known_53 : decode cX6_known 53 = .ok (.aload_n 0, 1) := by decide +kernel
theorem dX6_known_54 : decode cX6_known 54 = .ok (.getfield 23, 3) := by decide +kernel
theorem dX6_known_57 : decode cX6_known 57 = .ok (.iload_n 1, 1) := by decide +kernel
theorem dX6_known_58 : decode cX6_known 58 = .ok (.iaload, 1) := by decide +kernel
theorem dX6_known_59 : decode cX6_known 59 = .ok (.if_icmp .ne 24, 3) := by decide +kernel
theorem dX6_known_62 : decode cX6_known 62 = .ok (.aload_n 0, 1) := by decide +kernel
theorem dX6_known_63 : decode cX6_known 63 = .ok (.getfield 127, 3) := by decide +kernel
theorem dX6_known_66 : decode cX6_known 66 = .ok (.aload_n 0, 1) := by decide +kernel
theorem dX6_known_67 : decode cX6_known 67 = .ok (.getfield 53, 3) := by decide +kernel
theorem dX6_known_70 : decode cX6_known 70 = .ok (.iload 4, 2) := by decide +kernel
theorem dX6_known_72 : decode cX6_known 72 = .ok (.iaload, 1) := by decide +kernel
theorem dX6_known_73 : decode cX6_known 73 = .ok (.isub, 1) := by decide +kernel
theorem dX6_known_74 : decode cX6_known 74 = .ok (.bipush 30, 2) := by decide +kernel
theorem dX6_known_76 : decode cX6_known 76 = .ok (.if_icmp .ge 7, 3) := by decide +kernel
theorem dX6_known_79 : decode cX6_known 79 = .ok (.iconst 1, 1) := by decide +kernel
theorem dX6_known_80 : decode cX6_known 80 = .ok (.goto 4, 3) := by decide +kernel
theorem dX6_known_83 : decode cX6_known 83 = .ok (.iconst 0, 1) := by decide +kernel
theorem dX6_known_84 : decode cX6_known 84 = .ok (.istore 5, 2) := by decide +kernel
theorem dX6_known_86 : decode cX6_known 86 = .ok (.iload 5, 2) := by decide +kernel
theorem dX6_known_88 : decode cX6_known 88 = .ok (.ifCond .eq 8, 3) := by decide +kernel
theorem dX6_known_91 : decode cX6_known 91 = .ok (.iload 4, 2) := by decide +kernel
theorem dX6_known_93 : decode cX6_known 93 = .ok (.goto 4, 3) := by decide +kernel
theorem dX6_known_96 : decode cX6_known 96 = .ok (.iload_n 3, 1) := by decide +kernel
theorem dX6_known_97 : decode cX6_known 97 = .ok (.istore_n 3, 1) := by decide +kernel
theorem dX6_known_98 : decode cX6_known 98 = .ok (.iinc 4 1, 3) := by decide +kernel
theorem dX6_known_101 : decode cX6_known 101 = .ok (.goto (-96), 3) := by decide +kernel
theorem dX6_known_104 : decode cX6_known 104 = .ok (.iload_n 3, 1) := by decide +kernel
theorem dX6_known_105 : decode cX6_known 105 = .ok (.ireturn, 1) := by decide +kernel
theorem dX6_isThrottled_0 : decode cX6_isThrottled 0 = .ok (.iconst 0, 1) := by decide +kernel
theorem dX6_isThrottled_1 : decode cX6_isThrottled 1 = .ok (.istore_n 2, 1) := by decide +kernel
theorem dX6_isThrottled_2 : decode cX6_isThrottled 2 = .ok (.iconst 0, 1) := by decide +kernel
theorem dX6_isThrottled_3 : decode cX6_isThrottled 3 = .ok (.istore_n 3, 1) := by decide +kernel
theorem dX6_isThrottled_4 : decode cX6_isThrottled 4 = .ok (.iload_n 3, 1) := by decide +kernel
theorem dX6_isThrottled_5 : decode cX6_isThrottled 5 = .ok (.aload_n 0, 1) := by decide +kernel
theorem dX6_isThrottled_6 : decode cX6_isThrottled 6 = .ok (.getfield 124, 3) := by decide +kernel
theorem dX6_isThrottled_9 : decode cX6_isThrottled 9 = .ok (.if_icmp .ge 47, 3) := by decide +kernel
theorem dX6_isThrottled_12 : decode cX6_isThrottled 12 = .ok (.iload_n 2, 1) := by decide +kernel
theorem dX6_isThrottled_13 : decode cX6_isThrottled 13 = .ok (.aload_n 0, 1) := by decide +kernel
theorem dX6_isThrottled_14 : decode cX6_isThrottled 14 = .ok (.getfield 41, 3) := by decide +kernel
theorem dX6_isThrottled_17 : decode cX6_isThrottled 17 = .ok (.iload_n 3, 1) := by decide +kernel
theorem dX6_isThrottled_18 : decode cX6_isThrottled 18 = .ok (.iaload, 1) := by decide +kernel
theorem dX6_isThrottled_19 : decode cX6_isThrottled 19 = .ok (.iload_n 1, 1) := by decide +kernel
theorem dX6_isThrottled_20 : decode cX6_isThrottled 20 = .ok (.if_icmp .ne 27, 3) := by decide +kernel
theorem dX6_isThrottled_23 : decode cX6_isThrottled 23 = .ok (.aload_n 0, 1) := by decide +kernel
theorem dX6_isThrottled_24 : decode cX6_isThrottled 24 = .ok (.getfield 127, 3) := by decide +kernel
theorem dX6_isThrottled_27 : decode cX6_isThrottled 27 = .ok (.aload_n 0, 1) := by decide +kernel
theorem dX6_isThrottled_28 : decode cX6_isThrottled 28 = .ok (.getfield 53, 3) := by decide +kernel
theorem dX6_isThrottled_31 : decode cX6_isThrottled 31 = .ok (.iload_n 3, 1) := by decide +kernel
theorem dX6_isThrottled_32 : decode cX6_isThrottled 32 = .ok (.iaload, 1) := by decide +kernel
theorem dX6_isThrottled_33 : decode cX6_isThrottled 33 = .ok (.isub, 1) := by decide +kernel
theorem dX6_isThrottled_34 : decode cX6_isThrottled 34 = .ok (.aload_n 0, 1) := by decide +kernel
theorem dX6_isThrottled_35 : decode cX6_isThrottled 35 = .ok (.getfield 32, 3) := by decide +kernel
theorem dX6_isThrottled_38 : decode cX6_isThrottled 38 = .ok (.iload_n 1, 1) := by decide +kernel
theorem dX6_isThrottled_39 : decode cX6_isThrottled 39 = .ok (.iaload, 1) := by decide +kernel
theorem dX6_isThrottled_40 : decode cX6_isThrottled 40 = .ok (.if_icmp .ge 7, 3) := by decide +kernel
theorem dX6_isThrottled_43 : decode cX6_isThrottled 43 = .ok (.iconst 1, 1) := by decide +kernel
theorem dX6_isThrottled_44 : decode cX6_isThrottled 44 = .ok (.goto 4, 3) := by decide +kernel
theorem dX6_isThrottled_47 : decode cX6_isThrottled 47 = .ok (.iconst 0, 1) := by decide +kernel
theorem dX6_isThrottled_48 : decode cX6_isThrottled 48 = .ok (.iadd, 1) := by decide +kernel
theorem dX6_isThrottled_49 : decode cX6_isThrottled 49 = .ok (.istore_n 2, 1) := by decide +kernel
theorem dX6_isThrottled_50 : decode cX6_isThrottled 50 = .ok (.iinc 3 1, 3) := by decide +kernel
theorem dX6_isThrottled_53 : decode cX6_isThrottled 53 = .ok (.goto (-49), 3) := by decide +kernel
theorem dX6_isThrottled_56 : decode cX6_isThrottled 56 = .ok (.iload_n 2, 1) := by decide +kernel
theorem dX6_isThrottled_57 : decode cX6_isThrottled 57 = .ok (.aload_n 0, 1) := by decide +kernel
theorem dX6_isThrottled_58 : decode cX6_isThrottled 58 = .ok (.getfield 29, 3) := by decide +kernel
theorem dX6_isThrottled_61 : decode cX6_isThrottled 61 = .ok (.iload_n 1, 1) := by decide +kernel
theorem dX6_isThrottled_62 : decode cX6_isThrottled 62 = .ok (.iaload, 1) := by decide +kernel
theorem dX6_isThrottled_63 : decode cX6_isThrottled 63 = .ok (.if_icmp .lt 7, 3) := by decide +kernel
theorem dX6_isThrottled_66 : decode cX6_isThrottled 66 = .ok (.iconst 1, 1) := by decide +kernel
theorem dX6_isThrottled_67 : decode cX6_isThrottled 67 = .ok (.goto 4, 3) := by decide +kernel
theorem dX6_isThrottled_70 : decode cX6_isThrottled 70 = .ok (.iconst 0, 1) := by decide +kernel
theorem dX6_isThrottled_71 : decode cX6_isThrottled 71 = .ok (.ireturn, 1) := by decide +kernel
theorem dX6_ends_0 : decode cX6_ends 0 = .ok (.aload_n 0, 1) := by decide +kernel
theorem dX6_ends_1 : decode cX6_ends 1 = .ok (.getfield 74, 3) := by decide +kernel
theorem dX6_ends_4 : decode cX6_ends 4 = .ok (.iload_n 1, 1) := by decide +kernel
theorem dX6_ends_5 : decode cX6_ends 5 = .ok (.iload_n 2, 1) := by decide +kernel
theorem dX6_ends_6 : decode cX6_ends 6 = .ok (.iastore, 1) := by decide +kernel
theorem dX6_ends_7 : decode cX6_ends 7 = .ok (.aload_n 0, 1) := by decide +kernel
theorem dX6_ends_8 : decode cX6_ends 8 = .ok (.getfield 71, 3) := by decide +kernel
theorem dX6_ends_11 : decode cX6_ends 11 = .ok (.iload_n 1, 1) := by decide +kernel
theorem dX6_ends_12 : decode cX6_ends 12 = .ok (.baload, 1) := by decide +kernel
theorem dX6_ends_13 : decode cX6_ends 13 = .ok (.ifCond .eq 42, 3) := by decide +kernel
theorem dX6_ends_16 : decode cX6_ends 16 = .ok (.aload_n 0, 1) := by decide +kernel
theorem dX6_ends_17 : decode cX6_ends 17 = .ok (.getfield 41, 3) := by decide +kernel
theorem dX6_ends_20 : decode cX6_ends 20 = .ok (.iload_n 1, 1) := by decide +kernel
theorem dX6_ends_21 : decode cX6_ends 21 = .ok (.iaload, 1) := by decide +kernel
theorem dX6_ends_22 : decode cX6_ends 22 = .ok (.istore_n 3, 1) := by decide +kernel
theorem dX6_ends_23 : decode cX6_ends 23 = .ok (.aload_n 0, 1) := by decide +kernel
theorem dX6_ends_24 : decode cX6_ends 24 = .ok (.getfield 38, 3) := by decide +kernel
theorem dX6_ends_27 : decode cX6_ends 27 = .ok (.bipush 40, 2) := by decide +kernel
theorem dX6_ends_29 : decode cX6_ends 29 = .ok (.iload_n 3, 1) := by decide +kernel
theorem dX6_ends_30 : decode cX6_ends 30 = .ok (.imul, 1) := by decide +kernel
theorem dX6_ends_31 : decode cX6_ends 31 = .ok (.aload_n 0, 1) := by decide +kernel
theorem dX6_ends_32 : decode cX6_ends 32 = .ok (.getfield 35, 3) := by decide +kernel
theorem dX6_ends_35 : decode cX6_ends 35 = .ok (.iload_n 3, 1) := by decide +kernel
theorem dX6_ends_36 : decode cX6_ends 36 = .ok (.iaload, 1) := by decide +kernel
theorem dX6_ends_37 : decode cX6_ends 37 = .ok (.iadd, 1) := by decide +kernel
theorem dX6_ends_38 : decode cX6_ends 38 = .ok (.bipush 10, 2) := by decide +kernel
theorem dX6_ends_40 : decode cX6_ends 40 = .ok (.iload_n 1, 1) := by decide +kernel
theorem dX6_ends_41 : decode cX6_ends 41 = .ok (.imul, 1) := by decide +kernel
theorem dX6_ends_42 : decode cX6_ends 42 = .ok (.iload_n 2, 1) := by decide +kernel
theorem dX6_ends_43 : decode cX6_ends 43 = .ok (.iadd, 1) := by decide +kernel
theorem dX6_ends_44 : decode cX6_ends 44 = .ok (.iastore, 1) := by decide +kernel
theorem dX6_ends_45 : decode cX6_ends 45 = .ok (.aload_n 0, 1) := by decide +kernel
theorem dX6_ends_46 : decode cX6_ends 46 = .ok (.getfield 35, 3) := by decide +kernel
theorem dX6_ends_49 : decode cX6_ends 49 = .ok (.iload_n 3, 1) := by decide +kernel
theorem dX6_ends_50 : decode cX6_ends 50 = .ok (.dup2, 1) := by decide +kernel
theorem dX6_ends_51 : decode cX6_ends 51 = .ok (.iaload, 1) := by decide +kernel
theorem dX6_ends_52 : decode cX6_ends 52 = .ok (.iconst 1, 1) := by decide +kernel
theorem dX6_ends_53 : decode cX6_ends 53 = .ok (.iadd, 1) := by decide +kernel
theorem dX6_ends_54 : decode cX6_ends 54 = .ok (.iastore, 1) := by decide +kernel
theorem dX6_ends_55 : decode cX6_ends 55 = .ok (.return_, 1) := by decide +kernel
set_option maxRecDepth 20000 in
theorem ggX6_submit_X6_isAccount : GoodIn wsX6_submit wsX6_isAccount := goodIn_r _ [26, 27, 28, 25, 29] (by decide +kernel) (by decide +kernel)
set_option maxRecDepth 20000 in
theorem gX6_submit_X6_isAccount : GoodIn wsX6_submit (va_wsS RX6 113 yX6_isAccount wsX6_isAccount) := goodIn_app (goodIn_of _ (by decide +kernel)) ggX6_submit_X6_isAccount
set_option maxRecDepth 20000 in
theorem ggX6_submit_X6_isRecipient : GoodIn wsX6_submit wsX6_isRecipient := goodIn_r _ [32, 27, 28, 25, 29] (by decide +kernel) (by decide +kernel)
set_option maxRecDepth 20000 in
theorem gX6_submit_X6_isRecipient : GoodIn wsX6_submit (va_wsS RX6 130 yX6_isRecipient wsX6_isRecipient) := goodIn_app (goodIn_of _ (by decide +kernel)) ggX6_submit_X6_isRecipient
set_option maxRecDepth 20000 in
theorem ggX6_submit_X6_isIn : GoodIn wsX6_submit wsX6_isIn := goodIn_r _ [29] (by decide +kernel) (by decide +kernel)
set_option maxRecDepth 20000 in
theorem gX6_submit_X6_isIn : GoodIn wsX6_submit (va_wsS RX6 105 yX6_isIn wsX6_isIn) := goodIn_app (goodIn_of _ (by decide +kernel)) ggX6_submit_X6_isIn
set_option maxRecDepth 20000 in
theorem ggX6_submit_X6_known : GoodIn wsX6_submit wsX6_known := goodIn_r _ [36, 1, 18, 2, 3, 17, 7, 6, 54, 55, 56, 57, 58, 59, 60, 61, 62, 63, 64, 65, 66, 67, 68, 69, 70, 71, 72, 73, 74, 75, 76, 77, 78, 79, 80, 81, 82, 83, 84, 85, 86] (by decide +kernel) (by decide +kernel)
set_option maxRecDepth 20000 in
theorem gX6_submit_X6_known : GoodIn wsX6_submit (wsV RX6 133 RX6 yX6_known wsX6_known) := goodIn_app (goodIn_of _ (by decide +kernel)) ggX6_submit_X6_known
set_option maxRecDepth 20000 in
theorem ggX6_submit_X6_isThrottled : GoodIn wsX6_submit wsX6_isThrottled := goodIn_r _ [40, 1, 2, 7, 6, 41, 42, 54, 55, 56, 57, 58, 59, 60, 61, 62, 63, 64, 65, 66, 67, 68, 69, 70, 71, 72, 73, 74, 75, 76, 77, 78, 79, 80, 81, 82, 83, 84, 85, 86] (by decide +kernel) (by decide +kernel)
set_option maxRecDepth 20000 in
theorem gX6_submit_X6_isThrottled : GoodIn wsX6_submit (wsV RX6 137 RX6 yX6_isThrottled wsX6_isThrottled) := goodIn_app (goodIn_of _ (by decide +kernel)) ggX6_submit_X6_isThrottled
set_option maxRecDepth 20000 in
theorem ggX6_submit_X6_fails : GoodIn wsX6_submit wsX6_fails := goodIn_r _ [46, 47, 54, 55, 56, 57, 58, 59, 60, 61, 62, 63, 64, 65, 66, 67, 68, 69, 70, 71, 72, 73, 74, 75, 76, 77, 78, 79, 80, 81, 82, 83, 84, 85, 86] (by decide +kernel) (by decide +kernel)
set_option maxRecDepth 20000 in
theorem gX6_submit_X6_fails : GoodIn wsX6_submit (wsV RX6 117 RX6 yX6_fails wsX6_fails) := goodIn_app (goodIn_of _ (by decide +kernel)) ggX6_submit_X6_fails
set_option maxRecDepth 20000 in
theorem ggX6_submit_X6_ends : GoodIn wsX6_submit wsX6_ends := goodIn_r _ [51, 21, 19, 2, 52, 53, 54, 55, 56, 57, 58, 59, 60, 61, 62, 63, 64, 65, 66, 67, 68, 69, 70, 71, 72, 73, 74, 75, 76, 77, 78, 79, 80, 81, 82, 83, 84, 85, 86] (by decide +kernel) (by decide +kernel)
set_option maxRecDepth 20000 in
theorem gX6_submit_X6_ends : GoodIn wsX6_submit (wsV RX6 140 RX6 yX6_ends wsX6_ends) := goodIn_app (goodIn_of _ (by decide +kernel)) ggX6_submit_X6_ends
theorem dX6_submit_0 : decode cX6_submit 0 = .ok (.iload_n 1, 1) := by decide +kernel
theorem dX6_submit_1 : decode cX6_submit 1 = .ok (.invokestatic 113, 3) := by decide +kernel
theorem dX6_submit_4 : decode cX6_submit 4 = .ok (.ifCond .eq 14, 3) := by decide +kernel
theorem dX6_submit_7 : decode cX6_submit 7 = .ok (.iload_n 2, 1) := by decide +kernel
theorem dX6_submit_8 : decode cX6_submit 8 = .ok (.invokestatic 130, 3) := by decide +kernel
theorem dX6_submit_11 : decode cX6_submit 11 = .ok (.ifCond .eq 7, 3) := by decide +kernel
theorem dX6_submit_14 : decode cX6_submit 14 = .ok (.iconst 1, 1) := by decide +kernel
theorem dX6_submit_15 : decode cX6_submit 15 = .ok (.goto 4, 3) := by decide +kernel
theorem dX6_submit_18 : decode cX6_submit 18 = .ok (.iconst 0, 1) := by decide +kernel
theorem dX6_submit_19 : decode cX6_submit 19 = .ok (.istore 5, 2) := by decide +kernel
theorem dX6_submit_21 : decode cX6_submit 21 = .ok (.iload_n 3, 1) := by decide +kernel
theorem dX6_submit_22 : decode cX6_submit 22 = .ok (.iconst 0, 1) := by decide +kernel
theorem dX6_submit_23 : decode cX6_submit 23 = .ok (.iconst 3, 1) := by decide +kernel
theorem dX6_submit_24 : decode cX6_submit 24 = .ok (.invokestatic 105, 3) := by decide +kernel
theorem dX6_submit_27 : decode cX6_submit 27 = .ok (.ifCond .eq 19, 3) := by decide +kernel
theorem dX6_submit_30 : decode cX6_submit 30 = .ok (.iload 4, 2) := by decide +kernel
theorem dX6_submit_32 : decode cX6_submit 32 = .ok (.iconst 1, 1) := by decide +kernel
theorem dX6_submit_33 : decode cX6_submit 33 = .ok (.sipush 500, 3) := by decide +kernel
theorem dX6_submit_36 : decode cX6_submit 36 = .ok (.invokestatic 105, 3) := by decide +kernel
theorem dX6_submit_39 : decode cX6_submit 39 = .ok (.ifCond .eq 7, 3) := by decide +kernel
theorem dX6_submit_42 : decode cX6_submit 42 = .ok (.iconst 1, 1) := by decide +kernel
theorem dX6_submit_43 : decode cX6_submit 43 = .ok (.goto 4, 3) := by decide +kernel
theorem dX6_submit_46 : decode cX6_submit 46 = .ok (.iconst 0, 1) := by decide +kernel
theorem dX6_submit_47 : decode cX6_submit 47 = .ok (.istore 6, 2) := by decide +kernel
theorem dX6_submit_49 : decode cX6_submit 49 = .ok (.iload 5, 2) := by decide +kernel
theorem dX6_submit_51 : decode cX6_submit 51 = .ok (.ifCond .eq 12, 3) := by decide +kernel
theorem dX6_submit_54 : decode cX6_submit 54 = .ok (.aload_n 0, 1) := by decide +kernel
theorem dX6_submit_55 : decode cX6_submit 55 = .ok (.iload_n 1, 1) := by decide +kernel
theorem dX6_submit_56 : decode cX6_submit 56 = .ok (.iload_n 2, 1) := by decide +kernel
theorem dX6_submit_57 : decode cX6_submit 57 = .ok (.invokevirtual 133, 3) := by decide +kernel
theorem dX6_submit_60 : decode cX6_submit 60 = .ok (.goto 4, 3) := by decide +kernel
theorem dX6_submit_63 : decode cX6_submit 63 = .ok (.iconst (-1), 1) := by decide +kernel
theorem dX6_submit_64 : decode cX6_submit 64 = .ok (.istore 7, 2) := by decide +kernel
theorem dX6_submit_66 : decode cX6_submit 66 = .ok (.aload_n 0, 1) := by decide +kernel
theorem dX6_submit_67 : decode cX6_submit 67 = .ok (.iload 5, 2) := by decide +kernel
theorem dX6_submit_69 : decode cX6_submit 69 = .ok (.ifCond .ne 7, 3) := by decide +kernel
theorem dX6_submit_72 : decode cX6_submit 72 = .ok (.iconst 1, 1) := by decide +kernel
theorem dX6_submit_73 : decode cX6_submit 73 = .ok (.goto 40, 3) := by decide +kernel
theorem dX6_submit_76 : decode cX6_submit 76 = .ok (.iload 6, 2) := by decide +kernel
theorem dX6_submit_78 : decode cX6_submit 78 = .ok (.ifCond .ne 7, 3) := by decide +kernel
theorem dX6_submit_81 : decode cX6_submit 81 = .ok (.iconst 2, 1) := by decide +kernel
theorem dX6_submit_82 : decode cX6_submit 82 = .ok (.goto 31, 3) := by decide +kernel
theorem dX6_submit_85 : decode cX6_submit 85 = .ok (.iload 7, 2) := by decide +kernel
theorem dX6_submit_87 : decode cX6_submit 87 = .ok (.iconst (-1), 1) := by decide +kernel
theorem dX6_submit_88 : decode cX6_submit 88 = .ok (.if_icmp .ne 24, 3) := by decide +kernel
theorem dX6_submit_91 : decode cX6_submit 91 = .ok (.aload_n 0, 1) := by decide +kernel
theorem dX6_submit_92 : decode cX6_submit 92 = .ok (.iload_n 1, 1) := by decide +kernel
theorem dX6_submit_93 : decode cX6_submit 93 = .ok (.invokevirtual 137, 3) := by decide +kernel
theorem dX6_submit_96 : decode cX6_submit 96 = .ok (.ifCond .ne 12, 3) := by decide +kernel
theorem dX6_submit_99 : decode cX6_submit 99 = .ok (.aload_n 0, 1) := by decide +kernel
theorem dX6_submit_100 : decode cX6_submit 100 = .ok (.getfield 124, 3) := by decide +kernel
theorem dX6_submit_103 : decode cX6_submit 103 = .ok (.bipush 40, 2) := by decide +kernel
theorem dX6_submit_105 : decode cX6_submit 105 = .ok (.if_icmp .ne 7, 3) := by decide +kernel
theorem dX6_submit_108 : decode cX6_submit 108 = .ok (.iconst 3, 1) := by decide +kernel
theorem dX6_submit_109 : decode cX6_submit 109 = .ok (.goto 4, 3) := by decide +kernel
theorem dX6_submit_112 : decode cX6_submit 112 = .ok (.iconst 0, 1) := by decide +kernel
theorem dX6_submit_113 : decode cX6_submit 113 = .ok (.invokevirtual 117, 3) := by decide +kernel
theorem dX6_submit_116 : decode cX6_submit 116 = .ok (.ifCond .eq 5, 3) := by decide +kernel
theorem dX6_submit_119 : decode cX6_submit 119 = .ok (.iconst 0, 1) := by decide +kernel
theorem dX6_submit_120 : decode cX6_submit 120 = .ok (.ireturn, 1) := by decide +kernel
theorem dX6_submit_121 : decode cX6_submit 121 = .ok (.iload 7, 2) := by decide +kernel
theorem dX6_submit_123 : decode cX6_submit 123 = .ok (.iconst (-1), 1) := by decide +kernel
theorem dX6_submit_124 : decode cX6_submit 124 = .ok (.if_icmp .eq 6, 3) := by decide +kernel
theorem dX6_submit_127 : decode cX6_submit 127 = .ok (.iload 7, 2) := by decide +kernel
theorem dX6_submit_129 : decode cX6_submit 129 = .ok (.ireturn, 1) := by decide +kernel
theorem dX6_submit_130 : decode cX6_submit 130 = .ok (.aload_n 0, 1) := by decide +kernel
theorem dX6_submit_131 : decode cX6_submit 131 = .ok (.getfield 124, 3) := by decide +kernel
theorem dX6_submit_134 : decode cX6_submit 134 = .ok (.istore 8, 2) := by decide +kernel
theorem dX6_submit_136 : decode cX6_submit 136 = .ok (.aload_n 0, 1) := by decide +kernel
theorem dX6_submit_137 : decode cX6_submit 137 = .ok (.getfield 41, 3) := by decide +kernel
theorem dX6_submit_140 : decode cX6_submit 140 = .ok (.iload 8, 2) := by decide +kernel
theorem dX6_submit_142 : decode cX6_submit 142 = .ok (.iload_n 1, 1) := by decide +kernel
theorem dX6_submit_143 : decode cX6_submit 143 = .ok (.iastore, 1) := by decide +kernel
theorem dX6_submit_144 : decode cX6_submit 144 = .ok (.aload_n 0, 1) := by decide +kernel
theorem dX6_submit_145 : decode cX6_submit 145 = .ok (.getfield 44, 3) := by decide +kernel
theorem dX6_submit_148 : decode cX6_submit 148 = .ok (.iload 8, 2) := by decide +kernel
theorem dX6_submit_150 : decode cX6_submit 150 = .ok (.iload_n 2, 1) := by decide +kernel
theorem dX6_submit_151 : decode cX6_submit 151 = .ok (.iastore, 1) := by decide +kernel
theorem dX6_submit_152 : decode cX6_submit 152 = .ok (.aload_n 0, 1) := by decide +kernel
theorem dX6_submit_153 : decode cX6_submit 153 = .ok (.getfield 47, 3) := by decide +kernel
theorem dX6_submit_156 : decode cX6_submit 156 = .ok (.iload 8, 2) := by decide +kernel
theorem dX6_submit_158 : decode cX6_submit 158 = .ok (.iload_n 3, 1) := by decide +kernel
theorem dX6_submit_159 : decode cX6_submit 159 = .ok (.iastore, 1) := by decide +kernel
theorem dX6_submit_160 : decode cX6_submit 160 = .ok (.aload_n 0, 1) := by decide +kernel
theorem dX6_submit_161 : decode cX6_submit 161 = .ok (.getfield 50, 3) := by decide +kernel
theorem dX6_submit_164 : decode cX6_submit 164 = .ok (.iload 8, 2) := by decide +kernel
theorem dX6_submit_166 : decode cX6_submit 166 = .ok (.iload 4, 2) := by decide +kernel
theorem dX6_submit_168 : decode cX6_submit 168 = .ok (.iastore, 1) := by decide +kernel
theorem dX6_submit_169 : decode cX6_submit 169 = .ok (.aload_n 0, 1) := by decide +kernel
theorem dX6_submit_170 : decode cX6_submit 170 = .ok (.getfield 53, 3) := by decide +kernel
theorem dX6_submit_173 : decode cX6_submit 173 = .ok (.iload 8, 2) := by decide +kernel
theorem dX6_submit_175 : decode cX6_submit 175 = .ok (.aload_n 0, 1) := by decide +kernel
theorem dX6_submit_176 : decode cX6_submit 176 = .ok (.getfield 127, 3) := by decide +kernel
theorem dX6_submit_179 : decode cX6_submit 179 = .ok (.iastore, 1) := by decide +kernel
theorem dX6_submit_180 : decode cX6_submit 180 = .ok (.aload_n 0, 1) := by decide +kernel
theorem dX6_submit_181 : decode cX6_submit 181 = .ok (.getfield 83, 3) := by decide +kernel
theorem dX6_submit_184 : decode cX6_submit 184 = .ok (.iload 8, 2) := by decide +kernel
theorem dX6_submit_186 : decode cX6_submit 186 = .ok (.aload_n 0, 1) := by decide +kernel
theorem dX6_submit_187 : decode cX6_submit 187 = .ok (.getfield 127, 3) := by decide +kernel
theorem dX6_submit_190 : decode cX6_submit 190 = .ok (.iastore, 1) := by decide +kernel
theorem dX6_submit_191 : decode cX6_submit 191 = .ok (.aload_n 0, 1) := by decide +kernel
theorem dX6_submit_192 : decode cX6_submit 192 = .ok (.getfield 56, 3) := by decide +kernel
theorem dX6_submit_195 : decode cX6_submit 195 = .ok (.iload 8, 2) := by decide +kernel
theorem dX6_submit_197 : decode cX6_submit 197 = .ok (.aload_n 0, 1) := by decide +kernel
theorem dX6_submit_198 : decode cX6_submit 198 = .ok (.getfield 7, 3) := by decide +kernel
theorem dX6_submit_201 : decode cX6_submit 201 = .ok (.iload_n 1, 1) := by decide +kernel
theorem dX6_submit_202 : decode cX6_submit 202 = .ok (.iaload, 1) := by decide +kernel
theorem dX6_submit_203 : decode cX6_submit 203 = .ok (.iastore, 1) := by decide +kernel
theorem dX6_submit_204 : decode cX6_submit 204 = .ok (.aload_n 0, 1) := by decide +kernel
theorem dX6_submit_205 : decode cX6_submit 205 = .ok (.getfield 59, 3) := by decide +kernel
theorem dX6_submit_208 : decode cX6_submit 208 = .ok (.iload 8, 2) := by decide +kernel
theorem dX6_submit_210 : decode cX6_submit 210 = .ok (.aload_n 0, 1) := by decide +kernel
theorem dX6_submit_211 : decode cX6_submit 211 = .ok (.getfield 13, 3) := by decide +kernel
theorem dX6_submit_214 : decode cX6_submit 214 = .ok (.iload_n 1, 1) := by decide +kernel
theorem dX6_submit_215 : decode cX6_submit 215 = .ok (.iaload, 1) := by decide +kernel
theorem dX6_submit_216 : decode cX6_submit 216 = .ok (.iastore, 1) := by decide +kernel
theorem dX6_submit_217 : decode cX6_submit 217 = .ok (.aload_n 0, 1) := by decide +kernel
theorem dX6_submit_218 : decode cX6_submit 218 = .ok (.getfield 62, 3) := by decide +kernel
theorem dX6_submit_221 : decode cX6_submit 221 = .ok (.iload 8, 2) := by decide +kernel
theorem dX6_submit_223 : decode cX6_submit 223 = .ok (.aload_n 0, 1) := by decide +kernel
theorem dX6_submit_224 : decode cX6_submit 224 = .ok (.getfield 16, 3) := by decide +kernel
theorem dX6_submit_227 : decode cX6_submit 227 = .ok (.iload_n 1, 1) := by decide +kernel
theorem dX6_submit_228 : decode cX6_submit 228 = .ok (.baload, 1) := by decide +kernel
theorem dX6_submit_229 : decode cX6_submit 229 = .ok (.bastore, 1) := by decide +kernel
theorem dX6_submit_230 : decode cX6_submit 230 = .ok (.aload_n 0, 1) := by decide +kernel
theorem dX6_submit_231 : decode cX6_submit 231 = .ok (.getfield 65, 3) := by decide +kernel
theorem dX6_submit_234 : decode cX6_submit 234 = .ok (.iload 8, 2) := by decide +kernel
theorem dX6_submit_236 : decode cX6_submit 236 = .ok (.aload_n 0, 1) := by decide +kernel
theorem dX6_submit_237 : decode cX6_submit 237 = .ok (.getfield 20, 3) := by decide +kernel
theorem dX6_submit_240 : decode cX6_submit 240 = .ok (.iload_n 1, 1) := by decide +kernel
theorem dX6_submit_241 : decode cX6_submit 241 = .ok (.iaload, 1) := by decide +kernel
theorem dX6_submit_242 : decode cX6_submit 242 = .ok (.iastore, 1) := by decide +kernel
theorem dX6_submit_243 : decode cX6_submit 243 = .ok (.aload_n 0, 1) := by decide +kernel
theorem dX6_submit_244 : decode cX6_submit 244 = .ok (.getfield 68, 3) := by decide +kernel
theorem dX6_submit_247 : decode cX6_submit 247 = .ok (.iload 8, 2) := by decide +kernel
theorem dX6_submit_249 : decode cX6_submit 249 = .ok (.aload_n 0, 1) := by decide +kernel
theorem dX6_submit_250 : decode cX6_submit 250 = .ok (.getfield 23, 3) := by decide +kernel
theorem dX6_submit_253 : decode cX6_submit 253 = .ok (.iload_n 1, 1) := by decide +kernel
theorem dX6_submit_254 : decode cX6_submit 254 = .ok (.iaload, 1) := by decide +kernel
theorem dX6_submit_255 : decode cX6_submit 255 = .ok (.iastore, 1) := by decide +kernel
theorem dX6_submit_256 : decode cX6_submit 256 = .ok (.aload_n 0, 1) := by decide +kernel
theorem dX6_submit_257 : decode cX6_submit 257 = .ok (.getfield 71, 3) := by decide +kernel
theorem dX6_submit_260 : decode cX6_submit 260 = .ok (.iload 8, 2) := by decide +kernel
theorem dX6_submit_262 : decode cX6_submit 262 = .ok (.aload_n 0, 1) := by decide +kernel
theorem dX6_submit_263 : decode cX6_submit 263 = .ok (.getfield 26, 3) := by decide +kernel
theorem dX6_submit_266 : decode cX6_submit 266 = .ok (.iload_n 1, 1) := by decide +kernel
theorem dX6_submit_267 : decode cX6_submit 267 = .ok (.baload, 1) := by decide +kernel
theorem dX6_submit_268 : decode cX6_submit 268 = .ok (.bastore, 1) := by decide +kernel
theorem dX6_submit_269 : decode cX6_submit 269 = .ok (.aload_n 0, 1) := by decide +kernel
theorem dX6_submit_270 : decode cX6_submit 270 = .ok (.dup, 1) := by decide +kernel
theorem dX6_submit_271 : decode cX6_submit 271 = .ok (.getfield 124, 3) := by decide +kernel
theorem dX6_submit_274 : decode cX6_submit 274 = .ok (.iconst 1, 1) := by decide +kernel
theorem dX6_submit_275 : decode cX6_submit 275 = .ok (.iadd, 1) := by decide +kernel
theorem dX6_submit_276 : decode cX6_submit 276 = .ok (.putfield 124, 3) := by decide +kernel
theorem dX6_submit_279 : decode cX6_submit 279 = .ok (.iconst 0, 1) := by decide +kernel
theorem dX6_submit_280 : decode cX6_submit 280 = .ok (.istore 9, 2) := by decide +kernel
theorem dX6_submit_282 : decode cX6_submit 282 = .ok (.iload 9, 2) := by decide +kernel
theorem dX6_submit_284 : decode cX6_submit 284 = .ok (.iload 8, 2) := by decide +kernel
theorem dX6_submit_286 : decode cX6_submit 286 = .ok (.if_icmp .ge 83, 3) := by decide +kernel
theorem dX6_submit_289 : decode cX6_submit 289 = .ok (.aload_n 0, 1) := by decide +kernel
theorem dX6_submit_290 : decode cX6_submit 290 = .ok (.getfield 20, 3) := by decide +kernel
theorem dX6_submit_293 : decode cX6_submit 293 = .ok (.iload_n 1, 1) := by decide +kernel
theorem dX6_submit_294 : decode cX6_submit 294 = .ok (.iaload, 1) := by decide +kernel
theorem dX6_submit_295 : decode cX6_submit 295 = .ok (.ifCond .eq 74, 3) := by decide +kernel
theorem dX6_submit_298 : decode cX6_submit 298 = .ok (.aload_n 0, 1) := by decide +kernel
theorem dX6_submit_299 : decode cX6_submit 299 = .ok (.getfield 74, 3) := by decide +kernel
theorem dX6_submit_302 : decode cX6_submit 302 = .ok (.iload 9, 2) := by decide +kernel
theorem dX6_submit_304 : decode cX6_submit 304 = .ok (.iaload, 1) := by decide +kernel
theorem dX6_submit_305 : decode cX6_submit 305 = .ok (.ifCond .ne 58, 3) := by decide +kernel
theorem dX6_submit_308 : decode cX6_submit 308 = .ok (.aload_n 0, 1) := by decide +kernel
theorem dX6_submit_309 : decode cX6_submit 309 = .ok (.getfield 41, 3) := by decide +kernel
theorem dX6_submit_312 : decode cX6_submit 312 = .ok (.iload 9, 2) := by decide +kernel
theorem dX6_submit_314 : decode cX6_submit 314 = .ok (.iaload, 1) := by decide +kernel
theorem dX6_submit_315 : decode cX6_submit 315 = .ok (.iload_n 1, 1) := by decide +kernel
theorem dX6_submit_316 : decode cX6_submit 316 = .ok (.if_icmp .ne 47, 3) := by decide +kernel
theorem dX6_submit_319 : decode cX6_submit 319 = .ok (.aload_n 0, 1) := by decide +kernel
theorem dX6_submit_320 : decode cX6_submit 320 = .ok (.getfield 44, 3) := by decide +kernel
theorem dX6_submit_323 : decode cX6_submit 323 = .ok (.iload 9, 2) := by decide +kernel
theorem dX6_submit_325 : decode cX6_submit 325 = .ok (.iaload, 1) := by decide +kernel
theorem dX6_submit_326 : decode cX6_submit 326 = .ok (.iload_n 2, 1) := by decide +kernel
theorem dX6_submit_327 : decode cX6_submit 327 = .ok (.if_icmp .ne 36, 3) := by decide +kernel
theorem dX6_submit_330 : decode cX6_submit 330 = .ok (.aload_n 0, 1) := by decide +kernel
theorem dX6_submit_331 : decode cX6_submit 331 = .ok (.getfield 65, 3) := by decide +kernel
theorem dX6_submit_334 : decode cX6_submit 334 = .ok (.iload 9, 2) := by decide +kernel
theorem dX6_submit_336 : decode cX6_submit 336 = .ok (.iaload, 1) := by decide +kernel
theorem dX6_submit_337 : decode cX6_submit 337 = .ok (.aload_n 0, 1) := by decide +kernel
theorem dX6_submit_338 : decode cX6_submit 338 = .ok (.getfield 20, 3) := by decide +kernel
theorem dX6_submit_341 : decode cX6_submit 341 = .ok (.iload_n 1, 1) := by decide +kernel
theorem dX6_submit_342 : decode cX6_submit 342 = .ok (.iaload, 1) := by decide +kernel
theorem dX6_submit_343 : decode cX6_submit 343 = .ok (.if_icmp .ne 20, 3) := by decide +kernel
theorem dX6_submit_346 : decode cX6_submit 346 = .ok (.aload_n 0, 1) := by decide +kernel
theorem dX6_submit_347 : decode cX6_submit 347 = .ok (.getfield 77, 3) := by decide +kernel
theorem dX6_submit_350 : decode cX6_submit 350 = .ok (.iload 9, 2) := by decide +kernel
theorem dX6_submit_352 : decode cX6_submit 352 = .ok (.iaload, 1) := by decide +kernel
theorem dX6_submit_353 : decode cX6_submit 353 = .ok (.ifCond .ne 10, 3) := by decide +kernel
theorem dX6_submit_356 : decode cX6_submit 356 = .ok (.aload_n 0, 1) := by decide +kernel
theorem dX6_submit_357 : decode cX6_submit 357 = .ok (.iload 9, 2) := by decide +kernel
theorem dX6_submit_359 : decode cX6_submit 359 = .ok (.iconst 3, 1) := by decide +kernel
theorem dX6_submit_360 : decode cX6_submit 360 = .ok (.invokevirtual 140, 3) := by decide +kernel
theorem dX6_submit_363 : decode cX6_submit 363 = .ok (.iinc 9 1, 3) := by decide +kernel
theorem dX6_submit_366 : decode cX6_submit 366 = .ok (.goto (-84), 3) := by decide +kernel
theorem dX6_submit_369 : decode cX6_submit 369 = .ok (.iload 8, 2) := by decide +kernel
theorem dX6_submit_371 : decode cX6_submit 371 = .ok (.ireturn, 1) := by decide +kernel
set_option maxRecDepth 20000 in
theorem ggX6_isMessage_X6_isIn : GoodIn wsX6_isMessage wsX6_isIn := goodIn_r _ [5] (by decide +kernel) (by decide +kernel)
set_option maxRecDepth 20000 in
theorem gX6_isMessage_X6_isIn : GoodIn wsX6_isMessage (va_wsS RX6 105 yX6_isIn wsX6_isIn) := goodIn_app (goodIn_of _ (by decide +kernel)) ggX6_isMessage_X6_isIn
theorem dX6_isMessage_0 : decode cX6_isMessage 0 = .ok (.iload_n 1, 1) := by decide +kernel
theorem dX6_isMessage_1 : decode cX6_isMessage 1 = .ok (.iconst 0, 1) := by decide +kernel
theorem dX6_isMessage_2 : decode cX6_isMessage 2 = .ok (.aload_n 0, 1) := by decide +kernel
theorem dX6_isMessage_3 : decode cX6_isMessage 3 = .ok (.getfield 124, 3) := by decide +kernel
theorem dX6_isMessage_6 : decode cX6_isMessage 6 = .ok (.iconst 1, 1) := by decide +kernel
theorem dX6_isMessage_7 : decode cX6_isMessage 7 = .ok (.isub, 1) := by decide +kernel
theorem dX6_isMessage_8 : decode cX6_isMessage 8 = .ok (.invokestatic 105, 3) := by decide +kernel
theorem dX6_isMessage_11 : decode cX6_isMessage 11 = .ok (.ireturn, 1) := by decide +kernel
set_option maxRecDepth 20000 in
theorem ggX6_delete_X6_isMessage : GoodIn wsX6_delete wsX6_isMessage := goodIn_r _ [7, 8, 9, 10, 6, 11, 25, 26, 27, 28, 29, 30, 31, 32, 33, 34, 35, 36, 37, 38, 39, 40, 41, 42, 43, 44, 45, 46, 47, 48, 49, 50, 51, 52, 53, 54, 55, 56, 57] (by decide +kernel) (by decide +kernel)
set_option maxRecDepth 20000 in
theorem gX6_delete_X6_isMessage : GoodIn wsX6_delete (wsV RX6 144 RX6 yX6_isMessage wsX6_isMessage) := goodIn_app (goodIn_of _ (by decide +kernel)) ggX6_delete_X6_isMessage
set_option maxRecDepth 20000 in
theorem ggX6_delete_X6_fails : GoodIn wsX6_delete wsX6_fails := goodIn_r _ [15, 16, 25, 26, 27, 28, 29, 30, 31, 32, 33, 34, 35, 36, 37, 38, 39, 40, 41, 42, 43, 44, 45, 46, 47, 48, 49, 50, 51, 52, 53, 54, 55, 56, 57] (by decide +kernel) (by decide +kernel)
set_option maxRecDepth 20000 in
theorem gX6_delete_X6_fails : GoodIn wsX6_delete (wsV RX6 117 RX6 yX6_fails wsX6_fails) := goodIn_app (goodIn_of _ (by decide +kernel)) ggX6_delete_X6_fails
set_option maxRecDepth 20000 in
theorem ggX6_delete_X6_ends : GoodIn wsX6_delete wsX6_ends := goodIn_r _ [20, 1, 21, 22, 23, 24, 25, 26, 27, 28, 29, 30, 31, 32, 33, 34, 35, 36, 37, 38, 39, 40, 41, 42, 43, 44, 45, 46, 47, 48, 49, 50, 51, 52, 53, 54, 55, 56, 57] (by decide +kernel) (by decide +kernel)
set_option maxRecDepth 20000 in
theorem gX6_delete_X6_ends : GoodIn wsX6_delete (wsV RX6 140 RX6 yX6_ends wsX6_ends) := goodIn_app (goodIn_of _ (by decide +kernel)) ggX6_delete_X6_ends
theorem dX6_delete_0 : decode cX6_delete 0 = .ok (.aload_n 0, 1) := by decide +kernel
theorem dX6_delete_1 : decode cX6_delete 1 = .ok (.iload_n 1, 1) := by decide +kernel
theorem dX6_delete_2 : decode cX6_delete 2 = .ok (.invokevirtual 144, 3) := by decide +kernel
theorem dX6_delete_5 : decode cX6_delete 5 = .ok (.istore_n 2, 1) := by decide +kernel
theorem dX6_delete_6 : decode cX6_delete 6 = .ok (.aload_n 0, 1) := by decide +kernel
theorem dX6_delete_7 : decode cX6_delete 7 = .ok (.iload_n 2, 1) := by decide +kernel
theorem dX6_delete_8 : decode cX6_delete 8 = .ok (.ifCond .ne 7, 3) := by decide +kernel
theorem dX6_delete_11 : decode cX6_delete 11 = .ok (.iconst 1, 1) := by decide +kernel
theorem dX6_delete_12 : decode cX6_delete 12 = .ok (.goto 17, 3) := by decide +kernel
theorem dX6_delete_15 : decode cX6_delete 15 = .ok (.aload_n 0, 1) := by decide +kernel
theorem dX6_delete_16 : decode cX6_delete 16 = .ok (.getfield 74, 3) := by decide +kernel
theorem dX6_delete_19 : decode cX6_delete 19 = .ok (.iload_n 1, 1) := by decide +kernel
theorem dX6_delete_20 : decode cX6_delete 20 = .ok (.iaload, 1) := by decide +kernel
theorem dX6_delete_21 : decode cX6_delete 21 = .ok (.ifCond .ne 7, 3) := by decide +kernel
theorem dX6_delete_24 : decode cX6_delete 24 = .ok (.iconst 0, 1) := by decide +kernel
theorem dX6_delete_25 : decode cX6_delete 25 = .ok (.goto 4, 3) := by decide +kernel
theorem dX6_delete_28 : decode cX6_delete 28 = .ok (.iconst 2, 1) := by decide +kernel
theorem dX6_delete_29 : decode cX6_delete 29 = .ok (.invokevirtual 117, 3) := by decide +kernel
theorem dX6_delete_32 : decode cX6_delete 32 = .ok (.ifCond .eq 5, 3) := by decide +kernel
theorem dX6_delete_35 : decode cX6_delete 35 = .ok (.iconst 0, 1) := by decide +kernel
theorem dX6_delete_36 : decode cX6_delete 36 = .ok (.ireturn, 1) := by decide +kernel
theorem dX6_delete_37 : decode cX6_delete 37 = .ok (.aload_n 0, 1) := by decide +kernel
theorem dX6_delete_38 : decode cX6_delete 38 = .ok (.iload_n 1, 1) := by decide +kernel
theorem dX6_delete_39 : decode cX6_delete 39 = .ok (.iconst 3, 1) := by decide +kernel
theorem dX6_delete_40 : decode cX6_delete 40 = .ok (.invokevirtual 140, 3) := by decide +kernel
theorem dX6_delete_43 : decode cX6_delete 43 = .ok (.aload_n 0, 1) := by decide +kernel
theorem dX6_delete_44 : decode cX6_delete 44 = .ok (.getfield 77, 3) := by decide +kernel
theorem dX6_delete_47 : decode cX6_delete 47 = .ok (.iload_n 1, 1) := by decide +kernel
theorem dX6_delete_48 : decode cX6_delete 48 = .ok (.iaload, 1) := by decide +kernel
theorem dX6_delete_49 : decode cX6_delete 49 = .ok (.ireturn, 1) := by decide +kernel
set_option maxRecDepth 20000 in
theorem ggX6_messages_X6_tells : GoodIn wsX6_messages wsX6_tells := goodIn_r _ [6, 7, 8, 9, 10, 11, 12, 13, 14, 15, 16, 17, 18, 19, 20, 21, 22, 23, 24, 25, 26, 27, 28, 29, 30, 31, 32, 33, 34, 35, 36, 37, 38, 39, 40] (by decide +kernel) (by decide +kernel)
set_option maxRecDepth 20000 in
theorem gX6_messages_X6_tells : GoodIn wsX6_messages (wsV RX6 147 RX6 yX6_tells wsX6_tells) := goodIn_app (goodIn_of _ (by decide +kernel)) ggX6_messages_X6_tells
theorem dX6_messages_0 : decode cX6_messages 0 = .ok (.aload_n 0, 1) := by decide +kernel
theorem dX6_messages_1 : decode cX6_messages 1 = .ok (.aload_n 0, 1) := by decide +kernel
theorem dX6_messages_2 : decode cX6_messages 2 = .ok (.getfield 124, 3) := by decide +kernel
theorem dX6_messages_5 : decode cX6_messages 5 = .ok (.invokevirtual 147, 3) := by decide +kernel
theorem dX6_messages_8 : decode cX6_messages 8 = .ok (.ireturn, 1) := by decide +kernel
set_option maxRecDepth 20000 in
theorem ggX6_of_X6_isMessage : GoodIn wsX6_of wsX6_isMessage := goodIn_r _ [5, 6, 7, 8, 4, 9, 15, 16, 17, 18, 19, 20, 21, 22, 23, 24, 25, 26, 27, 28, 29, 30, 31, 32, 33, 34, 35, 36, 37, 38, 39, 40, 41, 42, 43, 44, 45, 46, 47] (by decide +kernel) (by decide +kernel)
set_option maxRecDepth 20000 in
theorem gX6_of_X6_isMessage : GoodIn wsX6_of (wsV RX6 144 RX6 yX6_isMessage wsX6_isMessage) := goodIn_app (goodIn_of _ (by decide +kernel)) ggX6_of_X6_isMessage
set_option maxRecDepth 20000 in
theorem ggX6_of_X6_fails : GoodIn wsX6_of wsX6_fails := goodIn_r _ [13, 14, 15, 16, 17, 18, 19, 20, 21, 22, 23, 24, 25, 26, 27, 28, 29, 30, 31, 32, 33, 34, 35, 36, 37, 38, 39, 40, 41, 42, 43, 44, 45, 46, 47] (by decide +kernel) (by decide +kernel)
set_option maxRecDepth 20000 in
theorem gX6_of_X6_fails : GoodIn wsX6_of (wsV RX6 117 RX6 yX6_fails wsX6_fails) := goodIn_app (goodIn_of _ (by decide +kernel)) ggX6_of_X6_fails
theorem dX6_of_0 : decode cX6_of 0 = .ok (.aload_n 0, 1) := by decide +kernel
theorem dX6_of_1 : decode cX6_of 1 = .ok (.aload_n 0, 1) := by decide +kernel
theorem dX6_of_2 : decode cX6_of 2 = .ok (.iload_n 2, 1) := by decide +kernel
theorem dX6_of_3 : decode cX6_of 3 = .ok (.invokevirtual 144, 3) := by decide +kernel
theorem dX6_of_6 : decode cX6_of 6 = .ok (.ifCond .eq 7, 3) := by decide +kernel
theorem dX6_of_9 : decode cX6_of 9 = .ok (.iconst 0, 1) := by decide +kernel
theorem dX6_of_10 : decode cX6_of 10 = .ok (.goto 4, 3) := by decide +kernel
theorem dX6_of_13 : decode cX6_of 13 = .ok (.iconst 1, 1) := by decide +kernel
theorem dX6_of_14 : decode cX6_of 14 = .ok (.invokevirtual 117, 3) := by decide +kernel
theorem dX6_of_17 : decode cX6_of 17 = .ok (.ifCond .eq 7, 3) := by decide +kernel
theorem dX6_of_20 : decode cX6_of 20 = .ok (.iconst 0, 1) := by decide +kernel
theorem dX6_of_21 : decode cX6_of 21 = .ok (.goto 6, 3) := by decide +kernel
theorem dX6_of_24 : decode cX6_of 24 = .ok (.aload_n 1, 1) := by decide +kernel
theorem dX6_of_25 : decode cX6_of 25 = .ok (.iload_n 2, 1) := by decide +kernel
theorem dX6_of_26 : decode cX6_of 26 = .ok (.iaload, 1) := by decide +kernel
theorem dX6_of_27 : decode cX6_of 27 = .ok (.ireturn, 1) := by decide +kernel
set_option maxRecDepth 20000 in
theorem ggX6_state_X6_of : GoodIn wsX6_state wsX6_of := goodIn_r _ [6, 7, 8, 9, 5, 10, 11, 12, 13, 14, 15, 16, 17, 18, 19, 20, 21, 22, 23, 24, 25, 26, 27, 28, 29, 30, 31, 32, 33, 34, 35, 36, 37, 38, 39, 40, 41, 42, 43, 44, 45, 46, 47, 48, 49, 50, 51, 52] (by decide +kernel) (by decide +kernel)
set_option maxRecDepth 20000 in
theorem gX6_state_X6_of : GoodIn wsX6_state (wsV RX6 151 RX6 yX6_of wsX6_of) := goodIn_app (goodIn_of _ (by decide +kernel)) ggX6_state_X6_of
theorem dX6_state_0 : decode cX6_state 0 = .ok (.aload_n 0, 1) := by decide +kernel
theorem dX6_state_1 : decode cX6_state 1 = .ok (.aload_n 0, 1) := by decide +kernel
theorem dX6_state_2 : decode cX6_state 2 = .ok (.getfield 74, 3) := by decide +kernel
theorem dX6_state_5 : decode cX6_state 5 = .ok (.iload_n 1, 1) := by decide +kernel
theorem dX6_state_6 : decode cX6_state 6 = .ok (.invokevirtual 151, 3) := by decide +kernel
theorem dX6_state_9 : decode cX6_state 9 = .ok (.ireturn, 1) := by decide +kernel
set_option maxRecDepth 20000 in
theorem ggX6_stateByLog_X6_of : GoodIn wsX6_stateByLog wsX6_of := goodIn_r _ [6, 7, 8, 9, 5, 10, 11, 12, 13, 14, 15, 16, 17, 18, 19, 20, 21, 22, 23, 24, 25, 26, 27, 28, 29, 30, 31, 32, 33, 34, 35, 36, 37, 38, 39, 40, 41, 42, 43, 44, 45, 46, 47, 48, 49, 50, 51, 52] (by decide +kernel) (by decide +kernel)
set_option maxRecDepth 20000 in
theorem gX6_stateByLog_X6_of : GoodIn wsX6_stateByLog (wsV RX6 151 RX6 yX6_of wsX6_of) := goodIn_app (goodIn_of _ (by decide +kernel)) ggX6_stateByLog_X6_of
theorem dX6_stateByLog_0 : decode cX6_stateByLog 0 = .ok (.aload_n 0, 1) := by decide +kernel
theorem dX6_stateByLog_1 : decode cX6_stateByLog 1 = .ok (.aload_n 0, 1) := by decide +kernel
theorem dX6_stateByLog_2 : decode cX6_stateByLog 2 = .ok (.getfield 74, 3) := by decide +kernel
theorem dX6_stateByLog_5 : decode cX6_stateByLog 5 = .ok (.iload_n 1, 1) := by decide +kernel
theorem dX6_stateByLog_6 : decode cX6_stateByLog 6 = .ok (.invokevirtual 151, 3) := by decide +kernel
theorem dX6_stateByLog_9 : decode cX6_stateByLog 9 = .ok (.ireturn, 1) := by decide +kernel
set_option maxRecDepth 20000 in
theorem ggX6_parted_X6_partsOf : GoodIn wsX6_parted wsX6_partsOf := goodIn_r _ [7, 8, 9, 6, 10] (by decide +kernel) (by decide +kernel)
set_option maxRecDepth 20000 in
theorem gX6_parted_X6_partsOf : GoodIn wsX6_parted (va_wsS RX6 120 yX6_partsOf wsX6_partsOf) := goodIn_app (goodIn_of _ (by decide +kernel)) ggX6_parted_X6_partsOf
theorem dX6_parted_0 : decode cX6_parted 0 = .ok (.aload_n 0, 1) := by decide +kernel
theorem dX6_parted_1 : decode cX6_parted 1 = .ok (.getfield 56, 3) := by decide +kernel
theorem dX6_parted_4 : decode cX6_parted 4 = .ok (.iload_n 1, 1) := by decide +kernel
theorem dX6_parted_5 : decode cX6_parted 5 = .ok (.iaload, 1) := by decide +kernel
theorem dX6_parted_6 : decode cX6_parted 6 = .ok (.aload_n 0, 1) := by decide +kernel
theorem dX6_parted_7 : decode cX6_parted 7 = .ok (.getfield 59, 3) := by decide +kernel
theorem dX6_parted_10 : decode cX6_parted 10 = .ok (.iload_n 1, 1) := by decide +kernel
theorem dX6_parted_11 : decode cX6_parted 11 = .ok (.iaload, 1) := by decide +kernel
theorem dX6_parted_12 : decode cX6_parted 12 = .ok (.aload_n 0, 1) := by decide +kernel
theorem dX6_parted_13 : decode cX6_parted 13 = .ok (.getfield 62, 3) := by decide +kernel
theorem dX6_parted_16 : decode cX6_parted 16 = .ok (.iload_n 1, 1) := by decide +kernel
theorem dX6_parted_17 : decode cX6_parted 17 = .ok (.baload, 1) := by decide +kernel
theorem dX6_parted_18 : decode cX6_parted 18 = .ok (.invokestatic 120, 3) := by decide +kernel
theorem dX6_parted_21 : decode cX6_parted 21 = .ok (.ireturn, 1) := by decide +kernel
set_option maxRecDepth 20000 in
theorem ggX6_parts_X6_isMessage : GoodIn wsX6_parts wsX6_isMessage := goodIn_r _ [5, 6, 7, 8, 4, 9, 28, 29, 30, 31, 32, 33, 34, 35, 36, 37, 38, 39, 40, 41, 42, 43, 44, 45, 46, 47, 48, 49, 50, 51, 52, 53, 54, 55, 56, 57, 58, 59, 60] (by decide +kernel) (by decide +kernel)
set_option maxRecDepth 20000 in
theorem gX6_parts_X6_isMessage : GoodIn wsX6_parts (wsV RX6 144 RX6 yX6_isMessage wsX6_isMessage) := goodIn_app (goodIn_of _ (by decide +kernel)) ggX6_parts_X6_isMessage
set_option maxRecDepth 20000 in
theorem ggX6_parts_X6_fails : GoodIn wsX6_parts wsX6_fails := goodIn_r _ [13, 14, 28, 29, 30, 31, 32, 33, 34, 35, 36, 37, 38, 39, 40, 41, 42, 43, 44, 45, 46, 47, 48, 49, 50, 51, 52, 53, 54, 55, 56, 57, 58, 59, 60] (by decide +kernel) (by decide +kernel)
set_option maxRecDepth 20000 in
theorem gX6_parts_X6_fails : GoodIn wsX6_parts (wsV RX6 117 RX6 yX6_fails wsX6_fails) := goodIn_app (goodIn_of _ (by decide +kernel)) ggX6_parts_X6_fails
set_option maxRecDepth 20000 in
theorem ggX6_parts_X6_parted : GoodIn wsX6_parts wsX6_parted := goodIn_r _ [18, 19, 20, 21, 22, 23, 4, 24, 25, 26, 27, 28, 29, 30, 31, 32, 33, 34, 35, 36, 37, 38, 39, 40, 41, 42, 43, 44, 45, 46, 47, 48, 49, 50, 51, 52, 53, 54, 55, 56, 57, 58, 59, 60] (by decide +kernel) (by decide +kernel)
set_option maxRecDepth 20000 in
theorem gX6_parts_X6_parted : GoodIn wsX6_parts (wsV RX6 155 RX6 yX6_parted wsX6_parted) := goodIn_app (goodIn_of _ (by decide +kernel)) ggX6_parts_X6_parted
theorem dX6_parts_0 : decode cX6_parts 0 = .ok (.aload_n 0, 1) := by decide +kernel
theorem dX6_parts_1 : decode cX6_parts 1 = .ok (.aload_n 0, 1) := by decide +kernel
theorem dX6_parts_2 : decode cX6_parts 2 = .ok (.iload_n 1, 1) := by decide +kernel
theorem dX6_parts_3 : decode cX6_parts 3 = .ok (.invokevirtual 144, 3) := by decide +kernel
theorem dX6_parts_6 : decode cX6_parts 6 = .ok (.ifCond .eq 7, 3) := by decide +kernel
theorem dX6_parts_9 : decode cX6_parts 9 = .ok (.iconst 0, 1) := by decide +kernel
theorem dX6_parts_10 : decode cX6_parts 10 = .ok (.goto 4, 3) := by decide +kernel
theorem dX6_parts_13 : decode cX6_parts 13 = .ok (.iconst 1, 1) := by decide +kernel
theorem dX6_parts_14 : decode cX6_parts 14 = .ok (.invokevirtual 117, 3) := by decide +kernel
theorem dX6_parts_17 : decode cX6_parts 17 = .ok (.ifCond .eq 7, 3) := by decide +kernel
theorem dX6_parts_20 : decode cX6_parts 20 = .ok (.iconst 0, 1) := by decide +kernel
theorem dX6_parts_21 : decode cX6_parts 21 = .ok (.goto 8, 3) := by decide +kernel
theorem dX6_parts_24 : decode cX6_parts 24 = .ok (.aload_n 0, 1) := by decide +kernel
theorem dX6_parts_25 : decode cX6_parts 25 = .ok (.iload_n 1, 1) := by decide +kernel
theorem dX6_parts_26 : decode cX6_parts 26 = .ok (.invokevirtual 155, 3) := by decide +kernel
theorem dX6_parts_29 : decode cX6_parts 29 = .ok (.ireturn, 1) := by decide +kernel
set_option maxRecDepth 20000 in
theorem ggX6_lettersIn_X6_isMessage : GoodIn wsX6_lettersIn wsX6_isMessage := goodIn_r _ [8, 9, 10, 11, 7, 12, 28, 29, 30, 31, 32, 33, 34, 35, 36, 37, 38, 39, 40, 41, 42, 43, 44, 45, 46, 47, 48, 49, 50, 51, 52, 53, 54, 55, 56, 57, 58, 59, 60] (by decide +kernel) (by decide +kernel)
set_option maxRecDepth 20000 in
theorem gX6_lettersIn_X6_isMessage : GoodIn wsX6_lettersIn (wsV RX6 144 RX6 yX6_isMessage wsX6_isMessage) := goodIn_app (goodIn_of _ (by decide +kernel)) ggX6_lettersIn_X6_isMessage
set_option maxRecDepth 20000 in
theorem ggX6_lettersIn_X6_parted : GoodIn wsX6_lettersIn wsX6_parted := goodIn_r _ [16, 1, 2, 3, 17, 18, 7, 19, 20, 21, 22, 28, 29, 30, 31, 32, 33, 34, 35, 36, 37, 38, 39, 40, 41, 42, 43, 44, 45, 46, 47, 48, 49, 50, 51, 52, 53, 54, 55, 56, 57, 58, 59, 60] (by decide +kernel) (by decide +kernel)
set_option maxRecDepth 20000 in
theorem gX6_lettersIn_X6_parted : GoodIn wsX6_lettersIn (wsV RX6 155 RX6 yX6_parted wsX6_parted) := goodIn_app (goodIn_of _ (by decide +kernel)) ggX6_lettersIn_X6_parted
set_option maxRecDepth 20000 in
theorem ggX6_lettersIn_X6_fails : GoodIn wsX6_lettersIn wsX6_fails := goodIn_r _ [26, 27, 28, 29, 30, 31, 32, 33, 34, 35, 36, 37, 38, 39, 40, 41, 42, 43, 44, 45, 46, 47, 48, 49, 50, 51, 52, 53, 54, 55, 56, 57, 58, 59, 60] (by decide +kernel) (by decide +kernel)
set_option maxRecDepth 20000 in
theorem gX6_lettersIn_X6_fails : GoodIn wsX6_lettersIn (wsV RX6 117 RX6 yX6_fails wsX6_fails) := goodIn_app (goodIn_of _ (by decide +kernel)) ggX6_lettersIn_X6_fails
set_option maxRecDepth 20000 in
theorem ggX6_lettersIn_X6_lettersOf : GoodIn wsX6_lettersIn wsX6_lettersOf := goodIn_r _ [22] (by decide +kernel) (by decide +kernel)
set_option maxRecDepth 20000 in
theorem gX6_lettersIn_X6_lettersOf : GoodIn wsX6_lettersIn (va_wsS RX6 109 yX6_lettersOf wsX6_lettersOf) := goodIn_app (goodIn_of _ (by decide +kernel)) ggX6_lettersIn_X6_lettersOf
theorem dX6_lettersIn_0 : decode cX6_lettersIn 0 = .ok (.aload_n 0, 1) := by decide +kernel
theorem dX6_lettersIn_1 : decode cX6_lettersIn 1 = .ok (.iload_n 1, 1) := by decide +kernel
theorem dX6_lettersIn_2 : decode cX6_lettersIn 2 = .ok (.invokevirtual 144, 3) := by decide +kernel
theorem dX6_lettersIn_5 : decode cX6_lettersIn 5 = .ok (.ifCond .eq 20, 3) := by decide +kernel
theorem dX6_lettersIn_8 : decode cX6_lettersIn 8 = .ok (.iload_n 2, 1) := by decide +kernel
theorem dX6_lettersIn_9 : decode cX6_lettersIn 9 = .ok (.ifCond .lt 16, 3) := by decide +kernel
theorem dX6_lettersIn_12 : decode cX6_lettersIn 12 = .ok (.iload_n 2, 1) := by decide +kernel
theorem dX6_lettersIn_13 : decode cX6_lettersIn 13 = .ok (.aload_n 0, 1) := by decide +kernel
theorem dX6_lettersIn_14 : decode cX6_lettersIn 14 = .ok (.iload_n 1, 1) := by decide +kernel
theorem dX6_lettersIn_15 : decode cX6_lettersIn 15 = .ok (.invokevirtual 155, 3) := by decide +kernel
theorem dX6_lettersIn_18 : decode cX6_lettersIn 18 = .ok (.if_icmp .ge 7, 3) := by decide +kernel
theorem dX6_lettersIn_21 : decode cX6_lettersIn 21 = .ok (.iconst 1, 1) := by decide +kernel
theorem dX6_lettersIn_22 : decode cX6_lettersIn 22 = .ok (.goto 4, 3) := by decide +kernel
theorem dX6_lettersIn_25 : decode cX6_lettersIn 25 = .ok (.iconst 0, 1) := by decide +kernel
theorem dX6_lettersIn_26 : decode cX6_lettersIn 26 = .ok (.istore_n 3, 1) := by decide +kernel
theorem dX6_lettersIn_27 : decode cX6_lettersIn 27 = .ok (.aload_n 0, 1) := by decide +kernel
theorem dX6_lettersIn_28 : decode cX6_lettersIn 28 = .ok (.iload_n 3, 1) := by decide +kernel
theorem dX6_lettersIn_29 : decode cX6_lettersIn 29 = .ok (.ifCond .eq 7, 3) := by decide +kernel
theorem dX6_lettersIn_32 : decode cX6_lettersIn 32 = .ok (.iconst 0, 1) := by decide +kernel
theorem dX6_lettersIn_33 : decode cX6_lettersIn 33 = .ok (.goto 4, 3) := by decide +kernel
theorem dX6_lettersIn_36 : decode cX6_lettersIn 36 = .ok (.iconst 1, 1) := by decide +kernel
theorem dX6_lettersIn_37 : decode cX6_lettersIn 37 = .ok (.invokevirtual 117, 3) := by decide +kernel
theorem dX6_lettersIn_40 : decode cX6_lettersIn 40 = .ok (.ifCond .eq 7, 3) := by decide +kernel
theorem dX6_lettersIn_43 : decode cX6_lettersIn 43 = .ok (.iconst 0, 1) := by decide +kernel
theorem dX6_lettersIn_44 : decode cX6_lettersIn 44 = .ok (.goto 25, 3) := by decide +kernel
theorem dX6_lettersIn_47 : decode cX6_lettersIn 47 = .ok (.aload_n 0, 1) := by decide +kernel
theorem dX6_lettersIn_48 : decode cX6_lettersIn 48 = .ok (.getfield 56, 3) := by decide +kernel
theorem dX6_lettersIn_51 : decode cX6_lettersIn 51 = .ok (.iload_n 1, 1) := by decide +kernel
theorem dX6_lettersIn_52 : decode cX6_lettersIn 52 = .ok (.iaload, 1) := by decide +kernel
theorem dX6_lettersIn_53 : decode cX6_lettersIn 53 = .ok (.aload_n 0, 1) := by decide +kernel
theorem dX6_lettersIn_54 : decode cX6_lettersIn 54 = .ok (.getfield 59, 3) := by decide +kernel
theorem dX6_lettersIn_57 : decode cX6_lettersIn 57 = .ok (.iload_n 1, 1) := by decide +kernel
theorem dX6_lettersIn_58 : decode cX6_lettersIn 58 = .ok (.iaload, 1) := by decide +kernel
theorem dX6_lettersIn_59 : decode cX6_lettersIn 59 = .ok (.aload_n 0, 1) := by decide +kernel
theorem dX6_lettersIn_60 : decode cX6_lettersIn 60 = .ok (.getfield 62, 3) := by decide +kernel
theorem dX6_lettersIn_63 : decode cX6_lettersIn 63 = .ok (.iload_n 1, 1) := by decide +kernel
theorem dX6_lettersIn_64 : decode cX6_lettersIn 64 = .ok (.baload, 1) := by decide +kernel
theorem dX6_lettersIn_65 : decode cX6_lettersIn 65 = .ok (.iload_n 2, 1) := by decide +kernel
theorem dX6_lettersIn_66 : decode cX6_lettersIn 66 = .ok (.invokestatic 109, 3) := by decide +kernel
theorem dX6_lettersIn_69 : decode cX6_lettersIn 69 = .ok (.ireturn, 1) := by decide +kernel
set_option maxRecDepth 20000 in
theorem ggX6_delivered_X6_of : GoodIn wsX6_delivered wsX6_of := goodIn_r _ [6, 7, 8, 9, 5, 10, 11, 12, 13, 14, 15, 16, 17, 18, 19, 20, 21, 22, 23, 24, 25, 26, 27, 28, 29, 30, 31, 32, 33, 34, 35, 36, 37, 38, 39, 40, 41, 42, 43, 44, 45, 46, 47, 48, 49, 50, 51, 52] (by decide +kernel) (by decide +kernel)
set_option maxRecDepth 20000 in
theorem gX6_delivered_X6_of : GoodIn wsX6_delivered (wsV RX6 151 RX6 yX6_of wsX6_of) := goodIn_app (goodIn_of _ (by decide +kernel)) ggX6_delivered_X6_of
theorem dX6_delivered_0 : decode cX6_delivered 0 = .ok (.aload_n 0, 1) := by decide +kernel
theorem dX6_delivered_1 : decode cX6_delivered 1 = .ok (.aload_n 0, 1) := by decide +kernel
theorem dX6_delivered_2 : decode cX6_delivered 2 = .ok (.getfield 77, 3) := by decide +kernel
theorem dX6_delivered_5 : decode cX6_delivered 5 = .ok (.iload_n 1, 1) := by decide +kernel
theorem dX6_delivered_6 : decode cX6_delivered 6 = .ok (.invokevirtual 151, 3) := by decide +kernel
theorem dX6_delivered_9 : decode cX6_delivered 9 = .ok (.ireturn, 1) := by decide +kernel
set_option maxRecDepth 20000 in
theorem ggX6_attempts_X6_of : GoodIn wsX6_attempts wsX6_of := goodIn_r _ [6, 7, 8, 9, 5, 10, 11, 12, 13, 14, 15, 16, 17, 18, 19, 20, 21, 22, 23, 24, 25, 26, 27, 28, 29, 30, 31, 32, 33, 34, 35, 36, 37, 38, 39, 40, 41, 42, 43, 44, 45, 46, 47, 48, 49, 50, 51, 52] (by decide +kernel) (by decide +kernel)
set_option maxRecDepth 20000 in
theorem gX6_attempts_X6_of : GoodIn wsX6_attempts (wsV RX6 151 RX6 yX6_of wsX6_of) := goodIn_app (goodIn_of _ (by decide +kernel)) ggX6_attempts_X6_of
theorem dX6_attempts_0 : decode cX6_attempts 0 = .ok (.aload_n 0, 1) := by decide +kernel
theorem dX6_attempts_1 : decode cX6_attempts 1 = .ok (.aload_n 0, 1) := by decide +kernel
theorem dX6_attempts_2 : decode cX6_attempts 2 = .ok (.getfield 80, 3) := by decide +kernel
theorem dX6_attempts_5 : decode cX6_attempts 5 = .ok (.iload_n 1, 1) := by decide +kernel
theorem dX6_attempts_6 : decode cX6_attempts 6 = .ok (.invokevirtual 151, 3) := by decide +kernel
theorem dX6_attempts_9 : decode cX6_attempts 9 = .ok (.ireturn, 1) := by decide +kernel
set_option maxRecDepth 20000 in
theorem ggX6_due_X6_isMessage : GoodIn wsX6_due wsX6_isMessage := goodIn_r _ [7, 8, 9, 10, 6, 11, 17, 18, 19, 20, 21, 22, 23, 24, 25, 26, 27, 28, 29, 30, 31, 32, 33, 34, 35, 36, 37, 38, 39, 40, 41, 42, 43, 44, 45, 46, 47, 48, 49] (by decide +kernel) (by decide +kernel)
set_option maxRecDepth 20000 in
theorem gX6_due_X6_isMessage : GoodIn wsX6_due (wsV RX6 144 RX6 yX6_isMessage wsX6_isMessage) := goodIn_app (goodIn_of _ (by decide +kernel)) ggX6_due_X6_isMessage
set_option maxRecDepth 20000 in
theorem ggX6_due_X6_fails : GoodIn wsX6_due wsX6_fails := goodIn_r _ [15, 16, 17, 18, 19, 20, 21, 22, 23, 24, 25, 26, 27, 28, 29, 30, 31, 32, 33, 34, 35, 36, 37, 38, 39, 40, 41, 42, 43, 44, 45, 46, 47, 48, 49] (by decide +kernel) (by decide +kernel)
set_option maxRecDepth 20000 in
theorem gX6_due_X6_fails : GoodIn wsX6_due (wsV RX6 117 RX6 yX6_fails wsX6_fails) := goodIn_app (goodIn_of _ (by decide +kernel)) ggX6_due_X6_fails
theorem dX6_due_0 : decode cX6_due 0 = .ok (.aload_n 0, 1) := by decide +kernel
theorem dX6_due_1 : decode cX6_due 1 = .ok (.iload_n 1, 1) := by decide +kernel
theorem dX6_due_2 : decode cX6_due 2 = .ok (.invokevirtual 144, 3) := by decide +kernel
theorem dX6_due_5 : decode cX6_due 5 = .ok (.istore_n 2, 1) := by decide +kernel
theorem dX6_due_6 : decode cX6_due 6 = .ok (.aload_n 0, 1) := by decide +kernel
theorem dX6_due_7 : decode cX6_due 7 = .ok (.iload_n 2, 1) := by decide +kernel
theorem dX6_due_8 : decode cX6_due 8 = .ok (.ifCond .ne 7, 3) := by decide +kernel
theorem dX6_due_11 : decode cX6_due 11 = .ok (.iconst 1, 1) := by decide +kernel
theorem dX6_due_12 : decode cX6_due 12 = .ok (.goto 17, 3) := by decide +kernel
theorem dX6_due_15 : decode cX6_due 15 = .ok (.aload_n 0, 1) := by decide +kernel
theorem dX6_due_16 : decode cX6_due 16 = .ok (.getfield 74, 3) := by decide +kernel
theorem dX6_due_19 : decode cX6_due 19 = .ok (.iload_n 1, 1) := by decide +kernel
theorem dX6_due_20 : decode cX6_due 20 = .ok (.iaload, 1) := by decide +kernel
theorem dX6_due_21 : decode cX6_due 21 = .ok (.ifCond .ne 7, 3) := by decide +kernel
theorem dX6_due_24 : decode cX6_due 24 = .ok (.iconst 0, 1) := by decide +kernel
theorem dX6_due_25 : decode cX6_due 25 = .ok (.goto 4, 3) := by decide +kernel
theorem dX6_due_28 : decode cX6_due 28 = .ok (.iconst 2, 1) := by decide +kernel
theorem dX6_due_29 : decode cX6_due 29 = .ok (.invokevirtual 117, 3) := by decide +kernel
theorem dX6_due_32 : decode cX6_due 32 = .ok (.ifCond .eq 7, 3) := by decide +kernel
theorem dX6_due_35 : decode cX6_due 35 = .ok (.iconst 0, 1) := by decide +kernel
theorem dX6_due_36 : decode cX6_due 36 = .ok (.goto 9, 3) := by decide +kernel
theorem dX6_due_39 : decode cX6_due 39 = .ok (.aload_n 0, 1) := by decide +kernel
theorem dX6_due_40 : decode cX6_due 40 = .ok (.getfield 83, 3) := by decide +kernel
theorem dX6_due_43 : decode cX6_due 43 = .ok (.iload_n 1, 1) := by decide +kernel
theorem dX6_due_44 : decode cX6_due 44 = .ok (.iaload, 1) := by decide +kernel
theorem dX6_due_45 : decode cX6_due 45 = .ok (.ireturn, 1) := by decide +kernel
theorem dX6_waits_0 : decode cX6_waits 0 = .ok (.aload_n 0, 1) := by decide +kernel
theorem dX6_waits_1 : decode cX6_waits 1 = .ok (.getfield 74, 3) := by decide +kernel
theorem dX6_waits_4 : decode cX6_waits 4 = .ok (.iload_n 1, 1) := by decide +kernel
theorem dX6_waits_5 : decode cX6_waits 5 = .ok (.iaload, 1) := by decide +kernel
theorem dX6_waits_6 : decode cX6_waits 6 = .ok (.ifCond .ne 17, 3) := by decide +kernel
theorem dX6_waits_9 : decode cX6_waits 9 = .ok (.aload_n 0, 1) := by decide +kernel
theorem dX6_waits_10 : decode cX6_waits 10 = .ok (.getfield 44, 3) := by decide +kernel
theorem dX6_waits_13 : decode cX6_waits 13 = .ok (.iload_n 1, 1) := by decide +kernel
theorem dX6_waits_14 : decode cX6_waits 14 = .ok (.iaload, 1) := by decide +kernel
theorem dX6_waits_15 : decode cX6_waits 15 = .ok (.iload_n 2, 1) := by decide +kernel
theorem dX6_waits_16 : decode cX6_waits 16 = .ok (.if_icmp .ne 7, 3) := by decide +kernel
theorem dX6_waits_19 : decode cX6_waits 19 = .ok (.iconst 1, 1) := by decide +kernel
theorem dX6_waits_20 : decode cX6_waits 20 = .ok (.goto 4, 3) := by decide +kernel
theorem dX6_waits_23 : decode cX6_waits 23 = .ok (.iconst 0, 1) := by decide +kernel
