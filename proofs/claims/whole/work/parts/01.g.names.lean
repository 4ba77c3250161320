theorem dX6_waits_24 : decode cX6_waits 24 = .ok (.ireturn, 1) := by decide +kernel
set_option maxRecDepth 20000 in
theorem ggX6_wakes_X6_waits : GoodIn wsX6_wakes wsX6_waits := goodIn_r _ [9, 10, 11, 12, 13, 14, 15, 16, 17, 18, 19, 20, 21, 22, 23, 24, 25, 26, 27, 28, 29, 30, 31, 32, 33, 34, 35, 36, 37, 38, 39, 40, 41, 42, 43, 44] (by decide +kernel) (by decide +kernel)
set_option maxRecDepth 20000 in
theorem gX6_wakes_X6_waits : GoodIn wsX6_wakes (wsV RX6 158 RX6 yX6_waits wsX6_waits) := goodIn_app (goodIn_of _ (by decide +kernel)) ggX6_wakes_X6_waits
theorem dX6_wakes_0 : decode cX6_wakes 0 = .ok (.aload_n 0, 1) := by decide +kernel
theorem dX6_wakes_1 : decode cX6_wakes 1 = .ok (.getfield 98, 3) := by decide +kernel
theorem dX6_wakes_4 : decode cX6_wakes 4 = .ok (.iload_n 1, 1) := by decide +kernel
theorem dX6_wakes_5 : decode cX6_wakes 5 = .ok (.iaload, 1) := by decide +kernel
theorem dX6_wakes_6 : decode cX6_wakes 6 = .ok (.iload_n 2, 1) := by decide +kernel
theorem dX6_wakes_7 : decode cX6_wakes 7 = .ok (.iand, 1) := by decide +kernel
theorem dX6_wakes_8 : decode cX6_wakes 8 = .ok (.iload_n 2, 1) := by decide +kernel
theorem dX6_wakes_9 : decode cX6_wakes 9 = .ok (.if_icmp .ne 70, 3) := by decide +kernel
theorem dX6_wakes_12 : decode cX6_wakes 12 = .ok (.aload_n 0, 1) := by decide +kernel
theorem dX6_wakes_13 : decode cX6_wakes 13 = .ok (.getfield 98, 3) := by decide +kernel
theorem dX6_wakes_16 : decode cX6_wakes 16 = .ok (.iload_n 1, 1) := by decide +kernel
theorem dX6_wakes_17 : decode cX6_wakes 17 = .ok (.dup2, 1) := by decide +kernel
theorem dX6_wakes_18 : decode cX6_wakes 18 = .ok (.iaload, 1) := by decide +kernel
theorem dX6_wakes_19 : decode cX6_wakes 19 = .ok (.iload_n 2, 1) := by decide +kernel
theorem dX6_wakes_20 : decode cX6_wakes 20 = .ok (.isub, 1) := by decide +kernel
theorem dX6_wakes_21 : decode cX6_wakes 21 = .ok (.iastore, 1) := by decide +kernel
theorem dX6_wakes_22 : decode cX6_wakes 22 = .ok (.iconst 0, 1) := by decide +kernel
theorem dX6_wakes_23 : decode cX6_wakes 23 = .ok (.istore_n 3, 1) := by decide +kernel
theorem dX6_wakes_24 : decode cX6_wakes 24 = .ok (.iload_n 3, 1) := by decide +kernel
theorem dX6_wakes_25 : decode cX6_wakes 25 = .ok (.aload_n 0, 1) := by decide +kernel
theorem dX6_wakes_26 : decode cX6_wakes 26 = .ok (.getfield 124, 3) := by decide +kernel
theorem dX6_wakes_29 : decode cX6_wakes 29 = .ok (.if_icmp .ge 50, 3) := by decide +kernel
theorem dX6_wakes_32 : decode cX6_wakes 32 = .ok (.aload_n 0, 1) := by decide +kernel
theorem dX6_wakes_33 : decode cX6_wakes 33 = .ok (.getfield 83, 3) := by decide +kernel
theorem dX6_wakes_36 : decode cX6_wakes 36 = .ok (.iload_n 3, 1) := by decide +kernel
theorem dX6_wakes_37 : decode cX6_wakes 37 = .ok (.aload_n 0, 1) := by decide +kernel
theorem dX6_wakes_38 : decode cX6_wakes 38 = .ok (.iload_n 3, 1) := by decide +kernel
theorem dX6_wakes_39 : decode cX6_wakes 39 = .ok (.iload_n 1, 1) := by decide +kernel
theorem dX6_wakes_40 : decode cX6_wakes 40 = .ok (.invokevirtual 158, 3) := by decide +kernel
theorem dX6_wakes_43 : decode cX6_wakes 43 = .ok (.ifCond .eq 23, 3) := by decide +kernel
theorem dX6_wakes_46 : decode cX6_wakes 46 = .ok (.aload_n 0, 1) := by decide +kernel
theorem dX6_wakes_47 : decode cX6_wakes 47 = .ok (.getfield 83, 3) := by decide +kernel
theorem dX6_wakes_50 : decode cX6_wakes 50 = .ok (.iload_n 3, 1) := by decide +kernel
theorem dX6_wakes_51 : decode cX6_wakes 51 = .ok (.iaload, 1) := by decide +kernel
theorem dX6_wakes_52 : decode cX6_wakes 52 = .ok (.aload_n 0, 1) := by decide +kernel
theorem dX6_wakes_53 : decode cX6_wakes 53 = .ok (.getfield 127, 3) := by decide +kernel
theorem dX6_wakes_56 : decode cX6_wakes 56 = .ok (.if_icmp .le 10, 3) := by decide +kernel
theorem dX6_wakes_59 : decode cX6_wakes 59 = .ok (.aload_n 0, 1) := by decide +kernel
theorem dX6_wakes_60 : decode cX6_wakes 60 = .ok (.getfield 127, 3) := by decide +kernel
theorem dX6_wakes_63 : decode cX6_wakes 63 = .ok (.goto 9, 3) := by decide +kernel
theorem dX6_wakes_66 : decode cX6_wakes 66 = .ok (.aload_n 0, 1) := by decide +kernel
theorem dX6_wakes_67 : decode cX6_wakes 67 = .ok (.getfield 83, 3) := by decide +kernel
theorem dX6_wakes_70 : decode cX6_wakes 70 = .ok (.iload_n 3, 1) := by decide +kernel
theorem dX6_wakes_71 : decode cX6_wakes 71 = .ok (.iaload, 1) := by decide +kernel
theorem dX6_wakes_72 : decode cX6_wakes 72 = .ok (.iastore, 1) := by decide +kernel
theorem dX6_wakes_73 : decode cX6_wakes 73 = .ok (.iinc 3 1, 3) := by decide +kernel
theorem dX6_wakes_76 : decode cX6_wakes 76 = .ok (.goto (-52), 3) := by decide +kernel
theorem dX6_wakes_79 : decode cX6_wakes 79 = .ok (.return_, 1) := by decide +kernel
set_option maxRecDepth 20000 in
theorem ggX6_setMode_X6_isRecipient : GoodIn wsX6_setMode wsX6_isRecipient := goodIn_r _ [5, 6, 7, 4, 8] (by decide +kernel) (by decide +kernel)
set_option maxRecDepth 20000 in
theorem gX6_setMode_X6_isRecipient : GoodIn wsX6_setMode (va_wsS RX6 130 yX6_isRecipient wsX6_isRecipient) := goodIn_app (goodIn_of _ (by decide +kernel)) ggX6_setMode_X6_isRecipient
set_option maxRecDepth 20000 in
theorem ggX6_setMode_X6_isIn : GoodIn wsX6_setMode wsX6_isIn := goodIn_r _ [8] (by decide +kernel) (by decide +kernel)
set_option maxRecDepth 20000 in
theorem gX6_setMode_X6_isIn : GoodIn wsX6_setMode (va_wsS RX6 105 yX6_isIn wsX6_isIn) := goodIn_app (goodIn_of _ (by decide +kernel)) ggX6_setMode_X6_isIn
set_option maxRecDepth 20000 in
theorem ggX6_setMode_X6_fails : GoodIn wsX6_setMode wsX6_fails := goodIn_r _ [12, 13, 28, 29, 30, 31, 32, 33, 34, 35, 36, 37, 38, 39, 40, 41, 42, 43, 44, 45, 46, 47, 48, 49, 50, 51, 52, 53, 54, 55, 56, 57, 58, 59, 60] (by decide +kernel) (by decide +kernel)
set_option maxRecDepth 20000 in
theorem gX6_setMode_X6_fails : GoodIn wsX6_setMode (wsV RX6 117 RX6 yX6_fails wsX6_fails) := goodIn_app (goodIn_of _ (by decide +kernel)) ggX6_setMode_X6_fails
set_option maxRecDepth 20000 in
theorem ggX6_setMode_X6_wakes : GoodIn wsX6_setMode wsX6_wakes := goodIn_r _ [17, 18, 19, 20, 21, 22, 23, 24, 4, 25, 26, 27, 28, 29, 30, 31, 32, 33, 34, 35, 36, 37, 38, 39, 40, 41, 42, 43, 44, 45, 46, 47, 48, 49, 50, 51, 52, 53, 54, 55, 56, 57, 58, 59, 60] (by decide +kernel) (by decide +kernel)
set_option maxRecDepth 20000 in
theorem gX6_setMode_X6_wakes : GoodIn wsX6_setMode (wsV RX6 162 RX6 yX6_wakes wsX6_wakes) := goodIn_app (goodIn_of _ (by decide +kernel)) ggX6_setMode_X6_wakes
theorem dX6_setMode_0 : decode cX6_setMode 0 = .ok (.aload_n 0, 1) := by decide +kernel
theorem dX6_setMode_1 : decode cX6_setMode 1 = .ok (.iload_n 1, 1) := by decide +kernel
theorem dX6_setMode_2 : decode cX6_setMode 2 = .ok (.invokestatic 130, 3) := by decide +kernel
theorem dX6_setMode_5 : decode cX6_setMode 5 = .ok (.ifCond .ne 7, 3) := by decide +kernel
theorem dX6_setMode_8 : decode cX6_setMode 8 = .ok (.iconst 1, 1) := by decide +kernel
theorem dX6_setMode_9 : decode cX6_setMode 9 = .ok (.goto 17, 3) := by decide +kernel
theorem dX6_setMode_12 : decode cX6_setMode 12 = .ok (.iload_n 2, 1) := by decide +kernel
theorem dX6_setMode_13 : decode cX6_setMode 13 = .ok (.iconst 0, 1) := by decide +kernel
theorem dX6_setMode_14 : decode cX6_setMode 14 = .ok (.iconst 3, 1) := by decide +kernel
theorem dX6_setMode_15 : decode cX6_setMode 15 = .ok (.invokestatic 105, 3) := by decide +kernel
theorem dX6_setMode_18 : decode cX6_setMode 18 = .ok (.ifCond .eq 7, 3) := by decide +kernel
theorem dX6_setMode_21 : decode cX6_setMode 21 = .ok (.iconst 0, 1) := by decide +kernel
theorem dX6_setMode_22 : decode cX6_setMode 22 = .ok (.goto 4, 3) := by decide +kernel
theorem dX6_setMode_25 : decode cX6_setMode 25 = .ok (.iconst 2, 1) := by decide +kernel
theorem dX6_setMode_26 : decode cX6_setMode 26 = .ok (.invokevirtual 117, 3) := by decide +kernel
theorem dX6_setMode_29 : decode cX6_setMode 29 = .ok (.ifCond .eq 5, 3) := by decide +kernel
theorem dX6_setMode_32 : decode cX6_setMode 32 = .ok (.iconst 0, 1) := by decide +kernel
theorem dX6_setMode_33 : decode cX6_setMode 33 = .ok (.ireturn, 1) := by decide +kernel
theorem dX6_setMode_34 : decode cX6_setMode 34 = .ok (.aload_n 0, 1) := by decide +kernel
theorem dX6_setMode_35 : decode cX6_setMode 35 = .ok (.getfield 89, 3) := by decide +kernel
theorem dX6_setMode_38 : decode cX6_setMode 38 = .ok (.iload_n 1, 1) := by decide +kernel
theorem dX6_setMode_39 : decode cX6_setMode 39 = .ok (.iaload, 1) := by decide +kernel
theorem dX6_setMode_40 : decode cX6_setMode 40 = .ok (.istore_n 3, 1) := by decide +kernel
theorem dX6_setMode_41 : decode cX6_setMode 41 = .ok (.aload_n 0, 1) := by decide +kernel
theorem dX6_setMode_42 : decode cX6_setMode 42 = .ok (.getfield 89, 3) := by decide +kernel
theorem dX6_setMode_45 : decode cX6_setMode 45 = .ok (.iload_n 1, 1) := by decide +kernel
theorem dX6_setMode_46 : decode cX6_setMode 46 = .ok (.iload_n 2, 1) := by decide +kernel
theorem dX6_setMode_47 : decode cX6_setMode 47 = .ok (.iastore, 1) := by decide +kernel
theorem dX6_setMode_48 : decode cX6_setMode 48 = .ok (.iload_n 2, 1) := by decide +kernel
theorem dX6_setMode_49 : decode cX6_setMode 49 = .ok (.ifCond .ne 9, 3) := by decide +kernel
theorem dX6_setMode_52 : decode cX6_setMode 52 = .ok (.aload_n 0, 1) := by decide +kernel
theorem dX6_setMode_53 : decode cX6_setMode 53 = .ok (.iload_n 1, 1) := by decide +kernel
theorem dX6_setMode_54 : decode cX6_setMode 54 = .ok (.iconst 1, 1) := by decide +kernel
theorem dX6_setMode_55 : decode cX6_setMode 55 = .ok (.invokevirtual 162, 3) := by decide +kernel
theorem dX6_setMode_58 : decode cX6_setMode 58 = .ok (.iload_n 3, 1) := by decide +kernel
theorem dX6_setMode_59 : decode cX6_setMode 59 = .ok (.ireturn, 1) := by decide +kernel
set_option maxRecDepth 20000 in
theorem ggX6_looks_X6_wakes : GoodIn wsX6_looks wsX6_wakes := goodIn_r _ [7, 8, 9, 10, 11, 12, 13, 14, 6, 15, 16, 17, 18, 19, 20, 21, 22, 23, 24, 25, 26, 27, 28, 29, 30, 31, 32, 33, 34, 35, 36, 37, 38, 39, 40, 41, 42, 43, 44, 45, 46, 47, 48, 49, 50] (by decide +kernel) (by decide +kernel)
set_option maxRecDepth 20000 in
theorem gX6_looks_X6_wakes : GoodIn wsX6_looks (wsV RX6 162 RX6 yX6_wakes wsX6_wakes) := goodIn_app (goodIn_of _ (by decide +kernel)) ggX6_looks_X6_wakes
theorem dX6_looks_0 : decode cX6_looks 0 = .ok (.aload_n 0, 1) := by decide +kernel
theorem dX6_looks_1 : decode cX6_looks 1 = .ok (.getfield 95, 3) := by decide +kernel
theorem dX6_looks_4 : decode cX6_looks 4 = .ok (.iload_n 1, 1) := by decide +kernel
theorem dX6_looks_5 : decode cX6_looks 5 = .ok (.iaload, 1) := by decide +kernel
theorem dX6_looks_6 : decode cX6_looks 6 = .ok (.aload_n 0, 1) := by decide +kernel
theorem dX6_looks_7 : decode cX6_looks 7 = .ok (.getfield 92, 3) := by decide +kernel
theorem dX6_looks_10 : decode cX6_looks 10 = .ok (.iload_n 1, 1) := by decide +kernel
theorem dX6_looks_11 : decode cX6_looks 11 = .ok (.iaload, 1) := by decide +kernel
theorem dX6_looks_12 : decode cX6_looks 12 = .ok (.if_icmp .ge 9, 3) := by decide +kernel
theorem dX6_looks_15 : decode cX6_looks 15 = .ok (.aload_n 0, 1) := by decide +kernel
theorem dX6_looks_16 : decode cX6_looks 16 = .ok (.iload_n 1, 1) := by decide +kernel
theorem dX6_looks_17 : decode cX6_looks 17 = .ok (.iconst 2, 1) := by decide +kernel
theorem dX6_looks_18 : decode cX6_looks 18 = .ok (.invokevirtual 162, 3) := by decide +kernel
theorem dX6_looks_21 : decode cX6_looks 21 = .ok (.return_, 1) := by decide +kernel
set_option maxRecDepth 20000 in
theorem ggX6_setRoom_X6_isRecipient : GoodIn wsX6_setRoom wsX6_isRecipient := goodIn_r _ [5, 6, 7, 4, 8] (by decide +kernel) (by decide +kernel)
set_option maxRecDepth 20000 in
theorem gX6_setRoom_X6_isRecipient : GoodIn wsX6_setRoom (va_wsS RX6 130 yX6_isRecipient wsX6_isRecipient) := goodIn_app (goodIn_of _ (by decide +kernel)) ggX6_setRoom_X6_isRecipient
set_option maxRecDepth 20000 in
theorem ggX6_setRoom_X6_isIn : GoodIn wsX6_setRoom wsX6_isIn := goodIn_r _ [8] (by decide +kernel) (by decide +kernel)
set_option maxRecDepth 20000 in
theorem gX6_setRoom_X6_isIn : GoodIn wsX6_setRoom (va_wsS RX6 105 yX6_isIn wsX6_isIn) := goodIn_app (goodIn_of _ (by decide +kernel)) ggX6_setRoom_X6_isIn
set_option maxRecDepth 20000 in
theorem ggX6_setRoom_X6_fails : GoodIn wsX6_setRoom wsX6_fails := goodIn_r _ [12, 13, 33, 34, 35, 36, 37, 38, 39, 40, 41, 42, 43, 44, 45, 46, 47, 48, 49, 50, 51, 52, 53, 54, 55, 56, 57, 58, 59, 60, 61, 62, 63, 64, 65] (by decide +kernel) (by decide +kernel)
set_option maxRecDepth 20000 in
theorem gX6_setRoom_X6_fails : GoodIn wsX6_setRoom (wsV RX6 117 RX6 yX6_fails wsX6_fails) := goodIn_app (goodIn_of _ (by decide +kernel)) ggX6_setRoom_X6_fails
set_option maxRecDepth 20000 in
theorem ggX6_setRoom_X6_looks : GoodIn wsX6_setRoom wsX6_looks := goodIn_r _ [17, 18, 1, 19, 20, 21, 4, 22, 23, 24, 25, 26, 27, 28, 29, 30, 31, 32, 33, 34, 35, 36, 37, 38, 39, 40, 41, 42, 43, 44, 45, 46, 47, 48, 49, 50, 51, 52, 53, 54, 55, 56, 57, 58, 59, 60, 61, 62, 63, 64, 65] (by decide +kernel) (by decide +kernel)
set_option maxRecDepth 20000 in
theorem gX6_setRoom_X6_looks : GoodIn wsX6_setRoom (wsV RX6 165 RX6 yX6_looks wsX6_looks) := goodIn_app (goodIn_of _ (by decide +kernel)) ggX6_setRoom_X6_looks
theorem dX6_setRoom_0 : decode cX6_setRoom 0 = .ok (.aload_n 0, 1) := by decide +kernel
theorem dX6_setRoom_1 : decode cX6_setRoom 1 = .ok (.iload_n 1, 1) := by decide +kernel
theorem dX6_setRoom_2 : decode cX6_setRoom 2 = .ok (.invokestatic 130, 3) := by decide +kernel
theorem dX6_setRoom_5 : decode cX6_setRoom 5 = .ok (.ifCond .ne 7, 3) := by decide +kernel
theorem dX6_setRoom_8 : decode cX6_setRoom 8 = .ok (.iconst 1, 1) := by decide +kernel
theorem dX6_setRoom_9 : decode cX6_setRoom 9 = .ok (.goto 18, 3) := by decide +kernel
theorem dX6_setRoom_12 : decode cX6_setRoom 12 = .ok (.iload_n 2, 1) := by decide +kernel
theorem dX6_setRoom_13 : decode cX6_setRoom 13 = .ok (.iconst 0, 1) := by decide +kernel
theorem dX6_setRoom_14 : decode cX6_setRoom 14 = .ok (.bipush 50, 2) := by decide +kernel
theorem dX6_setRoom_16 : decode cX6_setRoom 16 = .ok (.invokestatic 105, 3) := by decide +kernel
theorem dX6_setRoom_19 : decode cX6_setRoom 19 = .ok (.ifCond .eq 7, 3) := by decide +kernel
theorem dX6_setRoom_22 : decode cX6_setRoom 22 = .ok (.iconst 0, 1) := by decide +kernel
theorem dX6_setRoom_23 : decode cX6_setRoom 23 = .ok (.goto 4, 3) := by decide +kernel
theorem dX6_setRoom_26 : decode cX6_setRoom 26 = .ok (.iconst 2, 1) := by decide +kernel
theorem dX6_setRoom_27 : decode cX6_setRoom 27 = .ok (.invokevirtual 117, 3) := by decide +kernel
theorem dX6_setRoom_30 : decode cX6_setRoom 30 = .ok (.ifCond .eq 5, 3) := by decide +kernel
theorem dX6_setRoom_33 : decode cX6_setRoom 33 = .ok (.iconst 0, 1) := by decide +kernel
theorem dX6_setRoom_34 : decode cX6_setRoom 34 = .ok (.ireturn, 1) := by decide +kernel
theorem dX6_setRoom_35 : decode cX6_setRoom 35 = .ok (.aload_n 0, 1) := by decide +kernel
theorem dX6_setRoom_36 : decode cX6_setRoom 36 = .ok (.getfield 92, 3) := by decide +kernel
theorem dX6_setRoom_39 : decode cX6_setRoom 39 = .ok (.iload_n 1, 1) := by decide +kernel
theorem dX6_setRoom_40 : decode cX6_setRoom 40 = .ok (.iaload, 1) := by decide +kernel
theorem dX6_setRoom_41 : decode cX6_setRoom 41 = .ok (.istore_n 3, 1) := by decide +kernel
theorem dX6_setRoom_42 : decode cX6_setRoom 42 = .ok (.aload_n 0, 1) := by decide +kernel
theorem dX6_setRoom_43 : decode cX6_setRoom 43 = .ok (.getfield 92, 3) := by decide +kernel
theorem dX6_setRoom_46 : decode cX6_setRoom 46 = .ok (.iload_n 1, 1) := by decide +kernel
theorem dX6_setRoom_47 : decode cX6_setRoom 47 = .ok (.iload_n 2, 1) := by decide +kernel
theorem dX6_setRoom_48 : decode cX6_setRoom 48 = .ok (.iastore, 1) := by decide +kernel
theorem dX6_setRoom_49 : decode cX6_setRoom 49 = .ok (.aload_n 0, 1) := by decide +kernel
theorem dX6_setRoom_50 : decode cX6_setRoom 50 = .ok (.iload_n 1, 1) := by decide +kernel
theorem dX6_setRoom_51 : decode cX6_setRoom 51 = .ok (.invokevirtual 165, 3) := by decide +kernel
theorem dX6_setRoom_54 : decode cX6_setRoom 54 = .ok (.iload_n 3, 1) := by decide +kernel
theorem dX6_setRoom_55 : decode cX6_setRoom 55 = .ok (.ireturn, 1) := by decide +kernel
set_option maxRecDepth 20000 in
theorem ggX6_read_X6_isRecipient : GoodIn wsX6_read wsX6_isRecipient := goodIn_r _ [5, 6, 7, 4, 8] (by decide +kernel) (by decide +kernel)
set_option maxRecDepth 20000 in
theorem gX6_read_X6_isRecipient : GoodIn wsX6_read (va_wsS RX6 130 yX6_isRecipient wsX6_isRecipient) := goodIn_app (goodIn_of _ (by decide +kernel)) ggX6_read_X6_isRecipient
set_option maxRecDepth 20000 in
theorem ggX6_read_X6_isIn : GoodIn wsX6_read wsX6_isIn := goodIn_r _ [8] (by decide +kernel) (by decide +kernel)
set_option maxRecDepth 20000 in
theorem gX6_read_X6_isIn : GoodIn wsX6_read (va_wsS RX6 105 yX6_isIn wsX6_isIn) := goodIn_app (goodIn_of _ (by decide +kernel)) ggX6_read_X6_isIn
set_option maxRecDepth 20000 in
theorem ggX6_read_X6_fails : GoodIn wsX6_read wsX6_fails := goodIn_r _ [12, 13, 33, 34, 35, 36, 37, 38, 39, 40, 41, 42, 43, 44, 45, 46, 47, 48, 49, 50, 51, 52, 53, 54, 55, 56, 57, 58, 59, 60, 61, 62, 63, 64, 65] (by decide +kernel) (by decide +kernel)
set_option maxRecDepth 20000 in
theorem gX6_read_X6_fails : GoodIn wsX6_read (wsV RX6 117 RX6 yX6_fails wsX6_fails) := goodIn_app (goodIn_of _ (by decide +kernel)) ggX6_read_X6_fails
set_option maxRecDepth 20000 in
theorem ggX6_read_X6_looks : GoodIn wsX6_read wsX6_looks := goodIn_r _ [17, 1, 18, 19, 20, 21, 4, 22, 23, 24, 25, 26, 27, 28, 29, 30, 31, 32, 33, 34, 35, 36, 37, 38, 39, 40, 41, 42, 43, 44, 45, 46, 47, 48, 49, 50, 51, 52, 53, 54, 55, 56, 57, 58, 59, 60, 61, 62, 63, 64, 65] (by decide +kernel) (by decide +kernel)
set_option maxRecDepth 20000 in
theorem gX6_read_X6_looks : GoodIn wsX6_read (wsV RX6 165 RX6 yX6_looks wsX6_looks) := goodIn_app (goodIn_of _ (by decide +kernel)) ggX6_read_X6_looks
theorem dX6_read_0 : decode cX6_read 0 = .ok (.aload_n 0, 1) := by decide +kernel
theorem dX6_read_1 : decode cX6_read 1 = .ok (.iload_n 1, 1) := by decide +kernel
theorem dX6_read_2 : decode cX6_read 2 = .ok (.invokestatic 130, 3) := by decide +kernel
theorem dX6_read_5 : decode cX6_read 5 = .ok (.ifCond .ne 7, 3) := by decide +kernel
theorem dX6_read_8 : decode cX6_read 8 = .ok (.iconst 1, 1) := by decide +kernel
theorem dX6_read_9 : decode cX6_read 9 = .ok (.goto 18, 3) := by decide +kernel
theorem dX6_read_12 : decode cX6_read 12 = .ok (.iload_n 2, 1) := by decide +kernel
theorem dX6_read_13 : decode cX6_read 13 = .ok (.iconst 1, 1) := by decide +kernel
theorem dX6_read_14 : decode cX6_read 14 = .ok (.bipush 50, 2) := by decide +kernel
theorem dX6_read_16 : decode cX6_read 16 = .ok (.invokestatic 105, 3) := by decide +kernel
theorem dX6_read_19 : decode cX6_read 19 = .ok (.ifCond .eq 7, 3) := by decide +kernel
theorem dX6_read_22 : decode cX6_read 22 = .ok (.iconst 0, 1) := by decide +kernel
theorem dX6_read_23 : decode cX6_read 23 = .ok (.goto 4, 3) := by decide +kernel
theorem dX6_read_26 : decode cX6_read 26 = .ok (.iconst 2, 1) := by decide +kernel
theorem dX6_read_27 : decode cX6_read 27 = .ok (.invokevirtual 117, 3) := by decide +kernel
theorem dX6_read_30 : decode cX6_read 30 = .ok (.ifCond .eq 5, 3) := by decide +kernel
theorem dX6_read_33 : decode cX6_read 33 = .ok (.iconst 0, 1) := by decide +kernel
theorem dX6_read_34 : decode cX6_read 34 = .ok (.ireturn, 1) := by decide +kernel
theorem dX6_read_35 : decode cX6_read 35 = .ok (.aload_n 0, 1) := by decide +kernel
theorem dX6_read_36 : decode cX6_read 36 = .ok (.getfield 95, 3) := by decide +kernel
theorem dX6_read_39 : decode cX6_read 39 = .ok (.iload_n 1, 1) := by decide +kernel
theorem dX6_read_40 : decode cX6_read 40 = .ok (.dup2, 1) := by decide +kernel
theorem dX6_read_41 : decode cX6_read 41 = .ok (.iaload, 1) := by decide +kernel
theorem dX6_read_42 : decode cX6_read 42 = .ok (.iload_n 2, 1) := by decide +kernel
theorem dX6_read_43 : decode cX6_read 43 = .ok (.aload_n 0, 1) := by decide +kernel
theorem dX6_read_44 : decode cX6_read 44 = .ok (.getfield 95, 3) := by decide +kernel
theorem dX6_read_47 : decode cX6_read 47 = .ok (.iload_n 1, 1) := by decide +kernel
theorem dX6_read_48 : decode cX6_read 48 = .ok (.iaload, 1) := by decide +kernel
theorem dX6_read_49 : decode cX6_read 49 = .ok (.if_icmp .ge 7, 3) := by decide +kernel
theorem dX6_read_52 : decode cX6_read 52 = .ok (.iload_n 2, 1) := by decide +kernel
theorem dX6_read_53 : decode cX6_read 53 = .ok (.goto 9, 3) := by decide +kernel
theorem dX6_read_56 : decode cX6_read 56 = .ok (.aload_n 0, 1) := by decide +kernel
theorem dX6_read_57 : decode cX6_read 57 = .ok (.getfield 95, 3) := by decide +kernel
theorem dX6_read_60 : decode cX6_read 60 = .ok (.iload_n 1, 1) := by decide +kernel
theorem dX6_read_61 : decode cX6_read 61 = .ok (.iaload, 1) := by decide +kernel
theorem dX6_read_62 : decode cX6_read 62 = .ok (.isub, 1) := by decide +kernel
theorem dX6_read_63 : decode cX6_read 63 = .ok (.iastore, 1) := by decide +kernel
theorem dX6_read_64 : decode cX6_read 64 = .ok (.aload_n 0, 1) := by decide +kernel
theorem dX6_read_65 : decode cX6_read 65 = .ok (.iload_n 1, 1) := by decide +kernel
theorem dX6_read_66 : decode cX6_read 66 = .ok (.invokevirtual 165, 3) := by decide +kernel
theorem dX6_read_69 : decode cX6_read 69 = .ok (.aload_n 0, 1) := by decide +kernel
theorem dX6_read_70 : decode cX6_read 70 = .ok (.getfield 95, 3) := by decide +kernel
theorem dX6_read_73 : decode cX6_read 73 = .ok (.iload_n 1, 1) := by decide +kernel
theorem dX6_read_74 : decode cX6_read 74 = .ok (.iaload, 1) := by decide +kernel
theorem dX6_read_75 : decode cX6_read 75 = .ok (.ireturn, 1) := by decide +kernel
set_option maxRecDepth 20000 in
theorem ggX6_inRoom_X6_isRecipient : GoodIn wsX6_inRoom wsX6_isRecipient := goodIn_r _ [5, 6, 7, 4, 8] (by decide +kernel) (by decide +kernel)
set_option maxRecDepth 20000 in
theorem gX6_inRoom_X6_isRecipient : GoodIn wsX6_inRoom (va_wsS RX6 130 yX6_isRecipient wsX6_isRecipient) := goodIn_app (goodIn_of _ (by decide +kernel)) ggX6_inRoom_X6_isRecipient
set_option maxRecDepth 20000 in
theorem ggX6_inRoom_X6_fails : GoodIn wsX6_inRoom wsX6_fails := goodIn_r _ [12, 13, 14, 15, 16, 17, 18, 19, 20, 21, 22, 23, 24, 25, 26, 27, 28, 29, 30, 31, 32, 33, 34, 35, 36, 37, 38, 39, 40, 41, 42, 43, 44, 45, 46] (by decide +kernel) (by decide +kernel)
set_option maxRecDepth 20000 in
theorem gX6_inRoom_X6_fails : GoodIn wsX6_inRoom (wsV RX6 117 RX6 yX6_fails wsX6_fails) := goodIn_app (goodIn_of _ (by decide +kernel)) ggX6_inRoom_X6_fails
theorem dX6_inRoom_0 : decode cX6_inRoom 0 = .ok (.aload_n 0, 1) := by decide +kernel
theorem dX6_inRoom_1 : decode cX6_inRoom 1 = .ok (.iload_n 1, 1) := by decide +kernel
theorem dX6_inRoom_2 : decode cX6_inRoom 2 = .ok (.invokestatic 130, 3) := by decide +kernel
theorem dX6_inRoom_5 : decode cX6_inRoom 5 = .ok (.ifCond .eq 7, 3) := by decide +kernel
theorem dX6_inRoom_8 : decode cX6_inRoom 8 = .ok (.iconst 0, 1) := by decide +kernel
theorem dX6_inRoom_9 : decode cX6_inRoom 9 = .ok (.goto 4, 3) := by decide +kernel
theorem dX6_inRoom_12 : decode cX6_inRoom 12 = .ok (.iconst 1, 1) := by decide +kernel
theorem dX6_inRoom_13 : decode cX6_inRoom 13 = .ok (.invokevirtual 117, 3) := by decide +kernel
theorem dX6_inRoom_16 : decode cX6_inRoom 16 = .ok (.ifCond .eq 7, 3) := by decide +kernel
theorem dX6_inRoom_19 : decode cX6_inRoom 19 = .ok (.iconst 0, 1) := by decide +kernel
theorem dX6_inRoom_20 : decode cX6_inRoom 20 = .ok (.goto 9, 3) := by decide +kernel
theorem dX6_inRoom_23 : decode cX6_inRoom 23 = .ok (.aload_n 0, 1) := by decide +kernel
theorem dX6_inRoom_24 : decode cX6_inRoom 24 = .ok (.getfield 95, 3) := by decide +kernel
theorem dX6_inRoom_27 : decode cX6_inRoom 27 = .ok (.iload_n 1, 1) := by decide +kernel
theorem dX6_inRoom_28 : decode cX6_inRoom 28 = .ok (.iaload, 1) := by decide +kernel
theorem dX6_inRoom_29 : decode cX6_inRoom 29 = .ok (.ireturn, 1) := by decide +kernel
set_option maxRecDepth 20000 in
theorem ggX6_marks_X6_isRecipient : GoodIn wsX6_marks wsX6_isRecipient := goodIn_r _ [5, 6, 7, 4, 8] (by decide +kernel) (by decide +kernel)
set_option maxRecDepth 20000 in
theorem gX6_marks_X6_isRecipient : GoodIn wsX6_marks (va_wsS RX6 130 yX6_isRecipient wsX6_isRecipient) := goodIn_app (goodIn_of _ (by decide +kernel)) ggX6_marks_X6_isRecipient
set_option maxRecDepth 20000 in
theorem ggX6_marks_X6_fails : GoodIn wsX6_marks wsX6_fails := goodIn_r _ [12, 13, 14, 15, 16, 17, 18, 19, 20, 21, 22, 23, 24, 25, 26, 27, 28, 29, 30, 31, 32, 33, 34, 35, 36, 37, 38, 39, 40, 41, 42, 43, 44, 45, 46] (by decide +kernel) (by decide +kernel)
set_option maxRecDepth 20000 in
theorem gX6_marks_X6_fails : GoodIn wsX6_marks (wsV RX6 117 RX6 yX6_fails wsX6_fails) := goodIn_app (goodIn_of _ (by decide +kernel)) ggX6_marks_X6_fails
theorem dX6_marks_0 : decode cX6_marks 0 = .ok (.aload_n 0, 1) := by decide +kernel
theorem dX6_marks_1 : decode cX6_marks 1 = .ok (.iload_n 1, 1) := by decide +kernel
theorem dX6_marks_2 : decode cX6_marks 2 = .ok (.invokestatic 130, 3) := by decide +kernel
theorem dX6_marks_5 : decode cX6_marks 5 = .ok (.ifCond .eq 7, 3) := by decide +kernel
theorem dX6_marks_8 : decode cX6_marks 8 = .ok (.iconst 0, 1) := by decide +kernel
theorem dX6_marks_9 : decode cX6_marks 9 = .ok (.goto 4, 3) := by decide +kernel
theorem dX6_marks_12 : decode cX6_marks 12 = .ok (.iconst 1, 1) := by decide +kernel
theorem dX6_marks_13 : decode cX6_marks 13 = .ok (.invokevirtual 117, 3) := by decide +kernel
theorem dX6_marks_16 : decode cX6_marks 16 = .ok (.ifCond .eq 7, 3) := by decide +kernel
theorem dX6_marks_19 : decode cX6_marks 19 = .ok (.iconst 0, 1) := by decide +kernel
theorem dX6_marks_20 : decode cX6_marks 20 = .ok (.goto 9, 3) := by decide +kernel
theorem dX6_marks_23 : decode cX6_marks 23 = .ok (.aload_n 0, 1) := by decide +kernel
theorem dX6_marks_24 : decode cX6_marks 24 = .ok (.getfield 98, 3) := by decide +kernel
theorem dX6_marks_27 : decode cX6_marks 27 = .ok (.iload_n 1, 1) := by decide +kernel
theorem dX6_marks_28 : decode cX6_marks 28 = .ok (.iaload, 1) := by decide +kernel
theorem dX6_marks_29 : decode cX6_marks 29 = .ok (.ireturn, 1) := by decide +kernel
set_option maxRecDepth 20000 in
theorem ggX6_waiting_X6_isRecipient : GoodIn wsX6_waiting wsX6_isRecipient := goodIn_r _ [5, 6, 7, 4, 8] (by decide +kernel) (by decide +kernel)
set_option maxRecDepth 20000 in
theorem gX6_waiting_X6_isRecipient : GoodIn wsX6_waiting (va_wsS RX6 130 yX6_isRecipient wsX6_isRecipient) := goodIn_app (goodIn_of _ (by decide +kernel)) ggX6_waiting_X6_isRecipient
set_option maxRecDepth 20000 in
theorem ggX6_waiting_X6_fails : GoodIn wsX6_waiting wsX6_fails := goodIn_r _ [12, 13, 20, 21, 22, 23, 24, 25, 26, 27, 28, 29, 30, 31, 32, 33, 34, 35, 36, 37, 38, 39, 40, 41, 42, 43, 44, 45, 46, 47, 48, 49, 50, 51, 52] (by decide +kernel) (by decide +kernel)
set_option maxRecDepth 20000 in
theorem gX6_waiting_X6_fails : GoodIn wsX6_waiting (wsV RX6 117 RX6 yX6_fails wsX6_fails) := goodIn_app (goodIn_of _ (by decide +kernel)) ggX6_waiting_X6_fails
set_option maxRecDepth 20000 in
theorem ggX6_waiting_X6_waits : GoodIn wsX6_waiting wsX6_waits := goodIn_r _ [17, 18, 19, 20, 21, 22, 23, 24, 25, 26, 27, 28, 29, 30, 31, 32, 33, 34, 35, 36, 37, 38, 39, 40, 41, 42, 43, 44, 45, 46, 47, 48, 49, 50, 51, 52] (by decide +kernel) (by decide +kernel)
set_option maxRecDepth 20000 in
theorem gX6_waiting_X6_waits : GoodIn wsX6_waiting (wsV RX6 158 RX6 yX6_waits wsX6_waits) := goodIn_app (goodIn_of _ (by decide +kernel)) ggX6_waiting_X6_waits
theorem dX6_waiting_0 : decode cX6_waiting 0 = .ok (.aload_n 0, 1) := by decide +kernel
theorem dX6_waiting_1 : decode cX6_waiting 1 = .ok (.iload_n 1, 1) := by decide +kernel
theorem dX6_waiting_2 : decode cX6_waiting 2 = .ok (.invokestatic 130, 3) := by decide +kernel
theorem dX6_waiting_5 : decode cX6_waiting 5 = .ok (.ifCond .eq 7, 3) := by decide +kernel
theorem dX6_waiting_8 : decode cX6_waiting 8 = .ok (.iconst 0, 1) := by decide +kernel
theorem dX6_waiting_9 : decode cX6_waiting 9 = .ok (.goto 4, 3) := by decide +kernel
theorem dX6_waiting_12 : decode cX6_waiting 12 = .ok (.iconst 1, 1) := by decide +kernel
theorem dX6_waiting_13 : decode cX6_waiting 13 = .ok (.invokevirtual 117, 3) := by decide +kernel
theorem dX6_waiting_16 : decode cX6_waiting 16 = .ok (.ifCond .eq 5, 3) := by decide +kernel
theorem dX6_waiting_19 : decode cX6_waiting 19 = .ok (.iconst 0, 1) := by decide +kernel
theorem dX6_waiting_20 : decode cX6_waiting 20 = .ok (.ireturn, 1) := by decide +kernel
theorem dX6_waiting_21 : decode cX6_waiting 21 = .ok (.iconst 0, 1) := by decide +kernel
theorem dX6_waiting_22 : decode cX6_waiting 22 = .ok (.istore_n 2, 1) := by decide +kernel
theorem dX6_waiting_23 : decode cX6_waiting 23 = .ok (.iconst 0, 1) := by decide +kernel
theorem dX6_waiting_24 : decode cX6_waiting 24 = .ok (.istore_n 3, 1) := by decide +kernel
theorem dX6_waiting_25 : decode cX6_waiting 25 = .ok (.iload_n 3, 1) := by decide +kernel
theorem dX6_waiting_26 : decode cX6_waiting 26 = .ok (.aload_n 0, 1) := by decide +kernel
theorem dX6_waiting_27 : decode cX6_waiting 27 = .ok (.getfield 124, 3) := by decide +kernel
theorem dX6_waiting_30 : decode cX6_waiting 30 = .ok (.if_icmp .ge 26, 3) := by decide +kernel
theorem dX6_waiting_33 : decode cX6_waiting 33 = .ok (.iload_n 2, 1) := by decide +kernel
theorem dX6_waiting_34 : decode cX6_waiting 34 = .ok (.aload_n 0, 1) := by decide +kernel
theorem dX6_waiting_35 : decode cX6_waiting 35 = .ok (.iload_n 3, 1) := by decide +kernel
theorem dX6_waiting_36 : decode cX6_waiting 36 = .ok (.iload_n 1, 1) := by decide +kernel
theorem dX6_waiting_37 : decode cX6_waiting 37 = .ok (.invokevirtual 158, 3) := by decide +kernel
theorem dX6_waiting_40 : decode cX6_waiting 40 = .ok (.ifCond .eq 7, 3) := by decide +kernel
theorem dX6_waiting_43 : decode cX6_waiting 43 = .ok (.iconst 1, 1) := by decide +kernel
theorem dX6_waiting_44 : decode cX6_waiting 44 = .ok (.goto 4, 3) := by decide +kernel
theorem dX6_waiting_47 : decode cX6_waiting 47 = .ok (.iconst 0, 1) := by decide +kernel
theorem dX6_waiting_48 : decode cX6_waiting 48 = .ok (.iadd, 1) := by decide +kernel
theorem dX6_waiting_49 : decode cX6_waiting 49 = .ok (.istore_n 2, 1) := by decide +kernel
theorem dX6_waiting_50 : decode cX6_waiting 50 = .ok (.iinc 3 1, 3) := by decide +kernel
theorem dX6_waiting_53 : decode cX6_waiting 53 = .ok (.goto (-28), 3) := by decide +kernel
theorem dX6_waiting_56 : decode cX6_waiting 56 = .ok (.iload_n 2, 1) := by decide +kernel
theorem dX6_waiting_57 : decode cX6_waiting 57 = .ok (.ireturn, 1) := by decide +kernel
set_option maxRecDepth 20000 in
theorem ggX6_first_X6_waits : GoodIn wsX6_first wsX6_waits := goodIn_r _ [8, 9, 10, 11, 12, 13, 14, 15, 16, 17, 18, 19, 20, 21, 22, 23, 24, 25, 26, 27, 28, 29, 30, 31, 32, 33, 34, 35, 36, 37, 38, 39, 40, 41, 42, 43] (by decide +kernel) (by decide +kernel)
set_option maxRecDepth 20000 in
theorem gX6_first_X6_waits : GoodIn wsX6_first (wsV RX6 158 RX6 yX6_waits wsX6_waits) := goodIn_app (goodIn_of _ (by decide +kernel)) ggX6_first_X6_waits
theorem dX6_first_0 : decode cX6_first 0 = .ok (.iconst (-1), 1) := by decide +kernel
theorem dX6_first_1 : decode cX6_first 1 = .ok (.istore_n 3, 1) := by decide +kernel
theorem dX6_first_2 : decode cX6_first 2 = .ok (.iconst 0, 1) := by decide +kernel
theorem dX6_first_3 : decode cX6_first 3 = .ok (.istore 4, 2) := by decide +kernel
theorem dX6_first_5 : decode cX6_first 5 = .ok (.iload 4, 2) := by decide +kernel
theorem dX6_first_7 : decode cX6_first 7 = .ok (.aload_n 0, 1) := by decide +kernel
theorem dX6_first_8 : decode cX6_first 8 = .ok (.getfield 124, 3) := by decide +kernel
theorem dX6_first_11 : decode cX6_first 11 = .ok (.if_icmp .ge 124, 3) := by decide +kernel
theorem dX6_first_14 : decode cX6_first 14 = .ok (.aload_n 0, 1) := by decide +kernel
theorem dX6_first_15 : decode cX6_first 15 = .ok (.iload 4, 2) := by decide +kernel
theorem dX6_first_17 : decode cX6_first 17 = .ok (.iload_n 1, 1) := by decide +kernel
theorem dX6_first_18 : decode cX6_first 18 = .ok (.invokevirtual 158, 3) := by decide +kernel
theorem dX6_first_21 : decode cX6_first 21 = .ok (.ifCond .eq 18, 3) := by decide +kernel
theorem dX6_first_24 : decode cX6_first 24 = .ok (.aload_n 0, 1) := by decide +kernel
theorem dX6_first_25 : decode cX6_first 25 = .ok (.getfield 83, 3) := by decide +kernel
theorem dX6_first_28 : decode cX6_first 28 = .ok (.iload 4, 2) := by decide +kernel
theorem dX6_first_30 : decode cX6_first 30 = .ok (.iaload, 1) := by decide +kernel
theorem dX6_first_31 : decode cX6_first 31 = .ok (.iload_n 2, 1) := by decide +kernel
theorem dX6_first_32 : decode cX6_first 32 = .ok (.if_icmp .gt 7, 3) := by decide +kernel
theorem dX6_first_35 : decode cX6_first 35 = .ok (.iconst 1, 1) := by decide +kernel
theorem dX6_first_36 : decode cX6_first 36 = .ok (.goto 4, 3) := by decide +kernel
theorem dX6_first_39 : decode cX6_first 39 = .ok (.iconst 0, 1) := by decide +kernel
theorem dX6_first_40 : decode cX6_first 40 = .ok (.istore 5, 2) := by decide +kernel
theorem dX6_first_42 : decode cX6_first 42 = .ok (.iload 5, 2) := by decide +kernel
theorem dX6_first_44 : decode cX6_first 44 = .ok (.ifCond .eq 60, 3) := by decide +kernel
theorem dX6_first_47 : decode cX6_first 47 = .ok (.iload_n 3, 1) := by decide +kernel
theorem dX6_first_48 : decode cX6_first 48 = .ok (.iconst (-1), 1) := by decide +kernel
theorem dX6_first_49 : decode cX6_first 49 = .ok (.if_icmp .eq 55, 3) := by decide +kernel
theorem dX6_first_52 : decode cX6_first 52 = .ok (.aload_n 0, 1) := by decide +kernel
theorem dX6_first_53 : decode cX6_first 53 = .ok (.getfield 47, 3) := by decide +kernel
theorem dX6_first_56 : decode cX6_first 56 = .ok (.iload 4, 2) := by decide +kernel
theorem dX6_first_58 : decode cX6_first 58 = .ok (.iaload, 1) := by decide +kernel
theorem dX6_first_59 : decode cX6_first 59 = .ok (.aload_n 0, 1) := by decide +kernel
theorem dX6_first_60 : decode cX6_first 60 = .ok (.getfield 47, 3) := by decide +kernel
theorem dX6_first_63 : decode cX6_first 63 = .ok (.iload_n 3, 1) := by decide +kernel
theorem dX6_first_64 : decode cX6_first 64 = .ok (.iaload, 1) := by decide +kernel
theorem dX6_first_65 : decode cX6_first 65 = .ok (.if_icmp .gt 35, 3) := by decide +kernel
theorem dX6_first_68 : decode cX6_first 68 = .ok (.aload_n 0, 1) := by decide +kernel
theorem dX6_first_69 : decode cX6_first 69 = .ok (.getfield 47, 3) := by decide +kernel
theorem dX6_first_72 : decode cX6_first 72 = .ok (.iload 4, 2) := by decide +kernel
theorem dX6_first_74 : decode cX6_first 74 = .ok (.iaload, 1) := by decide +kernel
theorem dX6_first_75 : decode cX6_first 75 = .ok (.aload_n 0, 1) := by decide +kernel
theorem dX6_first_76 : decode cX6_first 76 = .ok (.getfield 47, 3) := by decide +kernel
theorem dX6_first_79 : decode cX6_first 79 = .ok (.iload_n 3, 1) := by decide +kernel
theorem dX6_first_80 : decode cX6_first 80 = .ok (.iaload, 1) := by decide +kernel
theorem dX6_first_81 : decode cX6_first 81 = .ok (.if_icmp .ne 23, 3) := by decide +kernel
theorem dX6_first_84 : decode cX6_first 84 = .ok (.aload_n 0, 1) := by decide +kernel
theorem dX6_first_85 : decode cX6_first 85 = .ok (.getfield 83, 3) := by decide +kernel
theorem dX6_first_88 : decode cX6_first 88 = .ok (.iload 4, 2) := by decide +kernel
theorem dX6_first_90 : decode cX6_first 90 = .ok (.iaload, 1) := by decide +kernel
theorem dX6_first_91 : decode cX6_first 91 = .ok (.aload_n 0, 1) := by decide +kernel
theorem dX6_first_92 : decode cX6_first 92 = .ok (.getfield 83, 3) := by decide +kernel
theorem dX6_first_95 : decode cX6_first 95 = .ok (.iload_n 3, 1) := by decide +kernel
theorem dX6_first_96 : decode cX6_first 96 = .ok (.iaload, 1) := by decide +kernel
theorem dX6_first_97 : decode cX6_first 97 = .ok (.if_icmp .ge 7, 3) := by decide +kernel
theorem dX6_first_100 : decode cX6_first 100 = .ok (.iconst 1, 1) := by decide +kernel
theorem dX6_first_101 : decode cX6_first 101 = .ok (.goto 4, 3) := by decide +kernel
theorem dX6_first_104 : decode cX6_first 104 = .ok (.iconst 0, 1) := by decide +kernel
theorem dX6_first_105 : decode cX6_first 105 = .ok (.istore 6, 2) := by decide +kernel
theorem dX6_first_107 : decode cX6_first 107 = .ok (.iload 5, 2) := by decide +kernel
theorem dX6_first_109 : decode cX6_first 109 = .ok (.ifCond .eq 18, 3) := by decide +kernel
theorem dX6_first_112 : decode cX6_first 112 = .ok (.iload_n 3, 1) := by decide +kernel
theorem dX6_first_113 : decode cX6_first 113 = .ok (.iconst (-1), 1) := by decide +kernel
theorem dX6_first_114 : decode cX6_first 114 = .ok (.if_icmp .eq 8, 3) := by decide +kernel
theorem dX6_first_117 : decode cX6_first 117 = .ok (.iload 6, 2) := by decide +kernel
theorem dX6_first_119 : decode cX6_first 119 = .ok (.ifCond .eq 8, 3) := by decide +kernel
theorem dX6_first_122 : decode cX6_first 122 = .ok (.iload 4, 2) := by decide +kernel
theorem dX6_first_124 : decode cX6_first 124 = .ok (.goto 4, 3) := by decide +kernel
theorem dX6_first_127 : decode cX6_first 127 = .ok (.iload_n 3, 1) := by decide +kernel
theorem dX6_first_128 : decode cX6_first 128 = .ok (.istore_n 3, 1) := by decide +kernel
theorem dX6_first_129 : decode cX6_first 129 = .ok (.iinc 4 1, 3) := by decide +kernel
theorem dX6_first_132 : decode cX6_first 132 = .ok (.goto (-127), 3) := by decide +kernel
theorem dX6_first_135 : decode cX6_first 135 = .ok (.iload_n 3, 1) := by decide +kernel
theorem dX6_first_136 : decode cX6_first 136 = .ok (.ireturn, 1) := by decide +kernel
set_option maxRecDepth 20000 in
theorem ggX6_next_X6_isRecipient : GoodIn wsX6_next wsX6_isRecipient := goodIn_r _ [5, 6, 7, 4, 8] (by decide +kernel) (by decide +kernel)
set_option maxRecDepth 20000 in
theorem gX6_next_X6_isRecipient : GoodIn wsX6_next (va_wsS RX6 130 yX6_isRecipient wsX6_isRecipient) := goodIn_app (goodIn_of _ (by decide +kernel)) ggX6_next_X6_isRecipient
set_option maxRecDepth 20000 in
theorem ggX6_next_X6_fails : GoodIn wsX6_next wsX6_fails := goodIn_r _ [12, 13, 27, 28, 29, 30, 31, 32, 33, 34, 35, 36, 37, 38, 39, 40, 41, 42, 43, 44, 45, 46, 47, 48, 49, 50, 51, 52, 53, 54, 55, 56, 57, 58, 59] (by decide +kernel) (by decide +kernel)
set_option maxRecDepth 20000 in
theorem gX6_next_X6_fails : GoodIn wsX6_next (wsV RX6 117 RX6 yX6_fails wsX6_fails) := goodIn_app (goodIn_of _ (by decide +kernel)) ggX6_next_X6_fails
set_option maxRecDepth 20000 in
theorem ggX6_next_X6_first : GoodIn wsX6_next wsX6_first := goodIn_r _ [17, 18, 19, 20, 21, 22, 23, 4, 24, 25, 26, 27, 28, 29, 30, 31, 32, 33, 34, 35, 36, 37, 38, 39, 40, 41, 42, 43, 44, 45, 46, 47, 48, 49, 50, 51, 52, 53, 54, 55, 56, 57, 58, 59] (by decide +kernel) (by decide +kernel)
set_option maxRecDepth 20000 in
theorem gX6_next_X6_first : GoodIn wsX6_next (wsV RX6 170 RX6 yX6_first wsX6_first) := goodIn_app (goodIn_of _ (by decide +kernel)) ggX6_next_X6_first
theorem dX6_next_0 : decode cX6_next 0 = .ok (.aload_n 0, 1) := by decide +kernel
theorem dX6_next_1 : decode cX6_next 1 = .ok (.iload_n 1, 1) := by decide +kernel
theorem dX6_next_2 : decode cX6_next 2 = .ok (.invokestatic 130, 3) := by decide +kernel
theorem dX6_next_5 : decode cX6_next 5 = .ok (.ifCond .eq 7, 3) := by decide +kernel
theorem dX6_next_8 : decode cX6_next 8 = .ok (.iconst 0, 1) := by decide +kernel
theorem dX6_next_9 : decode cX6_next 9 = .ok (.goto 4, 3) := by decide +kernel
theorem dX6_next_12 : decode cX6_next 12 = .ok (.iconst 1, 1) := by decide +kernel
theorem dX6_next_13 : decode cX6_next 13 = .ok (.invokevirtual 117, 3) := by decide +kernel
theorem dX6_next_16 : decode cX6_next 16 = .ok (.ifCond .eq 7, 3) := by decide +kernel
theorem dX6_next_19 : decode cX6_next 19 = .ok (.iconst 0, 1) := by decide +kernel
theorem dX6_next_20 : decode cX6_next 20 = .ok (.goto 10, 3) := by decide +kernel
theorem dX6_next_23 : decode cX6_next 23 = .ok (.aload_n 0, 1) := by decide +kernel
theorem dX6_next_24 : decode cX6_next 24 = .ok (.iload_n 1, 1) := by decide +kernel
theorem dX6_next_25 : decode cX6_next 25 = .ok (.ldc 169, 2) := by decide +kernel
theorem dX6_next_27 : decode cX6_next 27 = .ok (.invokevirtual 170, 3) := by decide +kernel
theorem dX6_next_30 : decode cX6_next 30 = .ok (.ireturn, 1) := by decide +kernel
theorem dX6_failed_0 : decode cX6_failed 0 = .ok (.aload_n 0, 1) := by decide +kernel
theorem dX6_failed_1 : decode cX6_failed 1 = .ok (.getfield 86, 3) := by decide +kernel
theorem dX6_failed_4 : decode cX6_failed 4 = .ok (.iconst 3, 1) := by decide +kernel
theorem dX6_failed_5 : decode cX6_failed 5 = .ok (.iload_n 1, 1) := by decide +kernel
theorem dX6_failed_6 : decode cX6_failed 6 = .ok (.imul, 1) := by decide +kernel
theorem dX6_failed_7 : decode cX6_failed 7 = .ok (.iload_n 2, 1) := by decide +kernel
theorem dX6_failed_8 : decode cX6_failed 8 = .ok (.iadd, 1) := by decide +kernel
theorem dX6_failed_9 : decode cX6_failed 9 = .ok (.iaload, 1) := by decide +kernel
theorem dX6_failed_10 : decode cX6_failed 10 = .ok (.istore_n 3, 1) := by decide +kernel
theorem dX6_failed_11 : decode cX6_failed 11 = .ok (.aload_n 0, 1) := by decide +kernel
theorem dX6_failed_12 : decode cX6_failed 12 = .ok (.getfield 86, 3) := by decide +kernel
theorem dX6_failed_15 : decode cX6_failed 15 = .ok (.iconst 3, 1) := by decide +kernel
theorem dX6_failed_16 : decode cX6_failed 16 = .ok (.iload_n 1, 1) := by decide +kernel
theorem dX6_failed_17 : decode cX6_failed 17 = .ok (.imul, 1) := by decide +kernel
theorem dX6_failed_18 : decode cX6_failed 18 = .ok (.iload_n 2, 1) := by decide +kernel
theorem dX6_failed_19 : decode cX6_failed 19 = .ok (.iadd, 1) := by decide +kernel
theorem dX6_failed_20 : decode cX6_failed 20 = .ok (.dup2, 1) := by decide +kernel
theorem dX6_failed_21 : decode cX6_failed 21 = .ok (.iaload, 1) := by decide +kernel
theorem dX6_failed_22 : decode cX6_failed 22 = .ok (.iconst 1, 1) := by decide +kernel
theorem dX6_failed_23 : decode cX6_failed 23 = .ok (.iadd, 1) := by decide +kernel
theorem dX6_failed_24 : decode cX6_failed 24 = .ok (.iastore, 1) := by decide +kernel
theorem dX6_failed_25 : decode cX6_failed 25 = .ok (.iload_n 2, 1) := by decide +kernel
theorem dX6_failed_26 : decode cX6_failed 26 = .ok (.iconst 2, 1) := by decide +kernel
theorem dX6_failed_27 : decode cX6_failed 27 = .ok (.if_icmp .ne 7, 3) := by decide +kernel
theorem dX6_failed_30 : decode cX6_failed 30 = .ok (.iconst 2, 1) := by decide +kernel
theorem dX6_failed_31 : decode cX6_failed 31 = .ok (.goto 14, 3) := by decide +kernel
theorem dX6_failed_34 : decode cX6_failed 34 = .ok (.iload_n 2, 1) := by decide +kernel
theorem dX6_failed_35 : decode cX6_failed 35 = .ok (.iconst 1, 1) := by decide +kernel
theorem dX6_failed_36 : decode cX6_failed 36 = .ok (.if_icmp .ne 7, 3) := by decide +kernel
theorem dX6_failed_39 : decode cX6_failed 39 = .ok (.iconst 5, 1) := by decide +kernel
theorem dX6_failed_40 : decode cX6_failed 40 = .ok (.goto 5, 3) := by decide +kernel
theorem dX6_failed_43 : decode cX6_failed 43 = .ok (.bipush 10, 2) := by decide +kernel
theorem dX6_failed_45 : decode cX6_failed 45 = .ok (.istore 4, 2) := by decide +kernel
theorem dX6_failed_47 : decode cX6_failed 47 = .ok (.aload_n 0, 1) := by decide +kernel
theorem dX6_failed_48 : decode cX6_failed 48 = .ok (.getfield 83, 3) := by decide +kernel
theorem dX6_failed_51 : decode cX6_failed 51 = .ok (.iload_n 1, 1) := by decide +kernel
theorem dX6_failed_52 : decode cX6_failed 52 = .ok (.aload_n 0, 1) := by decide +kernel
theorem dX6_failed_53 : decode cX6_failed 53 = .ok (.getfield 127, 3) := by decide +kernel
theorem dX6_failed_56 : decode cX6_failed 56 = .ok (.iload 4, 2) := by decide +kernel
theorem dX6_failed_58 : decode cX6_failed 58 = .ok (.iload_n 3, 1) := by decide +kernel
theorem dX6_failed_59 : decode cX6_failed 59 = .ok (.iconst 2, 1) := by decide +kernel
theorem dX6_failed_60 : decode cX6_failed 60 = .ok (.if_icmp .le 8, 3) := by decide +kernel
theorem dX6_failed_63 : decode cX6_failed 63 = .ok (.bipush 8, 2) := by decide +kernel
theorem dX6_failed_65 : decode cX6_failed 65 = .ok (.goto 6, 3) := by decide +kernel
theorem dX6_failed_68 : decode cX6_failed 68 = .ok (.iconst 1, 1) := by decide +kernel
theorem dX6_failed_69 : decode cX6_failed 69 = .ok (.iload_n 3, 1) := by decide +kernel
theorem dX6_failed_70 : decode cX6_failed 70 = .ok (.ishl, 1) := by decide +kernel
theorem dX6_failed_71 : decode cX6_failed 71 = .ok (.imul, 1) := by decide +kernel
theorem dX6_failed_72 : decode cX6_failed 72 = .ok (.iadd, 1) := by decide +kernel
theorem dX6_failed_73 : decode cX6_failed 73 = .ok (.iastore, 1) := by decide +kernel
theorem dX6_failed_74 : decode cX6_failed 74 = .ok (.aload_n 0, 1) := by decide +kernel
theorem dX6_failed_75 : decode cX6_failed 75 = .ok (.getfield 98, 3) := by decide +kernel
theorem dX6_failed_78 : decode cX6_failed 78 = .ok (.aload_n 0, 1) := by decide +kernel
theorem dX6_failed_79 : decode cX6_failed 79 = .ok (.getfield 44, 3) := by decide +kernel
theorem dX6_failed_82 : decode cX6_failed 82 = .ok (.iload_n 1, 1) := by decide +kernel
theorem dX6_failed_83 : decode cX6_failed 83 = .ok (.iaload, 1) := by decide +kernel
theorem dX6_failed_84 : decode cX6_failed 84 = .ok (.dup2, 1) := by decide +kernel
theorem dX6_failed_85 : decode cX6_failed 85 = .ok (.iaload, 1) := by decide +kernel
theorem dX6_failed_86 : decode cX6_failed 86 = .ok (.iload_n 2, 1) := by decide +kernel
theorem dX6_failed_87 : decode cX6_failed 87 = .ok (.iconst 2, 1) := by decide +kernel
theorem dX6_failed_88 : decode cX6_failed 88 = .ok (.if_icmp .ne 7, 3) := by decide +kernel
theorem dX6_failed_91 : decode cX6_failed 91 = .ok (.iconst 0, 1) := by decide +kernel
theorem dX6_failed_92 : decode cX6_failed 92 = .ok (.goto 13, 3) := by decide +kernel
theorem dX6_failed_95 : decode cX6_failed 95 = .ok (.iload_n 2, 1) := by decide +kernel
theorem dX6_failed_96 : decode cX6_failed 96 = .ok (.iconst 1, 1) := by decide +kernel
theorem dX6_failed_97 : decode cX6_failed 97 = .ok (.if_icmp .ne 7, 3) := by decide +kernel
theorem dX6_failed_100 : decode cX6_failed 100 = .ok (.iconst 1, 1) := by decide +kernel
theorem dX6_failed_101 : decode cX6_failed 101 = .ok (.goto 4, 3) := by decide +kernel
theorem dX6_failed_104 : decode cX6_failed 104 = .ok (.iconst 2, 1) := by decide +kernel
theorem dX6_failed_105 : decode cX6_failed 105 = .ok (.ior, 1) := by decide +kernel
theorem dX6_failed_106 : decode cX6_failed 106 = .ok (.iastore, 1) := by decide +kernel
theorem dX6_failed_107 : decode cX6_failed 107 = .ok (.return_, 1) := by decide +kernel
set_option maxRecDepth 20000 in
theorem ggX6_tries_X6_ends : GoodIn wsX6_tries wsX6_ends := goodIn_r _ [14, 15, 16, 17, 18, 19, 38, 39, 40, 41, 42, 43, 44, 45, 46, 47, 48, 49, 50, 51, 52, 53, 54, 55, 56, 57, 58, 59, 60, 61, 62, 63, 64, 65, 66, 67, 68, 69, 70] (by decide +kernel) (by decide +kernel)
set_option maxRecDepth 20000 in
theorem gX6_tries_X6_ends : GoodIn wsX6_tries (wsV RX6 140 RX6 yX6_ends wsX6_ends) := goodIn_app (goodIn_of _ (by decide +kernel)) ggX6_tries_X6_ends
set_option maxRecDepth 20000 in
theorem ggX6_tries_X6_failed : GoodIn wsX6_tries wsX6_failed := goodIn_r _ [23, 9, 7, 8, 24, 1, 38, 39, 40, 41, 42, 43, 44, 45, 46, 47, 48, 49, 50, 51, 52, 53, 54, 55, 56, 57, 58, 59, 60, 61, 62, 63, 64, 65, 66, 67, 68, 69, 70] (by decide +kernel) (by decide +kernel)
set_option maxRecDepth 20000 in
theorem gX6_tries_X6_failed : GoodIn wsX6_tries (wsV RX6 173 RX6 yX6_failed wsX6_failed) := goodIn_app (goodIn_of _ (by decide +kernel)) ggX6_tries_X6_failed
set_option maxRecDepth 20000 in
theorem ggX6_tries_X6_parted : GoodIn wsX6_tries wsX6_parted := goodIn_r _ [28, 29, 30, 31, 32, 33, 13, 34, 35, 36, 37, 38, 39, 40, 41, 42, 43, 44, 45, 46, 47, 48, 49, 50, 51, 52, 53, 54, 55, 56, 57, 58, 59, 60, 61, 62, 63, 64, 65, 66, 67, 68, 69, 70] (by decide +kernel) (by decide +kernel)
set_option maxRecDepth 20000 in
theorem gX6_tries_X6_parted : GoodIn wsX6_tries (wsV RX6 155 RX6 yX6_parted wsX6_parted) := goodIn_app (goodIn_of _ (by decide +kernel)) ggX6_tries_X6_parted
theorem dX6_tries_0 : decode cX6_tries 0 = .ok (.aload_n 0, 1) := by decide +kernel
theorem dX6_tries_1 : decode cX6_tries 1 = .ok (.getfield 44, 3) := by decide +kernel
theorem dX6_tries_4 : decode cX6_tries 4 = .ok (.iload_n 1, 1) := by decide +kernel
theorem dX6_tries_5 : decode cX6_tries 5 = .ok (.iaload, 1) := by decide +kernel
theorem dX6_tries_6 : decode cX6_tries 6 = .ok (.istore_n 2, 1) := by decide +kernel
theorem dX6_tries_7 : decode cX6_tries 7 = .ok (.aload_n 0, 1) := by decide +kernel
theorem dX6_tries_8 : decode cX6_tries 8 = .ok (.getfield 80, 3) := by decide +kernel
theorem dX6_tries_11 : decode cX6_tries 11 = .ok (.iload_n 1, 1) := by decide +kernel
theorem dX6_tries_12 : decode cX6_tries 12 = .ok (.dup2, 1) := by decide +kernel
theorem dX6_tries_13 : decode cX6_tries 13 = .ok (.iaload, 1) := by decide +kernel
theorem dX6_tries_14 : decode cX6_tries 14 = .ok (.iconst 1, 1) := by decide +kernel
theorem dX6_tries_15 : decode cX6_tries 15 = .ok (.iadd, 1) := by decide +kernel
theorem dX6_tries_16 : decode cX6_tries 16 = .ok (.iastore, 1) := by decide +kernel
theorem dX6_tries_17 : decode cX6_tries 17 = .ok (.aload_n 0, 1) := by decide +kernel
theorem dX6_tries_18 : decode cX6_tries 18 = .ok (.getfield 89, 3) := by decide +kernel
theorem dX6_tries_21 : decode cX6_tries 21 = .ok (.iload_n 2, 1) := by decide +kernel
theorem dX6_tries_22 : decode cX6_tries 22 = .ok (.iaload, 1) := by decide +kernel
theorem dX6_tries_23 : decode cX6_tries 23 = .ok (.iconst 3, 1) := by decide +kernel
theorem dX6_tries_24 : decode cX6_tries 24 = .ok (.if_icmp .ne 11, 3) := by decide +kernel
theorem dX6_tries_27 : decode cX6_tries 27 = .ok (.aload_n 0, 1) := by decide +kernel
theorem dX6_tries_28 : decode cX6_tries 28 = .ok (.iload_n 1, 1) := by decide +kernel
theorem dX6_tries_29 : decode cX6_tries 29 = .ok (.iconst 4, 1) := by decide +kernel
theorem dX6_tries_30 : decode cX6_tries 30 = .ok (.invokevirtual 140, 3) := by decide +kernel
theorem dX6_tries_33 : decode cX6_tries 33 = .ok (.iconst 0, 1) := by decide +kernel
theorem dX6_tries_34 : decode cX6_tries 34 = .ok (.ireturn, 1) := by decide +kernel
theorem dX6_tries_35 : decode cX6_tries 35 = .ok (.aload_n 0, 1) := by decide +kernel
theorem dX6_tries_36 : decode cX6_tries 36 = .ok (.getfield 89, 3) := by decide +kernel
theorem dX6_tries_39 : decode cX6_tries 39 = .ok (.iload_n 2, 1) := by decide +kernel
theorem dX6_tries_40 : decode cX6_tries 40 = .ok (.iaload, 1) := by decide +kernel
theorem dX6_tries_41 : decode cX6_tries 41 = .ok (.ifCond .ne 18, 3) := by decide +kernel
theorem dX6_tries_44 : decode cX6_tries 44 = .ok (.aload_n 0, 1) := by decide +kernel
theorem dX6_tries_45 : decode cX6_tries 45 = .ok (.getfield 95, 3) := by decide +kernel
theorem dX6_tries_48 : decode cX6_tries 48 = .ok (.iload_n 2, 1) := by decide +kernel
theorem dX6_tries_49 : decode cX6_tries 49 = .ok (.iaload, 1) := by decide +kernel
theorem dX6_tries_50 : decode cX6_tries 50 = .ok (.aload_n 0, 1) := by decide +kernel
theorem dX6_tries_51 : decode cX6_tries 51 = .ok (.getfield 92, 3) := by decide +kernel
theorem dX6_tries_54 : decode cX6_tries 54 = .ok (.iload_n 2, 1) := by decide +kernel
theorem dX6_tries_55 : decode cX6_tries 55 = .ok (.iaload, 1) := by decide +kernel
theorem dX6_tries_56 : decode cX6_tries 56 = .ok (.if_icmp .lt 29, 3) := by decide +kernel
theorem dX6_tries_59 : decode cX6_tries 59 = .ok (.aload_n 0, 1) := by decide +kernel
theorem dX6_tries_60 : decode cX6_tries 60 = .ok (.iload_n 1, 1) := by decide +kernel
theorem dX6_tries_61 : decode cX6_tries 61 = .ok (.aload_n 0, 1) := by decide +kernel
theorem dX6_tries_62 : decode cX6_tries 62 = .ok (.getfield 89, 3) := by decide +kernel
theorem dX6_tries_65 : decode cX6_tries 65 = .ok (.iload_n 2, 1) := by decide +kernel
theorem dX6_tries_66 : decode cX6_tries 66 = .ok (.iaload, 1) := by decide +kernel
theorem dX6_tries_67 : decode cX6_tries 67 = .ok (.ifCond .ne 7, 3) := by decide +kernel
theorem dX6_tries_70 : decode cX6_tries 70 = .ok (.iconst 0, 1) := by decide +kernel
theorem dX6_tries_71 : decode cX6_tries 71 = .ok (.goto 9, 3) := by decide +kernel
theorem dX6_tries_74 : decode cX6_tries 74 = .ok (.aload_n 0, 1) := by decide +kernel
theorem dX6_tries_75 : decode cX6_tries 75 = .ok (.getfield 89, 3) := by decide +kernel
theorem dX6_tries_78 : decode cX6_tries 78 = .ok (.iload_n 2, 1) := by decide +kernel
theorem dX6_tries_79 : decode cX6_tries 79 = .ok (.iaload, 1) := by decide +kernel
theorem dX6_tries_80 : decode cX6_tries 80 = .ok (.invokevirtual 173, 3) := by decide +kernel
theorem dX6_tries_83 : decode cX6_tries 83 = .ok (.iconst 0, 1) := by decide +kernel
theorem dX6_tries_84 : decode cX6_tries 84 = .ok (.ireturn, 1) := by decide +kernel
theorem dX6_tries_85 : decode cX6_tries 85 = .ok (.aload_n 0, 1) := by decide +kernel
theorem dX6_tries_86 : decode cX6_tries 86 = .ok (.getfield 95, 3) := by decide +kernel
theorem dX6_tries_89 : decode cX6_tries 89 = .ok (.iload_n 2, 1) := by decide +kernel
theorem dX6_tries_90 : decode cX6_tries 90 = .ok (.dup2, 1) := by decide +kernel
theorem dX6_tries_91 : decode cX6_tries 91 = .ok (.iaload, 1) := by decide +kernel
theorem dX6_tries_92 : decode cX6_tries 92 = .ok (.iconst 1, 1) := by decide +kernel
theorem dX6_tries_93 : decode cX6_tries 93 = .ok (.iadd, 1) := by decide +kernel
theorem dX6_tries_94 : decode cX6_tries 94 = .ok (.iastore, 1) := by decide +kernel
theorem dX6_tries_95 : decode cX6_tries 95 = .ok (.aload_n 0, 1) := by decide +kernel
theorem dX6_tries_96 : decode cX6_tries 96 = .ok (.getfield 77, 3) := by decide +kernel
theorem dX6_tries_99 : decode cX6_tries 99 = .ok (.iload_n 1, 1) := by decide +kernel
theorem dX6_tries_100 : decode cX6_tries 100 = .ok (.dup2, 1) := by decide +kernel
theorem dX6_tries_101 : decode cX6_tries 101 = .ok (.iaload, 1) := by decide +kernel
theorem dX6_tries_102 : decode cX6_tries 102 = .ok (.iconst 1, 1) := by decide +kernel
theorem dX6_tries_103 : decode cX6_tries 103 = .ok (.iadd, 1) := by decide +kernel
theorem dX6_tries_104 : decode cX6_tries 104 = .ok (.iastore, 1) := by decide +kernel
theorem dX6_tries_105 : decode cX6_tries 105 = .ok (.aload_n 0, 1) := by decide +kernel
theorem dX6_tries_106 : decode cX6_tries 106 = .ok (.getfield 83, 3) := by decide +kernel
theorem dX6_tries_109 : decode cX6_tries 109 = .ok (.iload_n 1, 1) := by decide +kernel
theorem dX6_tries_110 : decode cX6_tries 110 = .ok (.aload_n 0, 1) := by decide +kernel
theorem dX6_tries_111 : decode cX6_tries 111 = .ok (.getfield 127, 3) := by decide +kernel
theorem dX6_tries_114 : decode cX6_tries 114 = .ok (.iastore, 1) := by decide +kernel
theorem dX6_tries_115 : decode cX6_tries 115 = .ok (.iconst 0, 1) := by decide +kernel
theorem dX6_tries_116 : decode cX6_tries 116 = .ok (.istore_n 3, 1) := by decide +kernel
theorem dX6_tries_117 : decode cX6_tries 117 = .ok (.iload_n 3, 1) := by decide +kernel
theorem dX6_tries_118 : decode cX6_tries 118 = .ok (.iconst 3, 1) := by decide +kernel
theorem dX6_tries_119 : decode cX6_tries 119 = .ok (.if_icmp .ge 20, 3) := by decide +kernel
theorem dX6_tries_122 : decode cX6_tries 122 = .ok (.aload_n 0, 1) := by decide +kernel
theorem dX6_tries_123 : decode cX6_tries 123 = .ok (.getfield 86, 3) := by decide +kernel
theorem dX6_tries_126 : decode cX6_tries 126 = .ok (.iconst 3, 1) := by decide +kernel
theorem dX6_tries_127 : decode cX6_tries 127 = .ok (.iload_n 1, 1) := by decide +kernel
theorem dX6_tries_128 : decode cX6_tries 128 = .ok (.imul, 1) := by decide +kernel
theorem dX6_tries_129 : decode cX6_tries 129 = .ok (.iload_n 3, 1) := by decide +kernel
theorem dX6_tries_130 : decode cX6_tries 130 = .ok (.iadd, 1) := by decide +kernel
theorem dX6_tries_131 : decode cX6_tries 131 = .ok (.iconst 0, 1) := by decide +kernel
theorem dX6_tries_132 : decode cX6_tries 132 = .ok (.iastore, 1) := by decide +kernel
theorem dX6_tries_133 : decode cX6_tries 133 = .ok (.iinc 3 1, 3) := by decide +kernel
theorem dX6_tries_136 : decode cX6_tries 136 = .ok (.goto (-19), 3) := by decide +kernel
theorem dX6_tries_139 : decode cX6_tries 139 = .ok (.aload_n 0, 1) := by decide +kernel
theorem dX6_tries_140 : decode cX6_tries 140 = .ok (.getfield 77, 3) := by decide +kernel
theorem dX6_tries_143 : decode cX6_tries 143 = .ok (.iload_n 1, 1) := by decide +kernel
theorem dX6_tries_144 : decode cX6_tries 144 = .ok (.iaload, 1) := by decide +kernel
theorem dX6_tries_145 : decode cX6_tries 145 = .ok (.aload_n 0, 1) := by decide +kernel
theorem dX6_tries_146 : decode cX6_tries 146 = .ok (.iload_n 1, 1) := by decide +kernel
theorem dX6_tries_147 : decode cX6_tries 147 = .ok (.invokevirtual 155, 3) := by decide +kernel
theorem dX6_tries_150 : decode cX6_tries 150 = .ok (.if_icmp .ne 9, 3) := by decide +kernel
theorem dX6_tries_153 : decode cX6_tries 153 = .ok (.aload_n 0, 1) := by decide +kernel
theorem dX6_tries_154 : decode cX6_tries 154 = .ok (.iload_n 1, 1) := by decide +kernel
theorem dX6_tries_155 : decode cX6_tries 155 = .ok (.iconst 1, 1) := by decide +kernel
theorem dX6_tries_156 : decode cX6_tries 156 = .ok (.invokevirtual 140, 3) := by decide +kernel
theorem dX6_tries_159 : decode cX6_tries 159 = .ok (.iconst 1, 1) := by decide +kernel
theorem dX6_tries_160 : decode cX6_tries 160 = .ok (.ireturn, 1) := by decide +kernel
set_option maxRecDepth 20000 in
theorem ggX6_pass_X6_isIn : GoodIn wsX6_pass wsX6_isIn := goodIn_r _ [9] (by decide +kernel) (by decide +kernel)
set_option maxRecDepth 20000 in
theorem gX6_pass_X6_isIn : GoodIn wsX6_pass (va_wsS RX6 105 yX6_isIn wsX6_isIn) := goodIn_app (goodIn_of _ (by decide +kernel)) ggX6_pass_X6_isIn
set_option maxRecDepth 20000 in
theorem ggX6_pass_X6_fails : GoodIn wsX6_pass wsX6_fails := goodIn_r _ [13, 14, 62, 63, 64, 65, 66, 67, 68, 69, 70, 71, 72, 73, 74, 75, 76, 77, 78, 79, 80, 81, 82, 83, 84, 85, 86, 87, 88, 89, 90, 91, 92, 93, 94] (by decide +kernel) (by decide +kernel)
set_option maxRecDepth 20000 in
theorem gX6_pass_X6_fails : GoodIn wsX6_pass (wsV RX6 117 RX6 yX6_fails wsX6_fails) := goodIn_app (goodIn_of _ (by decide +kernel)) ggX6_pass_X6_fails
set_option maxRecDepth 20000 in
theorem ggX6_pass_X6_ends : GoodIn wsX6_pass wsX6_ends := goodIn_r _ [18, 3, 19, 20, 21, 22, 62, 63, 64, 65, 66, 67, 68, 69, 70, 71, 72, 73, 74, 75, 76, 77, 78, 79, 80, 81, 82, 83, 84, 85, 86, 87, 88, 89, 90, 91, 92, 93, 94] (by decide +kernel) (by decide +kernel)
set_option maxRecDepth 20000 in
theorem gX6_pass_X6_ends : GoodIn wsX6_pass (wsV RX6 140 RX6 yX6_ends wsX6_ends) := goodIn_app (goodIn_of _ (by decide +kernel)) ggX6_pass_X6_ends
set_option maxRecDepth 20000 in
theorem ggX6_pass_X6_first : GoodIn wsX6_pass wsX6_first := goodIn_r _ [26, 2, 27, 28, 29, 30, 31, 8, 32, 3, 33, 62, 63, 64, 65, 66, 67, 68, 69, 70, 71, 72, 73, 74, 75, 76, 77, 78, 79, 80, 81, 82, 83, 84, 85, 86, 87, 88, 89, 90, 91, 92, 93, 94] (by decide +kernel) (by decide +kernel)
set_option maxRecDepth 20000 in
theorem gX6_pass_X6_first : GoodIn wsX6_pass (wsV RX6 170 RX6 yX6_first wsX6_first) := goodIn_app (goodIn_of _ (by decide +kernel)) ggX6_pass_X6_first
set_option maxRecDepth 20000 in
theorem ggX6_pass_X6_tries : GoodIn wsX6_pass wsX6_tries := goodIn_r _ [37, 33, 38, 39, 40, 41, 42, 27, 1, 43, 15, 16, 17, 8, 18, 3, 19, 20, 21, 22, 44, 45, 46, 47, 48, 49, 50, 51, 52, 53, 54, 55, 56, 57, 58, 59, 60, 61, 62, 63, 64, 65, 66, 67, 68, 69, 70, 71, 72, 73, 74, 75, 76, 77, 78, 79, 80, 81, 82, 83, 84, 85, 86, 87, 88, 89, 90, 91, 92, 93, 94] (by decide +kernel) (by decide +kernel)
set_option maxRecDepth 20000 in
theorem gX6_pass_X6_tries : GoodIn wsX6_pass (wsV RX6 176 RX6 yX6_tries wsX6_tries) := goodIn_app (goodIn_of _ (by decide +kernel)) ggX6_pass_X6_tries
theorem dX6_pass_0 : decode cX6_pass 0 = .ok (.aload_n 0, 1) := by decide +kernel
theorem dX6_pass_1 : decode cX6_pass 1 = .ok (.iload_n 1, 1) := by decide +kernel
theorem dX6_pass_2 : decode cX6_pass 2 = .ok (.iconst 1, 1) := by decide +kernel
theorem dX6_pass_3 : decode cX6_pass 3 = .ok (.bipush 100, 2) := by decide +kernel
theorem dX6_pass_5 : decode cX6_pass 5 = .ok (.invokestatic 105, 3) := by decide +kernel
theorem dX6_pass_8 : decode cX6_pass 8 = .ok (.ifCond .eq 7, 3) := by decide +kernel
theorem dX6_pass_11 : decode cX6_pass 11 = .ok (.iconst 0, 1) := by decide +kernel
theorem dX6_pass_12 : decode cX6_pass 12 = .ok (.goto 4, 3) := by decide +kernel
theorem dX6_pass_15 : decode cX6_pass 15 = .ok (.iconst 1, 1) := by decide +kernel
theorem dX6_pass_16 : decode cX6_pass 16 = .ok (.invokevirtual 117, 3) := by decide +kernel
theorem dX6_pass_19 : decode cX6_pass 19 = .ok (.ifCond .eq 5, 3) := by decide +kernel
theorem dX6_pass_22 : decode cX6_pass 22 = .ok (.iconst 0, 1) := by decide +kernel
theorem dX6_pass_23 : decode cX6_pass 23 = .ok (.ireturn, 1) := by decide +kernel
theorem dX6_pass_24 : decode cX6_pass 24 = .ok (.iconst 0, 1) := by decide +kernel
theorem dX6_pass_25 : decode cX6_pass 25 = .ok (.istore_n 2, 1) := by decide +kernel
theorem dX6_pass_26 : decode cX6_pass 26 = .ok (.iconst 0, 1) := by decide +kernel
theorem dX6_pass_27 : decode cX6_pass 27 = .ok (.istore_n 3, 1) := by decide +kernel
theorem dX6_pass_28 : decode cX6_pass 28 = .ok (.iload_n 3, 1) := by decide +kernel
theorem dX6_pass_29 : decode cX6_pass 29 = .ok (.iload_n 1, 1) := by decide +kernel
theorem dX6_pass_30 : decode cX6_pass 30 = .ok (.if_icmp .ge 123, 3) := by decide +kernel
theorem dX6_pass_33 : decode cX6_pass 33 = .ok (.aload_n 0, 1) := by decide +kernel
theorem dX6_pass_34 : decode cX6_pass 34 = .ok (.dup, 1) := by decide +kernel
theorem dX6_pass_35 : decode cX6_pass 35 = .ok (.getfield 127, 3) := by decide +kernel
theorem dX6_pass_38 : decode cX6_pass 38 = .ok (.iconst 1, 1) := by decide +kernel
theorem dX6_pass_39 : decode cX6_pass 39 = .ok (.iadd, 1) := by decide +kernel
theorem dX6_pass_40 : decode cX6_pass 40 = .ok (.putfield 127, 3) := by decide +kernel
theorem dX6_pass_43 : decode cX6_pass 43 = .ok (.iconst 0, 1) := by decide +kernel
theorem dX6_pass_44 : decode cX6_pass 44 = .ok (.istore 4, 2) := by decide +kernel
theorem dX6_pass_46 : decode cX6_pass 46 = .ok (.iload 4, 2) := by decide +kernel
theorem dX6_pass_48 : decode cX6_pass 48 = .ok (.aload_n 0, 1) := by decide +kernel
theorem dX6_pass_49 : decode cX6_pass 49 = .ok (.getfield 124, 3) := by decide +kernel
theorem dX6_pass_52 : decode cX6_pass 52 = .ok (.if_icmp .ge 48, 3) := by decide +kernel
theorem dX6_pass_55 : decode cX6_pass 55 = .ok (.aload_n 0, 1) := by decide +kernel
theorem dX6_pass_56 : decode cX6_pass 56 = .ok (.getfield 74, 3) := by decide +kernel
theorem dX6_pass_59 : decode cX6_pass 59 = .ok (.iload 4, 2) := by decide +kernel
theorem dX6_pass_61 : decode cX6_pass 61 = .ok (.iaload, 1) := by decide +kernel
theorem dX6_pass_62 : decode cX6_pass 62 = .ok (.ifCond .ne 32, 3) := by decide +kernel
theorem dX6_pass_65 : decode cX6_pass 65 = .ok (.aload_n 0, 1) := by decide +kernel
theorem dX6_pass_66 : decode cX6_pass 66 = .ok (.getfield 127, 3) := by decide +kernel
theorem dX6_pass_69 : decode cX6_pass 69 = .ok (.aload_n 0, 1) := by decide +kernel
theorem dX6_pass_70 : decode cX6_pass 70 = .ok (.getfield 53, 3) := by decide +kernel
theorem dX6_pass_73 : decode cX6_pass 73 = .ok (.iload 4, 2) := by decide +kernel
theorem dX6_pass_75 : decode cX6_pass 75 = .ok (.iaload, 1) := by decide +kernel
theorem dX6_pass_76 : decode cX6_pass 76 = .ok (.isub, 1) := by decide +kernel
theorem dX6_pass_77 : decode cX6_pass 77 = .ok (.aload_n 0, 1) := by decide +kernel
theorem dX6_pass_78 : decode cX6_pass 78 = .ok (.getfield 50, 3) := by decide +kernel
theorem dX6_pass_81 : decode cX6_pass 81 = .ok (.iload 4, 2) := by decide +kernel
theorem dX6_pass_83 : decode cX6_pass 83 = .ok (.iaload, 1) := by decide +kernel
theorem dX6_pass_84 : decode cX6_pass 84 = .ok (.if_icmp .lt 10, 3) := by decide +kernel
theorem dX6_pass_87 : decode cX6_pass 87 = .ok (.aload_n 0, 1) := by decide +kernel
theorem dX6_pass_88 : decode cX6_pass 88 = .ok (.iload 4, 2) := by decide +kernel
theorem dX6_pass_90 : decode cX6_pass 90 = .ok (.iconst 2, 1) := by decide +kernel
theorem dX6_pass_91 : decode cX6_pass 91 = .ok (.invokevirtual 140, 3) := by decide +kernel
theorem dX6_pass_94 : decode cX6_pass 94 = .ok (.iinc 4 1, 3) := by decide +kernel
theorem dX6_pass_97 : decode cX6_pass 97 = .ok (.goto (-51), 3) := by decide +kernel
theorem dX6_pass_100 : decode cX6_pass 100 = .ok (.iconst 0, 1) := by decide +kernel
theorem dX6_pass_101 : decode cX6_pass 101 = .ok (.istore 4, 2) := by decide +kernel
theorem dX6_pass_103 : decode cX6_pass 103 = .ok (.iload 4, 2) := by decide +kernel
theorem dX6_pass_105 : decode cX6_pass 105 = .ok (.bipush 6, 2) := by decide +kernel
theorem dX6_pass_107 : decode cX6_pass 107 = .ok (.if_icmp .ge 40, 3) := by decide +kernel
theorem dX6_pass_110 : decode cX6_pass 110 = .ok (.aload_n 0, 1) := by decide +kernel
theorem dX6_pass_111 : decode cX6_pass 111 = .ok (.iload 4, 2) := by decide +kernel
theorem dX6_pass_113 : decode cX6_pass 113 = .ok (.aload_n 0, 1) := by decide +kernel
theorem dX6_pass_114 : decode cX6_pass 114 = .ok (.getfield 127, 3) := by decide +kernel
theorem dX6_pass_117 : decode cX6_pass 117 = .ok (.invokevirtual 170, 3) := by decide +kernel
theorem dX6_pass_120 : decode cX6_pass 120 = .ok (.istore 5, 2) := by decide +kernel
theorem dX6_pass_122 : decode cX6_pass 122 = .ok (.iload_n 2, 1) := by decide +kernel
theorem dX6_pass_123 : decode cX6_pass 123 = .ok (.iload 5, 2) := by decide +kernel
theorem dX6_pass_125 : decode cX6_pass 125 = .ok (.iconst (-1), 1) := by decide +kernel
theorem dX6_pass_126 : decode cX6_pass 126 = .ok (.if_icmp .ne 7, 3) := by decide +kernel
theorem dX6_pass_129 : decode cX6_pass 129 = .ok (.iconst 0, 1) := by decide +kernel
theorem dX6_pass_130 : decode cX6_pass 130 = .ok (.goto 9, 3) := by decide +kernel
theorem dX6_pass_133 : decode cX6_pass 133 = .ok (.aload_n 0, 1) := by decide +kernel
theorem dX6_pass_134 : decode cX6_pass 134 = .ok (.iload 5, 2) := by decide +kernel
theorem dX6_pass_136 : decode cX6_pass 136 = .ok (.invokevirtual 176, 3) := by decide +kernel
theorem dX6_pass_139 : decode cX6_pass 139 = .ok (.iadd, 1) := by decide +kernel
theorem dX6_pass_140 : decode cX6_pass 140 = .ok (.istore_n 2, 1) := by decide +kernel
theorem dX6_pass_141 : decode cX6_pass 141 = .ok (.iinc 4 1, 3) := by decide +kernel
theorem dX6_pass_144 : decode cX6_pass 144 = .ok (.goto (-41), 3) := by decide +kernel
theorem dX6_pass_147 : decode cX6_pass 147 = .ok (.iinc 3 1, 3) := by decide +kernel
theorem dX6_pass_150 : decode cX6_pass 150 = .ok (.goto (-122), 3) := by decide +kernel
theorem dX6_pass_153 : decode cX6_pass 153 = .ok (.iload_n 2, 1) := by decide +kernel
theorem dX6_pass_154 : decode cX6_pass 154 = .ok (.ireturn, 1) := by decide +kernel
set_option maxRecDepth 20000 in
theorem ggX6_now_X6_tells : GoodIn wsX6_now wsX6_tells := goodIn_r _ [6, 7, 8, 9, 10, 11, 12, 13, 14, 15, 16, 17, 18, 19, 20, 21, 22, 23, 24, 25, 26, 27, 28, 29, 30, 31, 32, 33, 34, 35, 36, 37, 38, 39, 40] (by decide +kernel) (by decide +kernel)
set_option maxRecDepth 20000 in
theorem gX6_now_X6_tells : GoodIn wsX6_now (wsV RX6 147 RX6 yX6_tells wsX6_tells) := goodIn_app (goodIn_of _ (by decide +kernel)) ggX6_now_X6_tells
theorem dX6_now_0 : decode cX6_now 0 = .ok (.aload_n 0, 1) := by decide +kernel
theorem dX6_now_1 : decode cX6_now 1 = .ok (.aload_n 0, 1) := by decide +kernel
theorem dX6_now_2 : decode cX6_now 2 = .ok (.getfield 127, 3) := by decide +kernel
theorem dX6_now_5 : decode cX6_now 5 = .ok (.invokevirtual 147, 3) := by decide +kernel
theorem dX6_now_8 : decode cX6_now 8 = .ok (.ireturn, 1) := by decide +kernel
set_option maxRecDepth 20000 in
theorem ggX6_receipts_X6_isAccount : GoodIn wsX6_receipts wsX6_isAccount := goodIn_r _ [5, 6, 7, 4, 8] (by decide +kernel) (by decide +kernel)
set_option maxRecDepth 20000 in
theorem gX6_receipts_X6_isAccount : GoodIn wsX6_receipts (va_wsS RX6 113 yX6_isAccount wsX6_isAccount) := goodIn_app (goodIn_of _ (by decide +kernel)) ggX6_receipts_X6_isAccount
set_option maxRecDepth 20000 in
theorem ggX6_receipts_X6_fails : GoodIn wsX6_receipts wsX6_fails := goodIn_r _ [12, 13, 14, 15, 16, 17, 18, 19, 20, 21, 22, 23, 24, 25, 26, 27, 28, 29, 30, 31, 32, 33, 34, 35, 36, 37, 38, 39, 40, 41, 42, 43, 44, 45, 46] (by decide +kernel) (by decide +kernel)
set_option maxRecDepth 20000 in
theorem gX6_receipts_X6_fails : GoodIn wsX6_receipts (wsV RX6 117 RX6 yX6_fails wsX6_fails) := goodIn_app (goodIn_of _ (by decide +kernel)) ggX6_receipts_X6_fails
theorem dX6_receipts_0 : decode cX6_receipts 0 = .ok (.aload_n 0, 1) := by decide +kernel
theorem dX6_receipts_1 : decode cX6_receipts 1 = .ok (.iload_n 1, 1) := by decide +kernel
theorem dX6_receipts_2 : decode cX6_receipts 2 = .ok (.invokestatic 113, 3) := by decide +kernel
theorem dX6_receipts_5 : decode cX6_receipts 5 = .ok (.ifCond .eq 7, 3) := by decide +kernel
theorem dX6_receipts_8 : decode cX6_receipts 8 = .ok (.iconst 0, 1) := by decide +kernel
theorem dX6_receipts_9 : decode cX6_receipts 9 = .ok (.goto 4, 3) := by decide +kernel
theorem dX6_receipts_12 : decode cX6_receipts 12 = .ok (.iconst 1, 1) := by decide +kernel
theorem dX6_receipts_13 : decode cX6_receipts 13 = .ok (.invokevirtual 117, 3) := by decide +kernel
theorem dX6_receipts_16 : decode cX6_receipts 16 = .ok (.ifCond .eq 7, 3) := by decide +kernel
theorem dX6_receipts_19 : decode cX6_receipts 19 = .ok (.iconst 0, 1) := by decide +kernel
theorem dX6_receipts_20 : decode cX6_receipts 20 = .ok (.goto 9, 3) := by decide +kernel
theorem dX6_receipts_23 : decode cX6_receipts 23 = .ok (.aload_n 0, 1) := by decide +kernel
theorem dX6_receipts_24 : decode cX6_receipts 24 = .ok (.getfield 35, 3) := by decide +kernel
theorem dX6_receipts_27 : decode cX6_receipts 27 = .ok (.iload_n 1, 1) := by decide +kernel
theorem dX6_receipts_28 : decode cX6_receipts 28 = .ok (.iaload, 1) := by decide +kernel
theorem dX6_receipts_29 : decode cX6_receipts 29 = .ok (.ireturn, 1) := by decide +kernel
set_option maxRecDepth 20000 in
theorem ggX6_takeReceipt_X6_isAccount : GoodIn wsX6_takeReceipt wsX6_isAccount := goodIn_r _ [6, 7, 8, 5, 9] (by decide +kernel) (by decide +kernel)
set_option maxRecDepth 20000 in
theorem gX6_takeReceipt_X6_isAccount : GoodIn wsX6_takeReceipt (va_wsS RX6 113 yX6_isAccount wsX6_isAccount) := goodIn_app (goodIn_of _ (by decide +kernel)) ggX6_takeReceipt_X6_isAccount
set_option maxRecDepth 20000 in
theorem ggX6_takeReceipt_X6_fails : GoodIn wsX6_takeReceipt wsX6_fails := goodIn_r _ [13, 14, 15, 16, 17, 18, 19, 20, 21, 22, 23, 24, 25, 26, 27, 28, 29, 30, 31, 32, 33, 34, 35, 36, 37, 38, 39, 40, 41, 42, 43, 44, 45, 46, 47] (by decide +kernel) (by decide +kernel)
set_option maxRecDepth 20000 in
theorem gX6_takeReceipt_X6_fails : GoodIn wsX6_takeReceipt (wsV RX6 117 RX6 yX6_fails wsX6_fails) := goodIn_app (goodIn_of _ (by decide +kernel)) ggX6_takeReceipt_X6_fails
theorem dX6_takeReceipt_0 : decode cX6_takeReceipt 0 = .ok (.iload_n 1, 1) := by decide +kernel
theorem dX6_takeReceipt_1 : decode cX6_takeReceipt 1 = .ok (.invokestatic 113, 3) := by decide +kernel
theorem dX6_takeReceipt_4 : decode cX6_takeReceipt 4 = .ok (.istore_n 2, 1) := by decide +kernel
theorem dX6_takeReceipt_5 : decode cX6_takeReceipt 5 = .ok (.aload_n 0, 1) := by decide +kernel
theorem dX6_takeReceipt_6 : decode cX6_takeReceipt 6 = .ok (.iload_n 2, 1) := by decide +kernel
theorem dX6_takeReceipt_7 : decode cX6_takeReceipt 7 = .ok (.ifCond .ne 7, 3) := by decide +kernel
theorem dX6_takeReceipt_10 : decode cX6_takeReceipt 10 = .ok (.iconst 1, 1) := by decide +kernel
theorem dX6_takeReceipt_11 : decode cX6_takeReceipt 11 = .ok (.goto 17, 3) := by decide +kernel
theorem dX6_takeReceipt_14 : decode cX6_takeReceipt 14 = .ok (.aload_n 0, 1) := by decide +kernel
theorem dX6_takeReceipt_15 : decode cX6_takeReceipt 15 = .ok (.getfield 35, 3) := by decide +kernel
theorem dX6_takeReceipt_18 : decode cX6_takeReceipt 18 = .ok (.iload_n 1, 1) := by decide +kernel
theorem dX6_takeReceipt_19 : decode cX6_takeReceipt 19 = .ok (.iaload, 1) := by decide +kernel
theorem dX6_takeReceipt_20 : decode cX6_takeReceipt 20 = .ok (.ifCond .ne 7, 3) := by decide +kernel
theorem dX6_takeReceipt_23 : decode cX6_takeReceipt 23 = .ok (.iconst 2, 1) := by decide +kernel
theorem dX6_takeReceipt_24 : decode cX6_takeReceipt 24 = .ok (.goto 4, 3) := by decide +kernel
theorem dX6_takeReceipt_27 : decode cX6_takeReceipt 27 = .ok (.iconst 0, 1) := by decide +kernel
theorem dX6_takeReceipt_28 : decode cX6_takeReceipt 28 = .ok (.invokevirtual 117, 3) := by decide +kernel
theorem dX6_takeReceipt_31 : decode cX6_takeReceipt 31 = .ok (.ifCond .eq 5, 3) := by decide +kernel
theorem dX6_takeReceipt_34 : decode cX6_takeReceipt 34 = .ok (.iconst 0, 1) := by decide +kernel
theorem dX6_takeReceipt_35 : decode cX6_takeReceipt 35 = .ok (.ireturn, 1) := by decide +kernel
theorem dX6_takeReceipt_36 : decode cX6_takeReceipt 36 = .ok (.aload_n 0, 1) := by decide +kernel
theorem dX6_takeReceipt_37 : decode cX6_takeReceipt 37 = .ok (.getfield 38, 3) := by decide +kernel
theorem dX6_takeReceipt_40 : decode cX6_takeReceipt 40 = .ok (.bipush 40, 2) := by decide +kernel
theorem dX6_takeReceipt_42 : decode cX6_takeReceipt 42 = .ok (.iload_n 1, 1) := by decide +kernel
theorem dX6_takeReceipt_43 : decode cX6_takeReceipt 43 = .ok (.imul, 1) := by decide +kernel
theorem dX6_takeReceipt_44 : decode cX6_takeReceipt 44 = .ok (.iaload, 1) := by decide +kernel
theorem dX6_takeReceipt_45 : decode cX6_takeReceipt 45 = .ok (.istore_n 3, 1) := by decide +kernel
theorem dX6_takeReceipt_46 : decode cX6_takeReceipt 46 = .ok (.aload_n 0, 1) := by decide +kernel
theorem dX6_takeReceipt_47 : decode cX6_takeReceipt 47 = .ok (.getfield 35, 3) := by decide +kernel
theorem dX6_takeReceipt_50 : decode cX6_takeReceipt 50 = .ok (.iload_n 1, 1) := by decide +kernel
theorem dX6_takeReceipt_51 : decode cX6_takeReceipt 51 = .ok (.dup2, 1) := by decide +kernel
theorem dX6_takeReceipt_52 : decode cX6_takeReceipt 52 = .ok (.iaload, 1) := by decide +kernel
theorem dX6_takeReceipt_53 : decode cX6_takeReceipt 53 = .ok (.iconst 1, 1) := by decide +kernel
theorem dX6_takeReceipt_54 : decode cX6_takeReceipt 54 = .ok (.isub, 1) := by decide +kernel
theorem dX6_takeReceipt_55 : decode cX6_takeReceipt 55 = .ok (.iastore, 1) := by decide +kernel
theorem dX6_takeReceipt_56 : decode cX6_takeReceipt 56 = .ok (.bipush 40, 2) := by decide +kernel
theorem dX6_takeReceipt_58 : decode cX6_takeReceipt 58 = .ok (.iload_n 1, 1) := by decide +kernel
theorem dX6_takeReceipt_59 : decode cX6_takeReceipt 59 = .ok (.imul, 1) := by decide +kernel
theorem dX6_takeReceipt_60 : decode cX6_takeReceipt 60 = .ok (.istore 4, 2) := by decide +kernel
theorem dX6_takeReceipt_62 : decode cX6_takeReceipt 62 = .ok (.iload 4, 2) := by decide +kernel
theorem dX6_takeReceipt_64 : decode cX6_takeReceipt 64 = .ok (.bipush 40, 2) := by decide +kernel
theorem dX6_takeReceipt_66 : decode cX6_takeReceipt 66 = .ok (.iload_n 1, 1) := by decide +kernel
theorem dX6_takeReceipt_67 : decode cX6_takeReceipt 67 = .ok (.imul, 1) := by decide +kernel
theorem dX6_takeReceipt_68 : decode cX6_takeReceipt 68 = .ok (.aload_n 0, 1) := by decide +kernel
theorem dX6_takeReceipt_69 : decode cX6_takeReceipt 69 = .ok (.getfield 35, 3) := by decide +kernel
theorem dX6_takeReceipt_72 : decode cX6_takeReceipt 72 = .ok (.iload_n 1, 1) := by decide +kernel
theorem dX6_takeReceipt_73 : decode cX6_takeReceipt 73 = .ok (.iaload, 1) := by decide +kernel
theorem dX6_takeReceipt_74 : decode cX6_takeReceipt 74 = .ok (.iadd, 1) := by decide +kernel
theorem dX6_takeReceipt_75 : decode cX6_takeReceipt 75 = .ok (.if_icmp .ge 25, 3) := by decide +kernel
theorem dX6_takeReceipt_78 : decode cX6_takeReceipt 78 = .ok (.aload_n 0, 1) := by decide +kernel
theorem dX6_takeReceipt_79 : decode cX6_takeReceipt 79 = .ok (.getfield 38, 3) := by decide +kernel
theorem dX6_takeReceipt_82 : decode cX6_takeReceipt 82 = .ok (.iload 4, 2) := by decide +kernel
theorem dX6_takeReceipt_84 : decode cX6_takeReceipt 84 = .ok (.aload_n 0, 1) := by decide +kernel
theorem dX6_takeReceipt_85 : decode cX6_takeReceipt 85 = .ok (.getfield 38, 3) := by decide +kernel
theorem dX6_takeReceipt_88 : decode cX6_takeReceipt 88 = .ok (.iload 4, 2) := by decide +kernel
theorem dX6_takeReceipt_90 : decode cX6_takeReceipt 90 = .ok (.iconst 1, 1) := by decide +kernel
theorem dX6_takeReceipt_91 : decode cX6_takeReceipt 91 = .ok (.iadd, 1) := by decide +kernel
theorem dX6_takeReceipt_92 : decode cX6_takeReceipt 92 = .ok (.iaload, 1) := by decide +kernel
theorem dX6_takeReceipt_93 : decode cX6_takeReceipt 93 = .ok (.iastore, 1) := by decide +kernel
theorem dX6_takeReceipt_94 : decode cX6_takeReceipt 94 = .ok (.iinc 4 1, 3) := by decide +kernel
theorem dX6_takeReceipt_97 : decode cX6_takeReceipt 97 = .ok (.goto (-35), 3) := by decide +kernel
theorem dX6_takeReceipt_100 : decode cX6_takeReceipt 100 = .ok (.iload_n 3, 1) := by decide +kernel
theorem dX6_takeReceipt_101 : decode cX6_takeReceipt 101 = .ok (.ireturn, 1) := by decide +kernel
theorem dX6_share_0 : decode cX6_share 0 = .ok (.aload_n 0, 1) := by decide +kernel
theorem dX6_share_1 : decode cX6_share 1 = .ok (.iconst 0, 1) := by decide +kernel
theorem dX6_share_2 : decode cX6_share 2 = .ok (.putfield 101, 3) := by decide +kernel
theorem dX6_share_5 : decode cX6_share 5 = .ok (.iconst 0, 1) := by decide +kernel
theorem dX6_share_6 : decode cX6_share 6 = .ok (.istore_n 1, 1) := by decide +kernel
theorem dX6_share_7 : decode cX6_share 7 = .ok (.iconst 0, 1) := by decide +kernel
theorem dX6_share_8 : decode cX6_share 8 = .ok (.istore_n 2, 1) := by decide +kernel
theorem dX6_share_9 : decode cX6_share 9 = .ok (.iconst 0, 1) := by decide +kernel
theorem dX6_share_10 : decode cX6_share 10 = .ok (.istore_n 3, 1) := by decide +kernel
theorem dX6_share_11 : decode cX6_share 11 = .ok (.iload_n 3, 1) := by decide +kernel
theorem dX6_share_12 : decode cX6_share 12 = .ok (.aload_n 0, 1) := by decide +kernel
theorem dX6_share_13 : decode cX6_share 13 = .ok (.getfield 124, 3) := by decide +kernel
theorem dX6_share_16 : decode cX6_share 16 = .ok (.if_icmp .ge 44, 3) := by decide +kernel
theorem dX6_share_19 : decode cX6_share 19 = .ok (.iload_n 1, 1) := by decide +kernel
theorem dX6_share_20 : decode cX6_share 20 = .ok (.aload_n 0, 1) := by decide +kernel
theorem dX6_share_21 : decode cX6_share 21 = .ok (.getfield 74, 3) := by decide +kernel
theorem dX6_share_24 : decode cX6_share 24 = .ok (.iload_n 3, 1) := by decide +kernel
theorem dX6_share_25 : decode cX6_share 25 = .ok (.iaload, 1) := by decide +kernel
theorem dX6_share_26 : decode cX6_share 26 = .ok (.iconst 1, 1) := by decide +kernel
theorem dX6_share_27 : decode cX6_share 27 = .ok (.if_icmp .ne 7, 3) := by decide +kernel
theorem dX6_share_30 : decode cX6_share 30 = .ok (.iconst 1, 1) := by decide +kernel
theorem dX6_share_31 : decode cX6_share 31 = .ok (.goto 4, 3) := by decide +kernel
theorem dX6_share_34 : decode cX6_share 34 = .ok (.iconst 0, 1) := by decide +kernel
theorem dX6_share_35 : decode cX6_share 35 = .ok (.iadd, 1) := by decide +kernel
theorem dX6_share_36 : decode cX6_share 36 = .ok (.istore_n 1, 1) := by decide +kernel
theorem dX6_share_37 : decode cX6_share 37 = .ok (.iload_n 2, 1) := by decide +kernel
theorem dX6_share_38 : decode cX6_share 38 = .ok (.aload_n 0, 1) := by decide +kernel
theorem dX6_share_39 : decode cX6_share 39 = .ok (.getfield 74, 3) := by decide +kernel
theorem dX6_share_42 : decode cX6_share 42 = .ok (.iload_n 3, 1) := by decide +kernel
theorem dX6_share_43 : decode cX6_share 43 = .ok (.iaload, 1) := by decide +kernel
theorem dX6_share_44 : decode cX6_share 44 = .ok (.ifCond .ne 7, 3) := by decide +kernel
theorem dX6_share_47 : decode cX6_share 47 = .ok (.iconst 0, 1) := by decide +kernel
theorem dX6_share_48 : decode cX6_share 48 = .ok (.goto 4, 3) := by decide +kernel
theorem dX6_share_51 : decode cX6_share 51 = .ok (.iconst 1, 1) := by decide +kernel
theorem dX6_share_52 : decode cX6_share 52 = .ok (.iadd, 1) := by decide +kernel
theorem dX6_share_53 : decode cX6_share 53 = .ok (.istore_n 2, 1) := by decide +kernel
theorem dX6_share_54 : decode cX6_share 54 = .ok (.iinc 3 1, 3) := by decide +kernel
theorem dX6_share_57 : decode cX6_share 57 = .ok (.goto (-46), 3) := by decide +kernel
theorem dX6_share_60 : decode cX6_share 60 = .ok (.iload_n 2, 1) := by decide +kernel
theorem dX6_share_61 : decode cX6_share 61 = .ok (.ifCond .ne 7, 3) := by decide +kernel
theorem dX6_share_64 : decode cX6_share 64 = .ok (.fconst 0, 1) := by decide +kernel
theorem dX6_share_65 : decode cX6_share 65 = .ok (.goto 8, 3) := by decide +kernel
theorem dX6_share_68 : decode cX6_share 68 = .ok (.iload_n 1, 1) := by decide +kernel
theorem dX6_share_69 : decode cX6_share 69 = .ok (.i2f, 1) := by decide +kernel
theorem dX6_share_70 : decode cX6_share 70 = .ok (.iload_n 2, 1) := by decide +kernel
theorem dX6_share_71 : decode cX6_share 71 = .ok (.i2f, 1) := by decide +kernel
theorem dX6_share_72 : decode cX6_share 72 = .ok (.fdiv, 1) := by decide +kernel
theorem dX6_share_73 : decode cX6_share 73 = .ok (.freturn, 1) := by decide +kernel
theorem dJ9_max_7cf53_0 : decode cJ9_max_7cf53 0 = .ok (.iload_n 0, 1) := by decide +kernel
theorem dJ9_max_7cf53_1 : decode cJ9_max_7cf53 1 = .ok (.iload_n 1, 1) := by decide +kernel
theorem dJ9_max_7cf53_2 : decode cJ9_max_7cf53 2 = .ok (.if_icmp .lt 7, 3) := by decide +kernel
theorem dJ9_max_7cf53_5 : decode cJ9_max_7cf53 5 = .ok (.iload_n 0, 1) := by decide +kernel
theorem dJ9_max_7cf53_6 : decode cJ9_max_7cf53 6 = .ok (.goto 4, 3) := by decide +kernel
theorem dJ9_max_7cf53_9 : decode cJ9_max_7cf53 9 = .ok (.iload_n 1, 1) := by decide +kernel
theorem dJ9_max_7cf53_10 : decode cJ9_max_7cf53 10 = .ok (.ireturn, 1) := by decide +kernel
theorem dJ9_min_7cf53_0 : decode cJ9_min_7cf53 0 = .ok (.iload_n 0, 1) := by decide +kernel
theorem dJ9_min_7cf53_1 : decode cJ9_min_7cf53 1 = .ok (.iload_n 1, 1) := by decide +kernel
theorem dJ9_min_7cf53_2 : decode cJ9_min_7cf53 2 = .ok (.if_icmp .gt 7, 3) := by decide +kernel
theorem dJ9_min_7cf53_5 : decode cJ9_min_7cf53 5 = .ok (.iload_n 0, 1) := by decide +kernel
theorem dJ9_min_7cf53_6 : decode cJ9_min_7cf53 6 = .ok (.goto 4, 3) := by decide +kernel
theorem dJ9_min_7cf53_9 : decode cJ9_min_7cf53 9 = .ok (.iload_n 1, 1) := by decide +kernel
theorem dJ9_min_7cf53_10 : decode cJ9_min_7cf53 10 = .ok (.ireturn, 1) := by decide +kernel
theorem dJxa1e45_init_da8c8_0 : decode cJxa1e45_init_da8c8 0 = .ok (.aload_n 0, 1) := by decide +kernel
theorem dJxa1e45_init_da8c8_1 : decode cJxa1e45_init_da8c8 1 = .ok (.invokespecial 1, 3) := by decide +kernel
theorem dJxa1e45_init_da8c8_4 : decode cJxa1e45_init_da8c8 4 = .ok (.return_, 1) := by decide +kernel
set_option maxRecDepth 20000 in
theorem ggJxc12de_init_da8c8_Jxa1e45_init_da8c8 : GoodIn wsJxc12de_init_da8c8 wsJxa1e45_init_da8c8 := goodIn_r _ [5, 6, 7, 8] (by decide +kernel) (by decide +kernel)
set_option maxRecDepth 20000 in
theorem gJxc12de_init_da8c8_Jxa1e45_init_da8c8 : GoodIn wsJxc12de_init_da8c8 (wsJxa1e45_init_da8c8) := ggJxc12de_init_da8c8_Jxa1e45_init_da8c8
theorem dJxc12de_init_da8c8_0 : decode cJxc12de_init_da8c8 0 = .ok (.aload_n 0, 1) := by decide +kernel
theorem dJxc12de_init_da8c8_1 : decode cJxc12de_init_da8c8 1 = .ok (.invokespecial 1, 3) := by decide +kernel
theorem dJxc12de_init_da8c8_4 : decode cJxc12de_init_da8c8 4 = .ok (.aload_n 0, 1) := by decide +kernel
theorem dJxc12de_init_da8c8_5 : decode cJxc12de_init_da8c8 5 = .ok (.iconst 0, 1) := by decide +kernel
theorem dJxc12de_init_da8c8_6 : decode cJxc12de_init_da8c8 6 = .ok (.putfield 7, 3) := by decide +kernel
theorem dJxc12de_init_da8c8_9 : decode cJxc12de_init_da8c8 9 = .ok (.return_, 1) := by decide +kernel
set_option maxRecDepth 20000 in
theorem ggJx4a65c_init_da8c8_Jxc12de_init_da8c8 : GoodIn wsJx4a65c_init_da8c8 wsJxc12de_init_da8c8 := goodIn_r _ [6, 7, 8, 9, 10, 11, 12, 13, 14, 15, 16, 17] (by decide +kernel) (by decide +kernel)
set_option maxRecDepth 20000 in
theorem gJx4a65c_init_da8c8_Jxc12de_init_da8c8 : GoodIn wsJx4a65c_init_da8c8 (wsJxc12de_init_da8c8) := ggJx4a65c_init_da8c8_Jxc12de_init_da8c8
theorem dJx4a65c_init_da8c8_0 : decode cJx4a65c_init_da8c8 0 = .ok (.aload_n 0, 1) := by decide +kernel
theorem dJx4a65c_init_da8c8_1 : decode cJx4a65c_init_da8c8 1 = .ok (.invokespecial 1, 3) := by decide +kernel
theorem dJx4a65c_init_da8c8_4 : decode cJx4a65c_init_da8c8 4 = .ok (.aload_n 0, 1) := by decide +kernel
theorem dJx4a65c_init_da8c8_5 : decode cJx4a65c_init_da8c8 5 = .ok (.getstatic 39, 3) := by decide +kernel
theorem dJx4a65c_init_da8c8_8 : decode cJx4a65c_init_da8c8 8 = .ok (.putfield 9, 3) := by decide +kernel
theorem dJx4a65c_init_da8c8_11 : decode cJx4a65c_init_da8c8 11 = .ok (.return_, 1) := by decide +kernel
set_option maxRecDepth 20000 in
theorem ggJx4a65c_grow_92f84_J8_newLength_cabcc : GoodIn wsJx4a65c_grow_92f84 wsJ8_newLength_cabcc := goodIn_r _ [11, 12, 4, 5, 6, 13, 14, 15, 10, 16] (by decide +kernel) (by decide +kernel)
set_option maxRecDepth 20000 in
theorem gJx4a65c_grow_92f84_J8_newLength_cabcc : GoodIn wsJx4a65c_grow_92f84 (va_wsS RJx4a65c 73 yJ8_newLength_cabcc wsJ8_newLength_cabcc) := goodIn_app (goodIn_of _ (by decide +kernel)) ggJx4a65c_grow_92f84_J8_newLength_cabcc
set_option maxRecDepth 20000 in
theorem ggJx4a65c_grow_92f84_J7_copyOf_1904c : GoodIn wsJx4a65c_grow_92f84 wsJ7_copyOf_1904c := goodIn_r _ [20, 21, 22, 23, 24, 25, 26, 19, 27, 28, 29, 30, 31, 5, 32, 33, 34, 35, 36] (by decide +kernel) (by decide +kernel)
set_option maxRecDepth 20000 in
theorem gJx4a65c_grow_92f84_J7_copyOf_1904c : GoodIn wsJx4a65c_grow_92f84 (va_wsS RJx4a65c 66 yJ7_copyOf_1904c wsJ7_copyOf_1904c) := goodIn_app (goodIn_of _ (by decide +kernel)) ggJx4a65c_grow_92f84_J7_copyOf_1904c
theorem dJx4a65c_grow_92f84_0 : decode cJx4a65c_grow_92f84 0 = .ok (.aload_n 0, 1) := by decide +kernel
theorem dJx4a65c_grow_92f84_1 : decode cJx4a65c_grow_92f84 1 = .ok (.getfield 9, 3) := by decide +kernel
theorem dJx4a65c_grow_92f84_4 : decode cJx4a65c_grow_92f84 4 = .ok (.arraylength, 1) := by decide +kernel
theorem dJx4a65c_grow_92f84_5 : decode cJx4a65c_grow_92f84 5 = .ok (.istore_n 2, 1) := by decide +kernel
theorem dJx4a65c_grow_92f84_6 : decode cJx4a65c_grow_92f84 6 = .ok (.iload_n 2, 1) := by decide +kernel
theorem dJx4a65c_grow_92f84_7 : decode cJx4a65c_grow_92f84 7 = .ok (.ifCond .gt 13, 3) := by decide +kernel
theorem dJx4a65c_grow_92f84_10 : decode cJx4a65c_grow_92f84 10 = .ok (.aload_n 0, 1) := by decide +kernel
theorem dJx4a65c_grow_92f84_11 : decode cJx4a65c_grow_92f84 11 = .ok (.getfield 9, 3) := by decide +kernel
theorem dJx4a65c_grow_92f84_14 : decode cJx4a65c_grow_92f84 14 = .ok (.getstatic 39, 3) := by decide +kernel
theorem dJx4a65c_grow_92f84_17 : decode cJx4a65c_grow_92f84 17 = .ok (.if_acmp .eq 28, 3) := by decide +kernel
theorem dJx4a65c_grow_92f84_20 : decode cJx4a65c_grow_92f84 20 = .ok (.iload_n 2, 1) := by decide +kernel
theorem dJx4a65c_grow_92f84_21 : decode cJx4a65c_grow_92f84 21 = .ok (.iload_n 1, 1) := by decide +kernel
theorem dJx4a65c_grow_92f84_22 : decode cJx4a65c_grow_92f84 22 = .ok (.iload_n 2, 1) := by decide +kernel
theorem dJx4a65c_grow_92f84_23 : decode cJx4a65c_grow_92f84 23 = .ok (.isub, 1) := by decide +kernel
theorem dJx4a65c_grow_92f84_24 : decode cJx4a65c_grow_92f84 24 = .ok (.iload_n 2, 1) := by decide +kernel
theorem dJx4a65c_grow_92f84_25 : decode cJx4a65c_grow_92f84 25 = .ok (.iconst 1, 1) := by decide +kernel
theorem dJx4a65c_grow_92f84_26 : decode cJx4a65c_grow_92f84 26 = .ok (.ishr, 1) := by decide +kernel
theorem dJx4a65c_grow_92f84_27 : decode cJx4a65c_grow_92f84 27 = .ok (.invokestatic 73, 3) := by decide +kernel
theorem dJx4a65c_grow_92f84_30 : decode cJx4a65c_grow_92f84 30 = .ok (.istore_n 3, 1) := by decide +kernel
theorem dJx4a65c_grow_92f84_31 : decode cJx4a65c_grow_92f84 31 = .ok (.aload_n 0, 1) := by decide +kernel
theorem dJx4a65c_grow_92f84_32 : decode cJx4a65c_grow_92f84 32 = .ok (.aload_n 0, 1) := by decide +kernel
theorem dJx4a65c_grow_92f84_33 : decode cJx4a65c_grow_92f84 33 = .ok (.getfield 9, 3) := by decide +kernel
theorem dJx4a65c_grow_92f84_36 : decode cJx4a65c_grow_92f84 36 = .ok (.iload_n 3, 1) := by decide +kernel
theorem dJx4a65c_grow_92f84_37 : decode cJx4a65c_grow_92f84 37 = .ok (.invokestatic 66, 3) := by decide +kernel
theorem dJx4a65c_grow_92f84_40 : decode cJx4a65c_grow_92f84 40 = .ok (.dup_x1, 1) := by decide +kernel
theorem dJx4a65c_grow_92f84_41 : decode cJx4a65c_grow_92f84 41 = .ok (.putfield 9, 3) := by decide +kernel
theorem dJx4a65c_grow_92f84_44 : decode cJx4a65c_grow_92f84 44 = .ok (.areturn, 1) := by decide +kernel
theorem dJx4a65c_grow_92f84_45 : decode cJx4a65c_grow_92f84 45 = .ok (.aload_n 0, 1) := by decide +kernel
theorem dJx4a65c_grow_92f84_46 : decode cJx4a65c_grow_92f84 46 = .ok (.bipush 10, 2) := by decide +kernel
theorem dJx4a65c_grow_92f84_48 : decode cJx4a65c_grow_92f84 48 = .ok (.iload_n 1, 1) := by decide +kernel
theorem dJx4a65c_grow_92f84_49 : decode cJx4a65c_grow_92f84 49 = .ok (.invokestatic 79, 3) := by decide +kernel
theorem dJx4a65c_grow_92f84_52 : decode cJx4a65c_grow_92f84 52 = .ok (.anewarray 7, 3) := by decide +kernel
theorem dJx4a65c_grow_92f84_55 : decode cJx4a65c_grow_92f84 55 = .ok (.dup_x1, 1) := by decide +kernel
theorem dJx4a65c_grow_92f84_56 : decode cJx4a65c_grow_92f84 56 = .ok (.putfield 9, 3) := by decide +kernel
theorem dJx4a65c_grow_92f84_59 : decode cJx4a65c_grow_92f84 59 = .ok (.areturn, 1) := by decide +kernel
set_option maxRecDepth 20000 in
theorem ggJx4a65c_grow_d5877_Jx4a65c_grow_92f84 : GoodIn wsJx4a65c_grow_d5877 wsJx4a65c_grow_92f84 := goodIn_r _ [6, 7, 8, 9, 10, 11, 12, 13, 14, 15, 16, 17, 18, 19, 20, 21, 22, 23, 24, 25, 26, 27, 28, 29, 30, 31, 32, 33, 34, 35, 36, 37, 38, 39, 40, 41, 42, 43, 44, 45] (by decide +kernel) (by decide +kernel)
set_option maxRecDepth 20000 in
theorem gJx4a65c_grow_d5877_Jx4a65c_grow_92f84 : GoodIn wsJx4a65c_grow_d5877 (wsV RJx4a65c 69 RJx4a65c yJx4a65c_grow_92f84 wsJx4a65c_grow_92f84) := goodIn_app (goodIn_of _ (by decide +kernel)) ggJx4a65c_grow_d5877_Jx4a65c_grow_92f84
theorem dJx4a65c_grow_d5877_0 : decode cJx4a65c_grow_d5877 0 = .ok (.aload_n 0, 1) := by decide +kernel
theorem dJx4a65c_grow_d5877_1 : decode cJx4a65c_grow_d5877 1 = .ok (.aload_n 0, 1) := by decide +kernel
theorem dJx4a65c_grow_d5877_2 : decode cJx4a65c_grow_d5877 2 = .ok (.getfield 48, 3) := by decide +kernel
theorem dJx4a65c_grow_d5877_5 : decode cJx4a65c_grow_d5877 5 = .ok (.iconst 1, 1) := by decide +kernel
theorem dJx4a65c_grow_d5877_6 : decode cJx4a65c_grow_d5877 6 = .ok (.iadd, 1) := by decide +kernel
theorem dJx4a65c_grow_d5877_7 : decode cJx4a65c_grow_d5877 7 = .ok (.invokevirtual 69, 3) := by decide +kernel
theorem dJx4a65c_grow_d5877_10 : decode cJx4a65c_grow_d5877 10 = .ok (.areturn, 1) := by decide +kernel
theorem dJx4a65c_size_8abf5_0 : decode cJx4a65c_size_8abf5 0 = .ok (.aload_n 0, 1) := by decide +kernel
theorem dJx4a65c_size_8abf5_1 : decode cJx4a65c_size_8abf5 1 = .ok (.getfield 48, 3) := by decide +kernel
theorem dJx4a65c_size_8abf5_4 : decode cJx4a65c_size_8abf5 4 = .ok (.ireturn, 1) := by decide +kernel
theorem dJx4a65c_isEmpty_aae02_0 : decode cJx4a65c_isEmpty_aae02 0 = .ok (.aload_n 0, 1) := by decide +kernel
theorem dJx4a65c_isEmpty_aae02_1 : decode cJx4a65c_isEmpty_aae02 1 = .ok (.getfield 48, 3) := by decide +kernel
theorem dJx4a65c_isEmpty_aae02_4 : decode cJx4a65c_isEmpty_aae02 4 = .ok (.ifCond .ne 7, 3) := by decide +kernel
theorem dJx4a65c_isEmpty_aae02_7 : decode cJx4a65c_isEmpty_aae02 7 = .ok (.iconst 1, 1) := by decide +kernel
theorem dJx4a65c_isEmpty_aae02_8 : decode cJx4a65c_isEmpty_aae02 8 = .ok (.goto 4, 3) := by decide +kernel
theorem dJx4a65c_isEmpty_aae02_11 : decode cJx4a65c_isEmpty_aae02 11 = .ok (.iconst 0, 1) := by decide +kernel
theorem dJx4a65c_isEmpty_aae02_12 : decode cJx4a65c_isEmpty_aae02 12 = .ok (.ireturn, 1) := by decide +kernel
theorem dJx4a65c_elementData_915e3_0 : decode cJx4a65c_elementData_915e3 0 = .ok (.aload_n 0, 1) := by decide +kernel
theorem dJx4a65c_elementData_915e3_1 : decode cJx4a65c_elementData_915e3 1 = .ok (.getfield 9, 3) := by decide +kernel
theorem dJx4a65c_elementData_915e3_4 : decode cJx4a65c_elementData_915e3 4 = .ok (.iload_n 1, 1) := by decide +kernel
theorem dJx4a65c_elementData_915e3_5 : decode cJx4a65c_elementData_915e3 5 = .ok (.aaload, 1) := by decide +kernel
theorem dJx4a65c_elementData_915e3_6 : decode cJx4a65c_elementData_915e3 6 = .ok (.areturn, 1) := by decide +kernel
set_option maxRecDepth 20000 in
theorem ggJx4a65c_get_915e3_J15_checkIndex_7cf53 : GoodIn wsJx4a65c_get_915e3 wsJ15_checkIndex_7cf53 := goodIn_r _ [5, 6, 7, 8, 9] (by decide +kernel) (by decide +kernel)
set_option maxRecDepth 20000 in
theorem gJx4a65c_get_915e3_J15_checkIndex_7cf53 : GoodIn wsJx4a65c_get_915e3 (va_wsS RJx4a65c 118 yJ15_checkIndex_7cf53 wsJ15_checkIndex_7cf53) := goodIn_app (goodIn_of _ (by decide +kernel)) ggJx4a65c_get_915e3_J15_checkIndex_7cf53
set_option maxRecDepth 20000 in
theorem ggJx4a65c_get_915e3_Jx4a65c_elementData_915e3 : GoodIn wsJx4a65c_get_915e3 wsJx4a65c_elementData_915e3 := goodIn_r _ [14, 15, 16, 17, 18] (by decide +kernel) (by decide +kernel)
set_option maxRecDepth 20000 in
theorem gJx4a65c_get_915e3_Jx4a65c_elementData_915e3 : GoodIn wsJx4a65c_get_915e3 (wsV RJx4a65c 123 RJx4a65c yJx4a65c_elementData_915e3 wsJx4a65c_elementData_915e3) := goodIn_app (goodIn_of _ (by decide +kernel)) ggJx4a65c_get_915e3_Jx4a65c_elementData_915e3
theorem dJx4a65c_get_915e3_0 : decode cJx4a65c_get_915e3 0 = .ok (.iload_n 1, 1) := by decide +kernel
theorem dJx4a65c_get_915e3_1 : decode cJx4a65c_get_915e3 1 = .ok (.aload_n 0, 1) := by decide +kernel
theorem dJx4a65c_get_915e3_2 : decode cJx4a65c_get_915e3 2 = .ok (.getfield 48, 3) := by decide +kernel
theorem dJx4a65c_get_915e3_5 : decode cJx4a65c_get_915e3 5 = .ok (.invokestatic 118, 3) := by decide +kernel
theorem dJx4a65c_get_915e3_8 : decode cJx4a65c_get_915e3 8 = .ok (.pop, 1) := by decide +kernel
theorem dJx4a65c_get_915e3_9 : decode cJx4a65c_get_915e3 9 = .ok (.aload_n 0, 1) := by decide +kernel
theorem dJx4a65c_get_915e3_10 : decode cJx4a65c_get_915e3 10 = .ok (.iload_n 1, 1) := by decide +kernel
theorem dJx4a65c_get_915e3_11 : decode cJx4a65c_get_915e3 11 = .ok (.invokevirtual 123, 3) := by decide +kernel
theorem dJx4a65c_get_915e3_14 : decode cJx4a65c_get_915e3 14 = .ok (.areturn, 1) := by decide +kernel
set_option maxRecDepth 20000 in
theorem ggJx4a65c_add_72be8_Jx4a65c_grow_d5877 : GoodIn wsJx4a65c_add_72be8 wsJx4a65c_grow_d5877 := goodIn_r _ [6, 1, 7, 8, 9, 5, 10, 11, 12, 13, 14, 15, 16, 17, 18, 19, 20, 21, 22, 23, 24, 25, 26, 27, 28, 29, 30, 31, 32, 33, 34, 35, 36, 37, 38, 39, 40, 41, 42, 43, 44, 45, 46, 47, 48, 49] (by decide +kernel) (by decide +kernel)
set_option maxRecDepth 20000 in
theorem gJx4a65c_add_72be8_Jx4a65c_grow_d5877 : GoodIn wsJx4a65c_add_72be8 (wsV RJx4a65c 129 RJx4a65c yJx4a65c_grow_d5877 wsJx4a65c_grow_d5877) := goodIn_app (goodIn_of _ (by decide +kernel)) ggJx4a65c_add_72be8_Jx4a65c_grow_d5877
theorem dJx4a65c_add_72be8_0 : decode cJx4a65c_add_72be8 0 = .ok (.iload_n 3, 1) := by decide +kernel
theorem dJx4a65c_add_72be8_1 : decode cJx4a65c_add_72be8 1 = .ok (.aload_n 2, 1) := by decide +kernel
theorem dJx4a65c_add_72be8_2 : decode cJx4a65c_add_72be8 2 = .ok (.arraylength, 1) := by decide +kernel
theorem dJx4a65c_add_72be8_3 : decode cJx4a65c_add_72be8 3 = .ok (.if_icmp .ne 8, 3) := by decide +kernel
theorem dJx4a65c_add_72be8_6 : decode cJx4a65c_add_72be8 6 = .ok (.aload_n 0, 1) := by decide +kernel
theorem dJx4a65c_add_72be8_7 : decode cJx4a65c_add_72be8 7 = .ok (.invokevirtual 129, 3) := by decide +kernel
theorem dJx4a65c_add_72be8_10 : decode cJx4a65c_add_72be8 10 = .ok (.astore_n 2, 1) := by decide +kernel
theorem dJx4a65c_add_72be8_11 : decode cJx4a65c_add_72be8 11 = .ok (.aload_n 2, 1) := by decide +kernel
theorem dJx4a65c_add_72be8_12 : decode cJx4a65c_add_72be8 12 = .ok (.iload_n 3, 1) := by decide +kernel
theorem dJx4a65c_add_72be8_13 : decode cJx4a65c_add_72be8 13 = .ok (.aload_n 1, 1) := by decide +kernel
theorem dJx4a65c_add_72be8_14 : decode cJx4a65c_add_72be8 14 = .ok (.aastore, 1) := by decide +kernel
theorem dJx4a65c_add_72be8_15 : decode cJx4a65c_add_72be8 15 = .ok (.aload_n 0, 1) := by decide +kernel
theorem dJx4a65c_add_72be8_16 : decode cJx4a65c_add_72be8 16 = .ok (.iload_n 3, 1) := by decide +kernel
theorem dJx4a65c_add_72be8_17 : decode cJx4a65c_add_72be8 17 = .ok (.iconst 1, 1) := by decide +kernel
theorem dJx4a65c_add_72be8_18 : decode cJx4a65c_add_72be8 18 = .ok (.iadd, 1) := by decide +kernel
theorem dJx4a65c_add_72be8_19 : decode cJx4a65c_add_72be8 19 = .ok (.putfield 48, 3) := by decide +kernel
theorem dJx4a65c_add_72be8_22 : decode cJx4a65c_add_72be8 22 = .ok (.return_, 1) := by decide +kernel
set_option maxRecDepth 20000 in
theorem ggJx4a65c_add_9ea2d_Jx4a65c_add_72be8 : GoodIn wsJx4a65c_add_9ea2d wsJx4a65c_add_72be8 := goodIn_r _ [9, 4, 10, 11, 12, 8, 13, 14, 15, 16, 17, 3, 18, 19, 20, 21, 22, 23, 24, 25, 26, 27, 28, 29, 30, 31, 32, 33, 34, 35, 36, 37, 38, 39, 40, 41, 42, 43, 44, 45, 46, 47, 48, 49, 50, 51, 52, 53, 54, 55] (by decide +kernel) (by decide +kernel)
set_option maxRecDepth 20000 in
theorem gJx4a65c_add_9ea2d_Jx4a65c_add_72be8 : GoodIn wsJx4a65c_add_9ea2d (wsV RJx4a65c 131 RJx4a65c yJx4a65c_add_72be8 wsJx4a65c_add_72be8) := goodIn_app (goodIn_of _ (by decide +kernel)) ggJx4a65c_add_9ea2d_Jx4a65c_add_72be8
theorem dJx4a65c_add_9ea2d_0 : decode cJx4a65c_add_9ea2d 0 = .ok (.aload_n 0, 1) := by decide +kernel
theorem dJx4a65c_add_9ea2d_1 : decode cJx4a65c_add_9ea2d 1 = .ok (.dup, 1) := by decide +kernel
theorem dJx4a65c_add_9ea2d_2 : decode cJx4a65c_add_9ea2d 2 = .ok (.getfield 63, 3) := by decide +kernel
theorem dJx4a65c_add_9ea2d_5 : decode cJx4a65c_add_9ea2d 5 = .ok (.iconst 1, 1) := by decide +kernel
theorem dJx4a65c_add_9ea2d_6 : decode cJx4a65c_add_9ea2d 6 = .ok (.iadd, 1) := by decide +kernel
theorem dJx4a65c_add_9ea2d_7 : decode cJx4a65c_add_9ea2d 7 = .ok (.putfield 63, 3) := by decide +kernel
theorem dJx4a65c_add_9ea2d_10 : decode cJx4a65c_add_9ea2d 10 = .ok (.aload_n 0, 1) := by decide +kernel
theorem dJx4a65c_add_9ea2d_11 : decode cJx4a65c_add_9ea2d 11 = .ok (.aload_n 1, 1) := by decide +kernel
theorem dJx4a65c_add_9ea2d_12 : decode cJx4a65c_add_9ea2d 12 = .ok (.aload_n 0, 1) := by decide +kernel
theorem dJx4a65c_add_9ea2d_13 : decode cJx4a65c_add_9ea2d 13 = .ok (.getfield 9, 3) := by decide +kernel
theorem dJx4a65c_add_9ea2d_16 : decode cJx4a65c_add_9ea2d 16 = .ok (.aload_n 0, 1) := by decide +kernel
theorem dJx4a65c_add_9ea2d_17 : decode cJx4a65c_add_9ea2d 17 = .ok (.getfield 48, 3) := by decide +kernel
theorem dJx4a65c_add_9ea2d_20 : decode cJx4a65c_add_9ea2d 20 = .ok (.invokevirtual 131, 3) := by decide +kernel
theorem dJx4a65c_add_9ea2d_23 : decode cJx4a65c_add_9ea2d 23 = .ok (.iconst 1, 1) := by decide +kernel
theorem dJx4a65c_add_9ea2d_24 : decode cJx4a65c_add_9ea2d 24 = .ok (.ireturn, 1) := by decide +kernel
set_option maxRecDepth 20000 in
theorem ggJx4a65c_remove_915e3_J15_checkIndex_7cf53 : GoodIn wsJx4a65c_remove_915e3 wsJ15_checkIndex_7cf53 := goodIn_r _ [6, 7, 8, 9, 10] (by decide +kernel) (by decide +kernel)
set_option maxRecDepth 20000 in
theorem gJx4a65c_remove_915e3_J15_checkIndex_7cf53 : GoodIn wsJx4a65c_remove_915e3 (va_wsS RJx4a65c 118 yJ15_checkIndex_7cf53 wsJ15_checkIndex_7cf53) := goodIn_app (goodIn_of _ (by decide +kernel)) ggJx4a65c_remove_915e3_J15_checkIndex_7cf53
set_option maxRecDepth 20000 in
theorem ggJx4a65c_remove_915e3_Jx4a65c_fastRemove_b59b0 : GoodIn wsJx4a65c_remove_915e3 wsJx4a65c_fastRemove_b59b0 := goodIn_r _ [15, 16, 17, 1, 18, 19, 20, 21, 22, 23, 24] (by decide +kernel) (by decide +kernel)
set_option maxRecDepth 20000 in
theorem gJx4a65c_remove_915e3_Jx4a65c_fastRemove_b59b0 : GoodIn wsJx4a65c_remove_915e3 (wsV RJx4a65c 144 RJx4a65c yJx4a65c_fastRemove_b59b0 wsJx4a65c_fastRemove_b59b0) := goodIn_app (goodIn_of _ (by decide +kernel)) ggJx4a65c_remove_915e3_Jx4a65c_fastRemove_b59b0
theorem dJx4a65c_remove_915e3_0 : decode cJx4a65c_remove_915e3 0 = .ok (.iload_n 1, 1) := by decide +kernel
theorem dJx4a65c_remove_915e3_1 : decode cJx4a65c_remove_915e3 1 = .ok (.aload_n 0, 1) := by decide +kernel
theorem dJx4a65c_remove_915e3_2 : decode cJx4a65c_remove_915e3 2 = .ok (.getfield 48, 3) := by decide +kernel
theorem dJx4a65c_remove_915e3_5 : decode cJx4a65c_remove_915e3 5 = .ok (.invokestatic 118, 3) := by decide +kernel
theorem dJx4a65c_remove_915e3_8 : decode cJx4a65c_remove_915e3 8 = .ok (.pop, 1) := by decide +kernel
theorem dJx4a65c_remove_915e3_9 : decode cJx4a65c_remove_915e3 9 = .ok (.aload_n 0, 1) := by decide +kernel
theorem dJx4a65c_remove_915e3_10 : decode cJx4a65c_remove_915e3 10 = .ok (.getfield 9, 3) := by decide +kernel
theorem dJx4a65c_remove_915e3_13 : decode cJx4a65c_remove_915e3 13 = .ok (.astore_n 2, 1) := by decide +kernel
theorem dJx4a65c_remove_915e3_14 : decode cJx4a65c_remove_915e3 14 = .ok (.aload_n 2, 1) := by decide +kernel
theorem dJx4a65c_remove_915e3_15 : decode cJx4a65c_remove_915e3 15 = .ok (.iload_n 1, 1) := by decide +kernel
theorem dJx4a65c_remove_915e3_16 : decode cJx4a65c_remove_915e3 16 = .ok (.aaload, 1) := by decide +kernel
theorem dJx4a65c_remove_915e3_17 : decode cJx4a65c_remove_915e3 17 = .ok (.astore_n 3, 1) := by decide +kernel
theorem dJx4a65c_remove_915e3_18 : decode cJx4a65c_remove_915e3 18 = .ok (.aload_n 0, 1) := by decide +kernel
theorem dJx4a65c_remove_915e3_19 : decode cJx4a65c_remove_915e3 19 = .ok (.aload_n 2, 1) := by decide +kernel
theorem dJx4a65c_remove_915e3_20 : decode cJx4a65c_remove_915e3 20 = .ok (.iload_n 1, 1) := by decide +kernel
theorem dJx4a65c_remove_915e3_21 : decode cJx4a65c_remove_915e3 21 = .ok (.invokevirtual 144, 3) := by decide +kernel
theorem dJx4a65c_remove_915e3_24 : decode cJx4a65c_remove_915e3 24 = .ok (.aload_n 3, 1) := by decide +kernel
theorem dJx4a65c_remove_915e3_25 : decode cJx4a65c_remove_915e3 25 = .ok (.areturn, 1) := by decide +kernel
theorem dJx4a65c_fastRemove_b59b0_0 : decode cJx4a65c_fastRemove_b59b0 0 = .ok (.aload_n 0, 1) := by decide +kernel
theorem dJx4a65c_fastRemove_b59b0_1 : decode cJx4a65c_fastRemove_b59b0 1 = .ok (.dup, 1) := by decide +kernel
theorem dJx4a65c_fastRemove_b59b0_2 : decode cJx4a65c_fastRemove_b59b0 2 = .ok (.getfield 63, 3) := by decide +kernel
theorem dJx4a65c_fastRemove_b59b0_5 : decode cJx4a65c_fastRemove_b59b0 5 = .ok (.iconst 1, 1) := by decide +kernel
theorem dJx4a65c_fastRemove_b59b0_6 : decode cJx4a65c_fastRemove_b59b0 6 = .ok (.iadd, 1) := by decide +kernel
theorem dJx4a65c_fastRemove_b59b0_7 : decode cJx4a65c_fastRemove_b59b0 7 = .ok (.putfield 63, 3) := by decide +kernel
theorem dJx4a65c_fastRemove_b59b0_10 : decode cJx4a65c_fastRemove_b59b0 10 = .ok (.aload_n 0, 1) := by decide +kernel
theorem dJx4a65c_fastRemove_b59b0_11 : decode cJx4a65c_fastRemove_b59b0 11 = .ok (.getfield 48, 3) := by decide +kernel
theorem dJx4a65c_fastRemove_b59b0_14 : decode cJx4a65c_fastRemove_b59b0 14 = .ok (.iconst 1, 1) := by decide +kernel
theorem dJx4a65c_fastRemove_b59b0_15 : decode cJx4a65c_fastRemove_b59b0 15 = .ok (.isub, 1) := by decide +kernel
theorem dJx4a65c_fastRemove_b59b0_16 : decode cJx4a65c_fastRemove_b59b0 16 = .ok (.dup, 1) := by decide +kernel
theorem dJx4a65c_fastRemove_b59b0_17 : decode cJx4a65c_fastRemove_b59b0 17 = .ok (.istore_n 3, 1) := by decide +kernel
theorem dJx4a65c_fastRemove_b59b0_18 : decode cJx4a65c_fastRemove_b59b0 18 = .ok (.iload_n 2, 1) := by decide +kernel
theorem dJx4a65c_fastRemove_b59b0_19 : decode cJx4a65c_fastRemove_b59b0 19 = .ok (.if_icmp .le 15, 3) := by decide +kernel
theorem dJx4a65c_fastRemove_b59b0_22 : decode cJx4a65c_fastRemove_b59b0 22 = .ok (.aload_n 1, 1) := by decide +kernel
theorem dJx4a65c_fastRemove_b59b0_23 : decode cJx4a65c_fastRemove_b59b0 23 = .ok (.iload_n 2, 1) := by decide +kernel
theorem dJx4a65c_fastRemove_b59b0_24 : decode cJx4a65c_fastRemove_b59b0 24 = .ok (.iconst 1, 1) := by decide +kernel
theorem dJx4a65c_fastRemove_b59b0_25 : decode cJx4a65c_fastRemove_b59b0 25 = .ok (.iadd, 1) := by decide +kernel
theorem dJx4a65c_fastRemove_b59b0_26 : decode cJx4a65c_fastRemove_b59b0 26 = .ok (.aload_n 1, 1) := by decide +kernel
theorem dJx4a65c_fastRemove_b59b0_27 : decode cJx4a65c_fastRemove_b59b0 27 = .ok (.iload_n 2, 1) := by decide +kernel
theorem dJx4a65c_fastRemove_b59b0_28 : decode cJx4a65c_fastRemove_b59b0 28 = .ok (.iload_n 3, 1) := by decide +kernel
theorem dJx4a65c_fastRemove_b59b0_29 : decode cJx4a65c_fastRemove_b59b0 29 = .ok (.iload_n 2, 1) := by decide +kernel
theorem dJx4a65c_fastRemove_b59b0_30 : decode cJx4a65c_fastRemove_b59b0 30 = .ok (.isub, 1) := by decide +kernel
theorem dJx4a65c_fastRemove_b59b0_31 : decode cJx4a65c_fastRemove_b59b0 31 = .ok (.invokestatic 112, 3) := by decide +kernel
theorem dJx4a65c_fastRemove_b59b0_34 : decode cJx4a65c_fastRemove_b59b0 34 = .ok (.aload_n 1, 1) := by decide +kernel
theorem dJx4a65c_fastRemove_b59b0_35 : decode cJx4a65c_fastRemove_b59b0 35 = .ok (.aload_n 0, 1) := by decide +kernel
theorem dJx4a65c_fastRemove_b59b0_36 : decode cJx4a65c_fastRemove_b59b0 36 = .ok (.iload_n 3, 1) := by decide +kernel
theorem dJx4a65c_fastRemove_b59b0_37 : decode cJx4a65c_fastRemove_b59b0 37 = .ok (.dup_x1, 1) := by decide +kernel
theorem dJx4a65c_fastRemove_b59b0_38 : decode cJx4a65c_fastRemove_b59b0 38 = .ok (.putfield 48, 3) := by decide +kernel
theorem dJx4a65c_fastRemove_b59b0_41 : decode cJx4a65c_fastRemove_b59b0 41 = .ok (.aconst_null, 1) := by decide +kernel
theorem dJx4a65c_fastRemove_b59b0_42 : decode cJx4a65c_fastRemove_b59b0 42 = .ok (.aastore, 1) := by decide +kernel
theorem dJx4a65c_fastRemove_b59b0_43 : decode cJx4a65c_fastRemove_b59b0 43 = .ok (.return_, 1) := by decide +kernel
theorem dJ7_fill_53178_0 : decode cJ7_fill_53178 0 = .ok (.iconst 0, 1) := by decide +kernel
theorem dJ7_fill_53178_1 : decode cJ7_fill_53178 1 = .ok (.istore_n 2, 1) := by decide +kernel
theorem dJ7_fill_53178_2 : decode cJ7_fill_53178 2 = .ok (.aload_n 0, 1) := by decide +kernel
theorem dJ7_fill_53178_3 : decode cJ7_fill_53178 3 = .ok (.arraylength, 1) := by decide +kernel
theorem dJ7_fill_53178_4 : decode cJ7_fill_53178 4 = .ok (.istore_n 3, 1) := by decide +kernel
theorem dJ7_fill_53178_5 : decode cJ7_fill_53178 5 = .ok (.iload_n 2, 1) := by decide +kernel
theorem dJ7_fill_53178_6 : decode cJ7_fill_53178 6 = .ok (.iload_n 3, 1) := by decide +kernel
theorem dJ7_fill_53178_7 : decode cJ7_fill_53178 7 = .ok (.if_icmp .ge 13, 3) := by decide +kernel
theorem dJ7_fill_53178_10 : decode cJ7_fill_53178 10 = .ok (.aload_n 0, 1) := by decide +kernel
theorem dJ7_fill_53178_11 : decode cJ7_fill_53178 11 = .ok (.iload_n 2, 1) := by decide +kernel
theorem dJ7_fill_53178_12 : decode cJ7_fill_53178 12 = .ok (.iload_n 1, 1) := by decide +kernel
theorem dJ7_fill_53178_13 : decode cJ7_fill_53178 13 = .ok (.iastore, 1) := by decide +kernel
theorem dJ7_fill_53178_14 : decode cJ7_fill_53178 14 = .ok (.iinc 2 1, 3) := by decide +kernel
theorem dJ7_fill_53178_17 : decode cJ7_fill_53178 17 = .ok (.goto (-12), 3) := by decide +kernel
theorem dJ7_fill_53178_20 : decode cJ7_fill_53178 20 = .ok (.return_, 1) := by decide +kernel
set_option maxRecDepth 20000 in
theorem ggJ7_copyOf_1904c_J7_copyOf_6403c : GoodIn wsJ7_copyOf_1904c wsJ7_copyOf_6403c := goodIn_r _ [8, 9, 10, 11, 12, 13, 14, 15, 16, 17, 18] (by decide +kernel) (by decide +kernel)
set_option maxRecDepth 20000 in
theorem gJ7_copyOf_1904c_J7_copyOf_6403c : GoodIn wsJ7_copyOf_1904c (va_wsS RJ7 300 yJ7_copyOf_6403c wsJ7_copyOf_6403c) := goodIn_app (goodIn_of _ (by decide +kernel)) ggJ7_copyOf_1904c_J7_copyOf_6403c
theorem dJ7_copyOf_1904c_0 : decode cJ7_copyOf_1904c 0 = .ok (.aload_n 0, 1) := by decide +kernel
theorem dJ7_copyOf_1904c_1 : decode cJ7_copyOf_1904c 1 = .ok (.iload_n 1, 1) := by decide +kernel
theorem dJ7_copyOf_1904c_2 : decode cJ7_copyOf_1904c 2 = .ok (.aload_n 0, 1) := by decide +kernel
theorem dJ7_copyOf_1904c_3 : decode cJ7_copyOf_1904c 3 = .ok (.invokevirtual 86, 3) := by decide +kernel
theorem dJ7_copyOf_1904c_6 : decode cJ7_copyOf_1904c 6 = .ok (.invokestatic 300, 3) := by decide +kernel
theorem dJ7_copyOf_1904c_9 : decode cJ7_copyOf_1904c 9 = .ok (.areturn, 1) := by decide +kernel
theorem dJ7_copyOf_6403c_0 : decode cJ7_copyOf_6403c 0 = .ok (.aload_n 2, 1) := by decide +kernel
theorem dJ7_copyOf_6403c_1 : decode cJ7_copyOf_6403c 1 = .ok (.ldc 110, 2) := by decide +kernel
theorem dJ7_copyOf_6403c_3 : decode cJ7_copyOf_6403c 3 = .ok (.if_acmp .ne 10, 3) := by decide +kernel
theorem dJ7_copyOf_6403c_6 : decode cJ7_copyOf_6403c 6 = .ok (.iload_n 1, 1) := by decide +kernel
theorem dJ7_copyOf_6403c_7 : decode cJ7_copyOf_6403c 7 = .ok (.anewarray 2, 3) := by decide +kernel
theorem dJ7_copyOf_6403c_10 : decode cJ7_copyOf_6403c 10 = .ok (.goto 14, 3) := by decide +kernel
theorem dJ7_copyOf_6403c_13 : decode cJ7_copyOf_6403c 13 = .ok (.aload_n 2, 1) := by decide +kernel
theorem dJ7_copyOf_6403c_14 : decode cJ7_copyOf_6403c 14 = .ok (.invokevirtual 90, 3) := by decide +kernel
theorem dJ7_copyOf_6403c_17 : decode cJ7_copyOf_6403c 17 = .ok (.iload_n 1, 1) := by decide +kernel
theorem dJ7_copyOf_6403c_18 : decode cJ7_copyOf_6403c 18 = .ok (.invokestatic 95, 3) := by decide +kernel
theorem dJ7_copyOf_6403c_21 : decode cJ7_copyOf_6403c 21 = .ok (.checkcast 110, 3) := by decide +kernel
theorem dJ7_copyOf_6403c_24 : decode cJ7_copyOf_6403c 24 = .ok (.astore_n 3, 1) := by decide +kernel
theorem dJ7_copyOf_6403c_25 : decode cJ7_copyOf_6403c 25 = .ok (.aload_n 0, 1) := by decide +kernel
theorem dJ7_copyOf_6403c_26 : decode cJ7_copyOf_6403c 26 = .ok (.iconst 0, 1) := by decide +kernel
theorem dJ7_copyOf_6403c_27 : decode cJ7_copyOf_6403c 27 = .ok (.aload_n 3, 1) := by decide +kernel
theorem dJ7_copyOf_6403c_28 : decode cJ7_copyOf_6403c 28 = .ok (.iconst 0, 1) := by decide +kernel
theorem dJ7_copyOf_6403c_29 : decode cJ7_copyOf_6403c 29 = .ok (.aload_n 0, 1) := by decide +kernel
theorem dJ7_copyOf_6403c_30 : decode cJ7_copyOf_6403c 30 = .ok (.arraylength, 1) := by decide +kernel
theorem dJ7_copyOf_6403c_31 : decode cJ7_copyOf_6403c 31 = .ok (.iload_n 1, 1) := by decide +kernel
theorem dJ7_copyOf_6403c_32 : decode cJ7_copyOf_6403c 32 = .ok (.invokestatic 304, 3) := by decide +kernel
theorem dJ7_copyOf_6403c_35 : decode cJ7_copyOf_6403c 35 = .ok (.invokestatic 150, 3) := by decide +kernel
theorem dJ7_copyOf_6403c_38 : decode cJ7_copyOf_6403c 38 = .ok (.aload_n 3, 1) := by decide +kernel
theorem dJ7_copyOf_6403c_39 : decode cJ7_copyOf_6403c 39 = .ok (.areturn, 1) := by decide +kernel
theorem dJ7_copyOf_59c91_0 : decode cJ7_copyOf_59c91 0 = .ok (.iload_n 1, 1) := by decide +kernel
theorem dJ7_copyOf_59c91_1 : decode cJ7_copyOf_59c91 1 = .ok (.aload_n 0, 1) := by decide +kernel
theorem dJ7_copyOf_59c91_2 : decode cJ7_copyOf_59c91 2 = .ok (.arraylength, 1) := by decide +kernel
theorem dJ7_copyOf_59c91_3 : decode cJ7_copyOf_59c91 3 = .ok (.if_icmp .ne 11, 3) := by decide +kernel
theorem dJ7_copyOf_59c91_6 : decode cJ7_copyOf_59c91 6 = .ok (.aload_n 0, 1) := by decide +kernel
theorem dJ7_copyOf_59c91_7 : decode cJ7_copyOf_59c91 7 = .ok (.invokevirtual 316, 3) := by decide +kernel
theorem dJ7_copyOf_59c91_10 : decode cJ7_copyOf_59c91 10 = .ok (.checkcast 317, 3) := by decide +kernel
theorem dJ7_copyOf_59c91_13 : decode cJ7_copyOf_59c91 13 = .ok (.areturn, 1) := by decide +kernel
theorem dJ7_copyOf_59c91_14 : decode cJ7_copyOf_59c91 14 = .ok (.iload_n 1, 1) := by decide +kernel
theorem dJ7_copyOf_59c91_15 : decode cJ7_copyOf_59c91 15 = .ok (.newarray .int, 2) := by decide +kernel
theorem dJ7_copyOf_59c91_17 : decode cJ7_copyOf_59c91 17 = .ok (.astore_n 2, 1) := by decide +kernel
theorem dJ7_copyOf_59c91_18 : decode cJ7_copyOf_59c91 18 = .ok (.aload_n 0, 1) := by decide +kernel
theorem dJ7_copyOf_59c91_19 : decode cJ7_copyOf_59c91 19 = .ok (.iconst 0, 1) := by decide +kernel
theorem dJ7_copyOf_59c91_20 : decode cJ7_copyOf_59c91 20 = .ok (.aload_n 2, 1) := by decide +kernel
theorem dJ7_copyOf_59c91_21 : decode cJ7_copyOf_59c91 21 = .ok (.iconst 0, 1) := by decide +kernel
theorem dJ7_copyOf_59c91_22 : decode cJ7_copyOf_59c91 22 = .ok (.aload_n 0, 1) := by decide +kernel
theorem dJ7_copyOf_59c91_23 : decode cJ7_copyOf_59c91 23 = .ok (.arraylength, 1) := by decide +kernel
theorem dJ7_copyOf_59c91_24 : decode cJ7_copyOf_59c91 24 = .ok (.iload_n 1, 1) := by decide +kernel
theorem dJ7_copyOf_59c91_25 : decode cJ7_copyOf_59c91 25 = .ok (.invokestatic 304, 3) := by decide +kernel
theorem dJ7_copyOf_59c91_28 : decode cJ7_copyOf_59c91 28 = .ok (.invokestatic 150, 3) := by decide +kernel
theorem dJ7_copyOf_59c91_31 : decode cJ7_copyOf_59c91 31 = .ok (.aload_n 2, 1) := by decide +kernel
theorem dJ7_copyOf_59c91_32 : decode cJ7_copyOf_59c91 32 = .ok (.areturn, 1) := by decide +kernel
set_option maxRecDepth 20000 in
theorem ggJ15_checkIndex_7cf53_J3_checkIndex_8e157 : GoodIn wsJ15_checkIndex_7cf53 wsJ3_checkIndex_8e157 := goodIn_r _ [4] (by decide +kernel) (by decide +kernel)
set_option maxRecDepth 20000 in
theorem gJ15_checkIndex_7cf53_J3_checkIndex_8e157 : GoodIn wsJ15_checkIndex_7cf53 (va_wsS RJ15 105 yJ3_checkIndex_8e157 wsJ3_checkIndex_8e157) := goodIn_app (goodIn_of _ (by decide +kernel)) ggJ15_checkIndex_7cf53_J3_checkIndex_8e157
theorem dJ15_checkIndex_7cf53_0 : decode cJ15_checkIndex_7cf53 0 = .ok (.iload_n 0, 1) := by decide +kernel
theorem dJ15_checkIndex_7cf53_1 : decode cJ15_checkIndex_7cf53 1 = .ok (.iload_n 1, 1) := by decide +kernel
theorem dJ15_checkIndex_7cf53_2 : decode cJ15_checkIndex_7cf53 2 = .ok (.aconst_null, 1) := by decide +kernel
theorem dJ15_checkIndex_7cf53_3 : decode cJ15_checkIndex_7cf53 3 = .ok (.invokestatic 105, 3) := by decide +kernel
theorem dJ15_checkIndex_7cf53_6 : decode cJ15_checkIndex_7cf53 6 = .ok (.ireturn, 1) := by decide +kernel
set_option maxRecDepth 20000 in
theorem ggJ8_newLength_cabcc_J8_hugeLength_7cf53 : GoodIn wsJ8_newLength_cabcc wsJ8_hugeLength_7cf53 := goodIn_r _ [9, 5] (by decide +kernel) (by decide +kernel)
set_option maxRecDepth 20000 in
theorem gJ8_newLength_cabcc_J8_hugeLength_7cf53 : GoodIn wsJ8_newLength_cabcc (va_wsS RJ8 201 yJ8_hugeLength_7cf53 wsJ8_hugeLength_7cf53) := goodIn_app (goodIn_of _ (by decide +kernel)) ggJ8_newLength_cabcc_J8_hugeLength_7cf53
theorem dJ8_newLength_cabcc_0 : decode cJ8_newLength_cabcc 0 = .ok (.iload_n 0, 1) := by decide +kernel
theorem dJ8_newLength_cabcc_1 : decode cJ8_newLength_cabcc 1 = .ok (.iload_n 1, 1) := by decide +kernel
theorem dJ8_newLength_cabcc_2 : decode cJ8_newLength_cabcc 2 = .ok (.iload_n 2, 1) := by decide +kernel
theorem dJ8_newLength_cabcc_3 : decode cJ8_newLength_cabcc 3 = .ok (.invokestatic 194, 3) := by decide +kernel
theorem dJ8_newLength_cabcc_6 : decode cJ8_newLength_cabcc 6 = .ok (.iadd, 1) := by decide +kernel
theorem dJ8_newLength_cabcc_7 : decode cJ8_newLength_cabcc 7 = .ok (.istore_n 3, 1) := by decide +kernel
theorem dJ8_newLength_cabcc_8 : decode cJ8_newLength_cabcc 8 = .ok (.iconst 0, 1) := by decide +kernel
theorem dJ8_newLength_cabcc_9 : decode cJ8_newLength_cabcc 9 = .ok (.iload_n 3, 1) := by decide +kernel
theorem dJ8_newLength_cabcc_10 : decode cJ8_newLength_cabcc 10 = .ok (.if_icmp .ge 11, 3) := by decide +kernel
theorem dJ8_newLength_cabcc_13 : decode cJ8_newLength_cabcc 13 = .ok (.iload_n 3, 1) := by decide +kernel
theorem dJ8_newLength_cabcc_14 : decode cJ8_newLength_cabcc 14 = .ok (.ldc 200, 2) := by decide +kernel
theorem dJ8_newLength_cabcc_16 : decode cJ8_newLength_cabcc 16 = .ok (.if_icmp .gt 5, 3) := by decide +kernel
theorem dJ8_newLength_cabcc_19 : decode cJ8_newLength_cabcc 19 = .ok (.iload_n 3, 1) := by decide +kernel
theorem dJ8_newLength_cabcc_20 : decode cJ8_newLength_cabcc 20 = .ok (.ireturn, 1) := by decide +kernel
theorem dJ8_newLength_cabcc_21 : decode cJ8_newLength_cabcc 21 = .ok (.iload_n 0, 1) := by decide +kernel
theorem dJ8_newLength_cabcc_22 : decode cJ8_newLength_cabcc 22 = .ok (.iload_n 1, 1) := by decide +kernel
theorem dJ8_newLength_cabcc_23 : decode cJ8_newLength_cabcc 23 = .ok (.invokestatic 201, 3) := by decide +kernel
theorem dJ8_newLength_cabcc_26 : decode cJ8_newLength_cabcc 26 = .ok (.ireturn, 1) := by decide +kernel
theorem dJ8_hugeLength_7cf53_0 : decode cJ8_hugeLength_7cf53 0 = .ok (.iload_n 0, 1) := by decide +kernel
theorem dJ8_hugeLength_7cf53_1 : decode cJ8_hugeLength_7cf53 1 = .ok (.iload_n 1, 1) := by decide +kernel
theorem dJ8_hugeLength_7cf53_2 : decode cJ8_hugeLength_7cf53 2 = .ok (.iadd, 1) := by decide +kernel
theorem dJ8_hugeLength_7cf53_3 : decode cJ8_hugeLength_7cf53 3 = .ok (.istore_n 2, 1) := by decide +kernel
theorem dJ8_hugeLength_7cf53_4 : decode cJ8_hugeLength_7cf53 4 = .ok (.iload_n 2, 1) := by decide +kernel
theorem dJ8_hugeLength_7cf53_5 : decode cJ8_hugeLength_7cf53 5 = .ok (.ifCond .ge 44, 3) := by decide +kernel
theorem dJ8_hugeLength_7cf53_8 : decode cJ8_hugeLength_7cf53 8 = .ok (.new 204, 3) := by decide +kernel
theorem dJ8_hugeLength_7cf53_11 : decode cJ8_hugeLength_7cf53 11 = .ok (.dup, 1) := by decide +kernel
theorem dJ8_hugeLength_7cf53_12 : decode cJ8_hugeLength_7cf53 12 = .ok (.new 89, 3) := by decide +kernel
theorem dJ8_hugeLength_7cf53_15 : decode cJ8_hugeLength_7cf53 15 = .ok (.dup, 1) := by decide +kernel
theorem dJ8_hugeLength_7cf53_16 : decode cJ8_hugeLength_7cf53 16 = .ok (.invokespecial 91, 3) := by decide +kernel
theorem dJ8_hugeLength_7cf53_19 : decode cJ8_hugeLength_7cf53 19 = .ok (.ldc 206, 2) := by decide +kernel
theorem dJ8_hugeLength_7cf53_21 : decode cJ8_hugeLength_7cf53 21 = .ok (.invokevirtual 94, 3) := by decide +kernel
theorem dJ8_hugeLength_7cf53_24 : decode cJ8_hugeLength_7cf53 24 = .ok (.iload_n 0, 1) := by decide +kernel
theorem dJ8_hugeLength_7cf53_25 : decode cJ8_hugeLength_7cf53 25 = .ok (.invokevirtual 98, 3) := by decide +kernel
theorem dJ8_hugeLength_7cf53_28 : decode cJ8_hugeLength_7cf53 28 = .ok (.ldc 208, 2) := by decide +kernel
theorem dJ8_hugeLength_7cf53_30 : decode cJ8_hugeLength_7cf53 30 = .ok (.invokevirtual 94, 3) := by decide +kernel
theorem dJ8_hugeLength_7cf53_33 : decode cJ8_hugeLength_7cf53 33 = .ok (.iload_n 1, 1) := by decide +kernel
theorem dJ8_hugeLength_7cf53_34 : decode cJ8_hugeLength_7cf53 34 = .ok (.invokevirtual 98, 3) := by decide +kernel
theorem dJ8_hugeLength_7cf53_37 : decode cJ8_hugeLength_7cf53 37 = .ok (.ldc 210, 2) := by decide +kernel
theorem dJ8_hugeLength_7cf53_39 : decode cJ8_hugeLength_7cf53 39 = .ok (.invokevirtual 94, 3) := by decide +kernel
theorem dJ8_hugeLength_7cf53_42 : decode cJ8_hugeLength_7cf53 42 = .ok (.invokevirtual 101, 3) := by decide +kernel
theorem dJ8_hugeLength_7cf53_45 : decode cJ8_hugeLength_7cf53 45 = .ok (.invokespecial 212, 3) := by decide +kernel
theorem dJ8_hugeLength_7cf53_48 : decode cJ8_hugeLength_7cf53 48 = .ok (.athrow, 1) := by decide +kernel
theorem dJ8_hugeLength_7cf53_49 : decode cJ8_hugeLength_7cf53 49 = .ok (.iload_n 2, 1) := by decide +kernel
theorem dJ8_hugeLength_7cf53_50 : decode cJ8_hugeLength_7cf53 50 = .ok (.ldc 200, 2) := by decide +kernel
theorem dJ8_hugeLength_7cf53_52 : decode cJ8_hugeLength_7cf53 52 = .ok (.if_icmp .gt 6, 3) := by decide +kernel
theorem dJ8_hugeLength_7cf53_55 : decode cJ8_hugeLength_7cf53 55 = .ok (.ldc 200, 2) := by decide +kernel
theorem dJ8_hugeLength_7cf53_57 : decode cJ8_hugeLength_7cf53 57 = .ok (.ireturn, 1) := by decide +kernel
theorem dJ8_hugeLength_7cf53_58 : decode cJ8_hugeLength_7cf53 58 = .ok (.iload_n 2, 1) := by decide +kernel
theorem dJ8_hugeLength_7cf53_59 : decode cJ8_hugeLength_7cf53 59 = .ok (.ireturn, 1) := by decide +kernel
theorem dJ3_checkIndex_8e157_0 : decode cJ3_checkIndex_8e157 0 = .ok (.iload_n 0, 1) := by decide +kernel
theorem dJ3_checkIndex_8e157_1 : decode cJ3_checkIndex_8e157 1 = .ok (.ifCond .lt 8, 3) := by decide +kernel
theorem dJ3_checkIndex_8e157_4 : decode cJ3_checkIndex_8e157 4 = .ok (.iload_n 0, 1) := by decide +kernel
theorem dJ3_checkIndex_8e157_5 : decode cJ3_checkIndex_8e157 5 = .ok (.iload_n 1, 1) := by decide +kernel
theorem dJ3_checkIndex_8e157_6 : decode cJ3_checkIndex_8e157 6 = .ok (.if_icmp .lt 10, 3) := by decide +kernel
theorem dJ3_checkIndex_8e157_9 : decode cJ3_checkIndex_8e157 9 = .ok (.aload_n 2, 1) := by decide +kernel
theorem dJ3_checkIndex_8e157_10 : decode cJ3_checkIndex_8e157 10 = .ok (.iload_n 0, 1) := by decide +kernel
theorem dJ3_checkIndex_8e157_11 : decode cJ3_checkIndex_8e157 11 = .ok (.iload_n 1, 1) := by decide +kernel
theorem dJ3_checkIndex_8e157_12 : decode cJ3_checkIndex_8e157 12 = .ok (.invokestatic 95, 3) := by decide +kernel
theorem dJ3_checkIndex_8e157_15 : decode cJ3_checkIndex_8e157 15 = .ok (.athrow, 1) := by decide +kernel
theorem dJ3_checkIndex_8e157_16 : decode cJ3_checkIndex_8e157 16 = .ok (.iload_n 0, 1) := by decide +kernel
theorem dJ3_checkIndex_8e157_17 : decode cJ3_checkIndex_8e157 17 = .ok (.ireturn, 1) := by decide +kernel
set_option maxRecDepth 20000 in
theorem ggL_draft_X5_draft : GoodIn wsL_draft wsX5_draft := goodIn_ca (goodIn_ca (goodIn_r _ [7, 8, 9, 10, 11, 6, 12, 13, 14, 15, 16, 17, 18, 19, 20, 21, 22, 23, 24, 25, 26, 27, 28, 29, 30, 31, 32, 33, 34, 35, 36, 37, 38, 39, 40, 41, 42, 43, 44, 45, 46, 47, 48, 49, 50, 51, 52, 53, 54, 55, 56, 57, 58, 59] (by decide +kernel) (by decide +kernel)) (goodIn_sub (fun _ h => List.mem_cons_of_mem _ (List.mem_append_left _ (List.mem_append_right _ h))) (by decide +kernel))) (goodIn_sub (fun _ h => List.mem_cons_of_mem _ (List.mem_append_right _ h)) (by decide +kernel))
set_option maxRecDepth 20000 in
theorem gL_draft_X5_draft : GoodIn wsL_draft (wsV RL 7 RX5 yX5_draft wsX5_draft) := goodIn_app (goodIn_of _ (by decide +kernel)) ggL_draft_X5_draft
theorem dL_draft_0 : decode cL_draft 0 = .ok (.aload 5, 2) := by decide +kernel
theorem dL_draft_2 : decode cL_draft 2 = .ok (.iconst 0, 1) := by decide +kernel
theorem dL_draft_3 : decode cL_draft 3 = .ok (.aload_n 0, 1) := by decide +kernel
theorem dL_draft_4 : decode cL_draft 4 = .ok (.iload_n 1, 1) := by decide +kernel
theorem dL_draft_5 : decode cL_draft 5 = .ok (.iload_n 2, 1) := by decide +kernel
theorem dL_draft_6 : decode cL_draft 6 = .ok (.iload_n 3, 1) := by decide +kernel
theorem dL_draft_7 : decode cL_draft 7 = .ok (.iload 4, 2) := by decide +kernel
theorem dL_draft_9 : decode cL_draft 9 = .ok (.invokevirtual 7, 3) := by decide +kernel
theorem dL_draft_12 : decode cL_draft 12 = .ok (.i2l, 1) := by decide +kernel
theorem dL_draft_13 : decode cL_draft 13 = .ok (.lastore, 1) := by decide +kernel
theorem dL_draft_14 : decode cL_draft 14 = .ok (.goto 11, 3) := by decide +kernel
theorem dL_draft_17 : decode cL_draft 17 = .ok (.astore 6, 2) := by decide +kernel
theorem dL_draft_19 : decode cL_draft 19 = .ok (.iconst 1, 1) := by decide +kernel
theorem dL_draft_20 : decode cL_draft 20 = .ok (.ireturn, 1) := by decide +kernel
theorem dL_draft_21 : decode cL_draft 21 = .ok (.astore 6, 2) := by decide +kernel
theorem dL_draft_23 : decode cL_draft 23 = .ok (.iconst 2, 1) := by decide +kernel
theorem dL_draft_24 : decode cL_draft 24 = .ok (.ireturn, 1) := by decide +kernel
theorem dL_draft_25 : decode cL_draft 25 = .ok (.iconst 0, 1) := by decide +kernel
theorem dL_draft_26 : decode cL_draft 26 = .ok (.ireturn, 1) := by decide +kernel
set_option maxRecDepth 20000 in
theorem ggL_setOptions_X5_setOptions : GoodIn wsL_setOptions wsX5_setOptions := goodIn_ca (goodIn_ca (goodIn_r _ [7, 8, 9, 10, 11, 12, 13, 6, 14, 15, 16, 17, 18, 19, 20, 21, 22, 23, 24, 25, 26, 27, 28, 29, 30, 31, 32, 33] (by decide +kernel) (by decide +kernel)) (goodIn_sub (fun _ h => List.mem_cons_of_mem _ (List.mem_append_left _ (List.mem_append_right _ h))) (by decide +kernel))) (goodIn_sub (fun _ h => List.mem_cons_of_mem _ (List.mem_append_right _ h)) (by decide +kernel))
set_option maxRecDepth 20000 in
theorem gL_setOptions_X5_setOptions : GoodIn wsL_setOptions (wsV RL 17 RX5 yX5_setOptions wsX5_setOptions) := goodIn_app (goodIn_of _ (by decide +kernel)) ggL_setOptions_X5_setOptions
theorem dL_setOptions_0 : decode cL_setOptions 0 = .ok (.aload_n 0, 1) := by decide +kernel
theorem dL_setOptions_1 : decode cL_setOptions 1 = .ok (.iload_n 1, 1) := by decide +kernel
theorem dL_setOptions_2 : decode cL_setOptions 2 = .ok (.iload_n 2, 1) := by decide +kernel
theorem dL_setOptions_3 : decode cL_setOptions 3 = .ok (.iload_n 3, 1) := by decide +kernel
theorem dL_setOptions_4 : decode cL_setOptions 4 = .ok (.iload 4, 2) := by decide +kernel
theorem dL_setOptions_6 : decode cL_setOptions 6 = .ok (.invokevirtual 17, 3) := by decide +kernel
theorem dL_setOptions_9 : decode cL_setOptions 9 = .ok (.goto 11, 3) := by decide +kernel
theorem dL_setOptions_12 : decode cL_setOptions 12 = .ok (.astore 5, 2) := by decide +kernel
theorem dL_setOptions_14 : decode cL_setOptions 14 = .ok (.iconst 1, 1) := by decide +kernel
theorem dL_setOptions_15 : decode cL_setOptions 15 = .ok (.ireturn, 1) := by decide +kernel
theorem dL_setOptions_16 : decode cL_setOptions 16 = .ok (.astore 5, 2) := by decide +kernel
theorem dL_setOptions_18 : decode cL_setOptions 18 = .ok (.iconst 2, 1) := by decide +kernel
theorem dL_setOptions_19 : decode cL_setOptions 19 = .ok (.ireturn, 1) := by decide +kernel
theorem dL_setOptions_20 : decode cL_setOptions 20 = .ok (.iconst 0, 1) := by decide +kernel
theorem dL_setOptions_21 : decode cL_setOptions 21 = .ok (.ireturn, 1) := by decide +kernel
set_option maxRecDepth 20000 in
theorem ggL_setRate_X5_setRate : GoodIn wsL_setRate wsX5_setRate := goodIn_ca (goodIn_ca (goodIn_r _ [7, 8, 9, 10, 11, 12, 6, 13, 14, 15, 16, 17, 18, 19, 20, 21, 22, 23, 24, 25, 26, 27, 28, 29, 30, 31, 32] (by decide +kernel) (by decide +kernel)) (goodIn_sub (fun _ h => List.mem_cons_of_mem _ (List.mem_append_left _ (List.mem_append_right _ h))) (by decide +kernel))) (goodIn_sub (fun _ h => List.mem_cons_of_mem _ (List.mem_append_right _ h)) (by decide +kernel))
set_option maxRecDepth 20000 in
theorem gL_setRate_X5_setRate : GoodIn wsL_setRate (wsV RL 21 RX5 yX5_setRate wsX5_setRate) := goodIn_app (goodIn_of _ (by decide +kernel)) ggL_setRate_X5_setRate
theorem dL_setRate_0 : decode cL_setRate 0 = .ok (.aload 4, 2) := by decide +kernel
theorem dL_setRate_2 : decode cL_setRate 2 = .ok (.iconst 0, 1) := by decide +kernel
theorem dL_setRate_3 : decode cL_setRate 3 = .ok (.aload_n 0, 1) := by decide +kernel
theorem dL_setRate_4 : decode cL_setRate 4 = .ok (.iload_n 1, 1) := by decide +kernel
theorem dL_setRate_5 : decode cL_setRate 5 = .ok (.iload_n 2, 1) := by decide +kernel
theorem dL_setRate_6 : decode cL_setRate 6 = .ok (.iload_n 3, 1) := by decide +kernel
theorem dL_setRate_7 : decode cL_setRate 7 = .ok (.invokevirtual 21, 3) := by decide +kernel
theorem dL_setRate_10 : decode cL_setRate 10 = .ok (.i2l, 1) := by decide +kernel
theorem dL_setRate_11 : decode cL_setRate 11 = .ok (.lastore, 1) := by decide +kernel
theorem dL_setRate_12 : decode cL_setRate 12 = .ok (.goto 11, 3) := by decide +kernel
theorem dL_setRate_15 : decode cL_setRate 15 = .ok (.astore 5, 2) := by decide +kernel
theorem dL_setRate_17 : decode cL_setRate 17 = .ok (.iconst 1, 1) := by decide +kernel
theorem dL_setRate_18 : decode cL_setRate 18 = .ok (.ireturn, 1) := by decide +kernel
theorem dL_setRate_19 : decode cL_setRate 19 = .ok (.astore 5, 2) := by decide +kernel
theorem dL_setRate_21 : decode cL_setRate 21 = .ok (.iconst 2, 1) := by decide +kernel
theorem dL_setRate_22 : decode cL_setRate 22 = .ok (.ireturn, 1) := by decide +kernel
theorem dL_setRate_23 : decode cL_setRate 23 = .ok (.iconst 0, 1) := by decide +kernel
theorem dL_setRate_24 : decode cL_setRate 24 = .ok (.ireturn, 1) := by decide +kernel
set_option maxRecDepth 20000 in
theorem ggL_submit_X5_submit : GoodIn wsL_submit wsX5_submit := goodIn_ca (goodIn_ca (goodIn_ca (goodIn_r _ [8, 9, 10, 11, 12, 13, 14, 15, 16, 17, 18, 19, 20, 7, 21, 22, 23, 24, 25, 26, 27, 28, 29, 30, 31, 32, 33, 34, 35, 36, 37, 38, 39, 40, 41, 42, 43, 44, 45, 46, 47, 48, 49, 50, 51, 52, 53, 54, 55, 56, 57, 58, 59, 60, 61, 62, 63, 64, 65, 66, 67, 68, 69, 70, 71, 72, 73, 74, 75, 76, 77, 78, 79, 80, 81, 82, 83, 84, 85, 86, 87, 88, 89, 90, 91, 92, 93, 94, 95, 96, 97, 98, 99, 100, 101, 102, 103, 104, 105, 106, 107, 108, 109, 110, 111, 112, 113, 114, 115, 116, 117, 118, 119, 120, 121, 122, 123, 124, 125, 126, 127, 128, 129, 130, 131, 132, 133, 134, 135, 136, 137, 138, 139, 140, 141, 142, 143, 144, 145, 146, 147, 148, 149, 150, 151, 152, 153, 154, 155, 156, 157, 158, 159, 160, 161, 162, 163, 164, 165, 166, 167, 168, 169, 170, 171, 172, 173, 174, 175, 176, 177, 178, 179, 180, 181, 182, 183, 184, 185, 186, 187, 188, 189, 190, 191, 192, 193, 194, 195, 196, 197, 198, 199, 200, 201, 202, 203, 204, 205, 206, 207, 208, 209, 210, 211, 212, 213, 214, 215, 216, 217, 218, 219, 220, 221, 222, 223, 224, 225, 226, 227, 228, 229, 230, 231, 232, 233, 234, 235, 236, 237, 238] (by decide +kernel) (by decide +kernel)) (goodIn_sub (fun _ h => List.mem_cons_of_mem _ (List.mem_append_left _ (List.mem_append_left _ (List.mem_append_right _ h)))) (by decide +kernel))) (goodIn_sub (fun _ h => List.mem_cons_of_mem _ (List.mem_append_left _ (List.mem_append_right _ h))) (by decide +kernel))) (goodIn_sub (fun _ h => List.mem_cons_of_mem _ (List.mem_append_right _ h)) (by decide +kernel))
set_option maxRecDepth 20000 in
theorem gL_submit_X5_submit : GoodIn wsL_submit (wsV RL 25 RX5 yX5_submit wsX5_submit) := goodIn_app (goodIn_of _ (by decide +kernel)) ggL_submit_X5_submit
theorem dL_submit_0 : decode cL_submit 0 = .ok (.aload 5, 2) := by decide +kernel
theorem dL_submit_2 : decode cL_submit 2 = .ok (.iconst 0, 1) := by decide +kernel
theorem dL_submit_3 : decode cL_submit 3 = .ok (.aload_n 0, 1) := by decide +kernel
theorem dL_submit_4 : decode cL_submit 4 = .ok (.iload_n 1, 1) := by decide +kernel
theorem dL_submit_5 : decode cL_submit 5 = .ok (.iload_n 2, 1) := by decide +kernel
theorem dL_submit_6 : decode cL_submit 6 = .ok (.iload_n 3, 1) := by decide +kernel
theorem dL_submit_7 : decode cL_submit 7 = .ok (.iload 4, 2) := by decide +kernel
theorem dL_submit_9 : decode cL_submit 9 = .ok (.invokevirtual 25, 3) := by decide +kernel
theorem dL_submit_12 : decode cL_submit 12 = .ok (.i2l, 1) := by decide +kernel
theorem dL_submit_13 : decode cL_submit 13 = .ok (.lastore, 1) := by decide +kernel
theorem dL_submit_14 : decode cL_submit 14 = .ok (.goto 15, 3) := by decide +kernel
theorem dL_submit_17 : decode cL_submit 17 = .ok (.astore 6, 2) := by decide +kernel
theorem dL_submit_19 : decode cL_submit 19 = .ok (.iconst 1, 1) := by decide +kernel
theorem dL_submit_20 : decode cL_submit 20 = .ok (.ireturn, 1) := by decide +kernel
theorem dL_submit_21 : decode cL_submit 21 = .ok (.astore 6, 2) := by decide +kernel
theorem dL_submit_23 : decode cL_submit 23 = .ok (.iconst 2, 1) := by decide +kernel
theorem dL_submit_24 : decode cL_submit 24 = .ok (.ireturn, 1) := by decide +kernel
theorem dL_submit_25 : decode cL_submit 25 = .ok (.astore 6, 2) := by decide +kernel
theorem dL_submit_27 : decode cL_submit 27 = .ok (.iconst 3, 1) := by decide +kernel
theorem dL_submit_28 : decode cL_submit 28 = .ok (.ireturn, 1) := by decide +kernel
theorem dL_submit_29 : decode cL_submit 29 = .ok (.iconst 0, 1) := by decide +kernel
theorem dL_submit_30 : decode cL_submit 30 = .ok (.ireturn, 1) := by decide +kernel
set_option maxRecDepth 20000 in
theorem ggL_delete_X5_delete : GoodIn wsL_delete wsX5_delete := goodIn_ca (goodIn_ca (goodIn_r _ [7, 8, 9, 10, 11, 6, 12, 13, 14, 15, 16, 17, 18, 19, 20, 21, 22, 23, 24, 25, 26, 27, 28, 29, 30, 31, 32, 33, 34, 35, 36, 37, 38, 39, 40, 41, 42, 43, 44, 45, 46, 47, 48, 49, 50, 51, 52, 53, 54, 55, 56, 57, 58, 59, 60, 61, 62, 63, 64, 65, 66, 67, 68, 69, 70, 71, 72, 73, 74, 75, 76, 77, 78, 79, 80, 81, 82, 83, 84, 85, 86, 87, 88, 89, 90, 91, 92, 93, 94, 95, 96, 97, 98, 99, 100, 101, 102, 103, 104, 105, 106, 107, 108, 109, 110, 111, 112, 113, 114, 115, 116, 117, 118, 119, 120, 121, 122, 123, 124, 125, 126, 127, 128, 129, 130, 131, 132, 133, 134, 135, 136, 137, 138, 139, 140, 141, 142, 143, 144, 145, 146, 147, 148, 149, 150, 151, 152, 153, 154, 155, 156, 157, 158, 159, 160, 161, 162, 163, 164, 165, 166, 167, 168, 169, 170, 171] (by decide +kernel) (by decide +kernel)) (goodIn_sub (fun _ h => List.mem_cons_of_mem _ (List.mem_append_left _ (List.mem_append_right _ h))) (by decide +kernel))) (goodIn_sub (fun _ h => List.mem_cons_of_mem _ (List.mem_append_right _ h)) (by decide +kernel))
set_option maxRecDepth 20000 in
theorem gL_delete_X5_delete : GoodIn wsL_delete (wsV RL 31 RX5 yX5_delete wsX5_delete) := goodIn_app (goodIn_of _ (by decide +kernel)) ggL_delete_X5_delete
theorem dL_delete_0 : decode cL_delete 0 = .ok (.aload_n 2, 1) := by decide +kernel
theorem dL_delete_1 : decode cL_delete 1 = .ok (.iconst 0, 1) := by decide +kernel
theorem dL_delete_2 : decode cL_delete 2 = .ok (.aload_n 0, 1) := by decide +kernel
theorem dL_delete_3 : decode cL_delete 3 = .ok (.iload_n 1, 1) := by decide +kernel
theorem dL_delete_4 : decode cL_delete 4 = .ok (.invokevirtual 31, 3) := by decide +kernel
theorem dL_delete_7 : decode cL_delete 7 = .ok (.i2l, 1) := by decide +kernel
theorem dL_delete_8 : decode cL_delete 8 = .ok (.lastore, 1) := by decide +kernel
theorem dL_delete_9 : decode cL_delete 9 = .ok (.goto 9, 3) := by decide +kernel
theorem dL_delete_12 : decode cL_delete 12 = .ok (.astore_n 3, 1) := by decide +kernel
theorem dL_delete_13 : decode cL_delete 13 = .ok (.iconst 1, 1) := by decide +kernel
theorem dL_delete_14 : decode cL_delete 14 = .ok (.ireturn, 1) := by decide +kernel
theorem dL_delete_15 : decode cL_delete 15 = .ok (.astore_n 3, 1) := by decide +kernel
theorem dL_delete_16 : decode cL_delete 16 = .ok (.iconst 2, 1) := by decide +kernel
theorem dL_delete_17 : decode cL_delete 17 = .ok (.ireturn, 1) := by decide +kernel
theorem dL_delete_18 : decode cL_delete 18 = .ok (.iconst 0, 1) := by decide +kernel
theorem dL_delete_19 : decode cL_delete 19 = .ok (.ireturn, 1) := by decide +kernel
set_option maxRecDepth 20000 in
theorem ggL_state_X5_state : GoodIn wsL_state wsX5_state := goodIn_ca (goodIn_r _ [6, 7, 8, 9, 10, 5, 11, 12, 13, 14, 15, 16, 17, 18, 19, 20, 21, 22, 23, 24, 25, 26, 27, 28, 29, 30, 31, 32, 33, 34, 35, 36, 37, 38, 39, 40, 41, 42, 43, 44, 45, 46, 47, 48, 49, 50, 51, 52, 53, 54, 55, 56, 57, 58, 59, 60, 61] (by decide +kernel) (by decide +kernel)) (goodIn_sub (fun _ h => List.mem_cons_of_mem _ (List.mem_append_right _ h)) (by decide +kernel))
set_option maxRecDepth 20000 in
theorem gL_state_X5_state : GoodIn wsL_state (wsV RL 35 RX5 yX5_state wsX5_state) := goodIn_app (goodIn_of _ (by decide +kernel)) ggL_state_X5_state
theorem dL_state_0 : decode cL_state 0 = .ok (.aload_n 2, 1) := by decide +kernel
theorem dL_state_1 : decode cL_state 1 = .ok (.iconst 0, 1) := by decide +kernel
theorem dL_state_2 : decode cL_state 2 = .ok (.aload_n 0, 1) := by decide +kernel
theorem dL_state_3 : decode cL_state 3 = .ok (.iload_n 1, 1) := by decide +kernel
theorem dL_state_4 : decode cL_state 4 = .ok (.invokevirtual 35, 3) := by decide +kernel
theorem dL_state_7 : decode cL_state 7 = .ok (.i2l, 1) := by decide +kernel
theorem dL_state_8 : decode cL_state 8 = .ok (.lastore, 1) := by decide +kernel
theorem dL_state_9 : decode cL_state 9 = .ok (.goto 6, 3) := by decide +kernel
theorem dL_state_12 : decode cL_state 12 = .ok (.astore_n 3, 1) := by decide +kernel
theorem dL_state_13 : decode cL_state 13 = .ok (.iconst 1, 1) := by decide +kernel
theorem dL_state_14 : decode cL_state 14 = .ok (.ireturn, 1) := by decide +kernel
theorem dL_state_15 : decode cL_state 15 = .ok (.iconst 0, 1) := by decide +kernel
theorem dL_state_16 : decode cL_state 16 = .ok (.ireturn, 1) := by decide +kernel
set_option maxRecDepth 20000 in
theorem ggL_stateByLog_X5_stateByLog : GoodIn wsL_stateByLog wsX5_stateByLog := goodIn_ca (goodIn_r _ [6, 7, 8, 9, 10, 11, 5, 12, 13, 14, 15, 16, 17, 18, 19, 20, 21, 22, 23, 24, 25, 26, 27, 28, 29, 30, 31, 32, 33, 34, 35, 36, 37, 38, 39, 40, 41, 42, 43, 44, 45, 46, 47, 48, 49, 50, 51, 52, 53, 54, 55, 56, 57, 58, 59, 60, 61, 62, 63, 64, 65, 66, 67, 68, 69, 70, 71] (by decide +kernel) (by decide +kernel)) (goodIn_sub (fun _ h => List.mem_cons_of_mem _ (List.mem_append_right _ h)) (by decide +kernel))
set_option maxRecDepth 20000 in
theorem gL_stateByLog_X5_stateByLog : GoodIn wsL_stateByLog (wsV RL 38 RX5 yX5_stateByLog wsX5_stateByLog) := goodIn_app (goodIn_of _ (by decide +kernel)) ggL_stateByLog_X5_stateByLog
theorem dL_stateByLog_0 : decode cL_stateByLog 0 = .ok (.aload_n 2, 1) := by decide +kernel
theorem dL_stateByLog_1 : decode cL_stateByLog 1 = .ok (.iconst 0, 1) := by decide +kernel
theorem dL_stateByLog_2 : decode cL_stateByLog 2 = .ok (.aload_n 0, 1) := by decide +kernel
theorem dL_stateByLog_3 : decode cL_stateByLog 3 = .ok (.iload_n 1, 1) := by decide +kernel
theorem dL_stateByLog_4 : decode cL_stateByLog 4 = .ok (.invokevirtual 38, 3) := by decide +kernel
theorem dL_stateByLog_7 : decode cL_stateByLog 7 = .ok (.i2l, 1) := by decide +kernel
theorem dL_stateByLog_8 : decode cL_stateByLog 8 = .ok (.lastore, 1) := by decide +kernel
theorem dL_stateByLog_9 : decode cL_stateByLog 9 = .ok (.goto 6, 3) := by decide +kernel
theorem dL_stateByLog_12 : decode cL_stateByLog 12 = .ok (.astore_n 3, 1) := by decide +kernel
theorem dL_stateByLog_13 : decode cL_stateByLog 13 = .ok (.iconst 1, 1) := by decide +kernel
theorem dL_stateByLog_14 : decode cL_stateByLog 14 = .ok (.ireturn, 1) := by decide +kernel
theorem dL_stateByLog_15 : decode cL_stateByLog 15 = .ok (.iconst 0, 1) := by decide +kernel
theorem dL_stateByLog_16 : decode cL_stateByLog 16 = .ok (.ireturn, 1) := by decide +kernel
set_option maxRecDepth 20000 in
theorem ggL_parts_X5_parts : GoodIn wsL_parts wsX5_parts := goodIn_ca (goodIn_r _ [6, 7, 8, 9, 10, 5, 11, 12, 13, 14, 15, 16, 17, 18, 19, 20, 21, 22, 23, 24, 25, 26, 27, 28, 29, 30, 31, 32, 33, 34, 35, 36, 37, 38, 39, 40, 41, 42, 43, 44, 45, 46, 47, 48, 49, 50, 51, 52, 53, 54, 55, 56, 57, 58, 59, 60, 61] (by decide +kernel) (by decide +kernel)) (goodIn_sub (fun _ h => List.mem_cons_of_mem _ (List.mem_append_right _ h)) (by decide +kernel))
set_option maxRecDepth 20000 in
theorem gL_parts_X5_parts : GoodIn wsL_parts (wsV RL 41 RX5 yX5_parts wsX5_parts) := goodIn_app (goodIn_of _ (by decide +kernel)) ggL_parts_X5_parts
theorem dL_parts_0 : decode cL_parts 0 = .ok (.aload_n 2, 1) := by decide +kernel
theorem dL_parts_1 : decode cL_parts 1 = .ok (.iconst 0, 1) := by decide +kernel
theorem dL_parts_2 : decode cL_parts 2 = .ok (.aload_n 0, 1) := by decide +kernel
theorem dL_parts_3 : decode cL_parts 3 = .ok (.iload_n 1, 1) := by decide +kernel
theorem dL_parts_4 : decode cL_parts 4 = .ok (.invokevirtual 41, 3) := by decide +kernel
theorem dL_parts_7 : decode cL_parts 7 = .ok (.i2l, 1) := by decide +kernel
theorem dL_parts_8 : decode cL_parts 8 = .ok (.lastore, 1) := by decide +kernel
theorem dL_parts_9 : decode cL_parts 9 = .ok (.goto 6, 3) := by decide +kernel
theorem dL_parts_12 : decode cL_parts 12 = .ok (.astore_n 3, 1) := by decide +kernel
theorem dL_parts_13 : decode cL_parts 13 = .ok (.iconst 1, 1) := by decide +kernel
theorem dL_parts_14 : decode cL_parts 14 = .ok (.ireturn, 1) := by decide +kernel
theorem dL_parts_15 : decode cL_parts 15 = .ok (.iconst 0, 1) := by decide +kernel
theorem dL_parts_16 : decode cL_parts 16 = .ok (.ireturn, 1) := by decide +kernel
set_option maxRecDepth 20000 in
theorem ggL_lettersIn_X5_lettersIn : GoodIn wsL_lettersIn wsX5_lettersIn := goodIn_ca (goodIn_r _ [6, 7, 8, 9, 10, 11, 12, 5, 13, 14, 15, 16, 17, 18, 19, 20, 21, 22, 23, 24, 25, 26, 27, 28, 29, 30, 31, 32, 33, 34, 35, 36, 37, 38, 39, 40, 41, 42, 43, 44, 45, 46, 47, 48, 49, 50, 51, 52, 53, 54, 55, 56, 57, 58, 59, 60, 61] (by decide +kernel) (by decide +kernel)) (goodIn_sub (fun _ h => List.mem_cons_of_mem _ (List.mem_append_right _ h)) (by decide +kernel))
set_option maxRecDepth 20000 in
theorem gL_lettersIn_X5_lettersIn : GoodIn wsL_lettersIn (wsV RL 44 RX5 yX5_lettersIn wsX5_lettersIn) := goodIn_app (goodIn_of _ (by decide +kernel)) ggL_lettersIn_X5_lettersIn
theorem dL_lettersIn_0 : decode cL_lettersIn 0 = .ok (.aload_n 3, 1) := by decide +kernel
theorem dL_lettersIn_1 : decode cL_lettersIn 1 = .ok (.iconst 0, 1) := by decide +kernel
theorem dL_lettersIn_2 : decode cL_lettersIn 2 = .ok (.aload_n 0, 1) := by decide +kernel
theorem dL_lettersIn_3 : decode cL_lettersIn 3 = .ok (.iload_n 1, 1) := by decide +kernel
theorem dL_lettersIn_4 : decode cL_lettersIn 4 = .ok (.iload_n 2, 1) := by decide +kernel
theorem dL_lettersIn_5 : decode cL_lettersIn 5 = .ok (.invokevirtual 44, 3) := by decide +kernel
theorem dL_lettersIn_8 : decode cL_lettersIn 8 = .ok (.i2l, 1) := by decide +kernel
theorem dL_lettersIn_9 : decode cL_lettersIn 9 = .ok (.lastore, 1) := by decide +kernel
theorem dL_lettersIn_10 : decode cL_lettersIn 10 = .ok (.goto 7, 3) := by decide +kernel
theorem dL_lettersIn_13 : decode cL_lettersIn 13 = .ok (.astore 4, 2) := by decide +kernel
theorem dL_lettersIn_15 : decode cL_lettersIn 15 = .ok (.iconst 1, 1) := by decide +kernel
theorem dL_lettersIn_16 : decode cL_lettersIn 16 = .ok (.ireturn, 1) := by decide +kernel
theorem dL_lettersIn_17 : decode cL_lettersIn 17 = .ok (.iconst 0, 1) := by decide +kernel
theorem dL_lettersIn_18 : decode cL_lettersIn 18 = .ok (.ireturn, 1) := by decide +kernel
set_option maxRecDepth 20000 in
theorem ggL_delivered_X5_delivered : GoodIn wsL_delivered wsX5_delivered := goodIn_ca (goodIn_r _ [6, 7, 8, 9, 10, 5, 11, 12, 13, 14, 15, 16, 17, 18, 19, 20, 21, 22, 23, 24, 25, 26, 27, 28, 29, 30, 31, 32, 33, 34, 35, 36, 37, 38, 39, 40, 41, 42, 43, 44, 45, 46, 47, 48, 49, 50, 51, 52, 53, 54, 55, 56, 57, 58, 59, 60, 61] (by decide +kernel) (by decide +kernel)) (goodIn_sub (fun _ h => List.mem_cons_of_mem _ (List.mem_append_right _ h)) (by decide +kernel))
set_option maxRecDepth 20000 in
theorem gL_delivered_X5_delivered : GoodIn wsL_delivered (wsV RL 48 RX5 yX5_delivered wsX5_delivered) := goodIn_app (goodIn_of _ (by decide +kernel)) ggL_delivered_X5_delivered
theorem dL_delivered_0 : decode cL_delivered 0 = .ok (.aload_n 2, 1) := by decide +kernel
theorem dL_delivered_1 : decode cL_delivered 1 = .ok (.iconst 0, 1) := by decide +kernel
theorem dL_delivered_2 : decode cL_delivered 2 = .ok (.aload_n 0, 1) := by decide +kernel
theorem dL_delivered_3 : decode cL_delivered 3 = .ok (.iload_n 1, 1) := by decide +kernel
theorem dL_delivered_4 : decode cL_delivered 4 = .ok (.invokevirtual 48, 3) := by decide +kernel
theorem dL_delivered_7 : decode cL_delivered 7 = .ok (.i2l, 1) := by decide +kernel
theorem dL_delivered_8 : decode cL_delivered 8 = .ok (.lastore, 1) := by decide +kernel
