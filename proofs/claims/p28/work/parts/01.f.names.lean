theorem dX5_read_10 : decode cX5_read 10 = .ok (.invokestatic 34, 3) := by decide +kernel
theorem dX5_read_13 : decode cX5_read 13 = .ok (.aload_n 3, 1) := by decide +kernel
theorem dX5_read_14 : decode cX5_read 14 = .ok (.iconst 0, 1) := by decide +kernel
theorem dX5_read_15 : decode cX5_read 15 = .ok (.aload_n 3, 1) := by decide +kernel
theorem dX5_read_16 : decode cX5_read 16 = .ok (.getfield 163, 3) := by decide +kernel
theorem dX5_read_19 : decode cX5_read 19 = .ok (.iload_n 2, 1) := by decide +kernel
theorem dX5_read_20 : decode cX5_read 20 = .ok (.isub, 1) := by decide +kernel
theorem dX5_read_21 : decode cX5_read 21 = .ok (.invokestatic 166, 3) := by decide +kernel
theorem dX5_read_24 : decode cX5_read 24 = .ok (.putfield 163, 3) := by decide +kernel
theorem dX5_read_27 : decode cX5_read 27 = .ok (.aload_n 0, 1) := by decide +kernel
theorem dX5_read_28 : decode cX5_read 28 = .ok (.aload_n 3, 1) := by decide +kernel
theorem dX5_read_29 : decode cX5_read 29 = .ok (.invokevirtual 159, 3) := by decide +kernel
theorem dX5_read_32 : decode cX5_read 32 = .ok (.aload_n 3, 1) := by decide +kernel
theorem dX5_read_33 : decode cX5_read 33 = .ok (.getfield 163, 3) := by decide +kernel
theorem dX5_read_36 : decode cX5_read 36 = .ok (.ireturn, 1) := by decide +kernel
set_option maxRecDepth 20000 in
theorem ggX5_inRoom_X5_recipientAt : GoodIn wsX5_inRoom wsX5_recipientAt := goodIn_ca (goodIn_r _ [6, 7, 8, 9, 15, 16, 17, 18] (by decide +kernel) (by decide +kernel)) (goodIn_sub (fun _ h => List.mem_cons_of_mem _ (List.mem_append_right _ h)) (by decide +kernel))
set_option maxRecDepth 20000 in
theorem gX5_inRoom_X5_recipientAt : GoodIn wsX5_inRoom (wsV RX5 63 RX5 yX5_recipientAt wsX5_recipientAt) := goodIn_app (goodIn_of _ (by decide +kernel)) ggX5_inRoom_X5_recipientAt
theorem dX5_inRoom_0 : decode cX5_inRoom 0 = .ok (.aload_n 0, 1) := by decide +kernel
theorem dX5_inRoom_1 : decode cX5_inRoom 1 = .ok (.iload_n 1, 1) := by decide +kernel
theorem dX5_inRoom_2 : decode cX5_inRoom 2 = .ok (.invokevirtual 63, 3) := by decide +kernel
theorem dX5_inRoom_5 : decode cX5_inRoom 5 = .ok (.getfield 163, 3) := by decide +kernel
theorem dX5_inRoom_8 : decode cX5_inRoom 8 = .ok (.ireturn, 1) := by decide +kernel
set_option maxRecDepth 20000 in
theorem ggX5_marks_X5_recipientAt : GoodIn wsX5_marks wsX5_recipientAt := goodIn_ca (goodIn_r _ [6, 7, 8, 9, 15, 16, 17, 18] (by decide +kernel) (by decide +kernel)) (goodIn_sub (fun _ h => List.mem_cons_of_mem _ (List.mem_append_right _ h)) (by decide +kernel))
set_option maxRecDepth 20000 in
theorem gX5_marks_X5_recipientAt : GoodIn wsX5_marks (wsV RX5 63 RX5 yX5_recipientAt wsX5_recipientAt) := goodIn_app (goodIn_of _ (by decide +kernel)) ggX5_marks_X5_recipientAt
theorem dX5_marks_0 : decode cX5_marks 0 = .ok (.aload_n 0, 1) := by decide +kernel
theorem dX5_marks_1 : decode cX5_marks 1 = .ok (.iload_n 1, 1) := by decide +kernel
theorem dX5_marks_2 : decode cX5_marks 2 = .ok (.invokevirtual 63, 3) := by decide +kernel
theorem dX5_marks_5 : decode cX5_marks 5 = .ok (.getfield 172, 3) := by decide +kernel
theorem dX5_marks_8 : decode cX5_marks 8 = .ok (.ireturn, 1) := by decide +kernel
set_option maxRecDepth 20000 in
theorem ggX5_waiting_X5_recipientAt : GoodIn wsX5_waiting wsX5_recipientAt := goodIn_ca (goodIn_r _ [6, 7, 8, 9, 21, 22, 23, 24] (by decide +kernel) (by decide +kernel)) (goodIn_sub (fun _ h => List.mem_cons_of_mem _ (List.mem_append_right _ h)) (by decide +kernel))
set_option maxRecDepth 20000 in
theorem gX5_waiting_X5_recipientAt : GoodIn wsX5_waiting (wsV RX5 63 RX5 yX5_recipientAt wsX5_recipientAt) := goodIn_app (goodIn_of _ (by decide +kernel)) ggX5_waiting_X5_recipientAt
set_option maxRecDepth 20000 in
theorem ggX5_waiting_Jx4a65c_size_8abf5 : GoodIn wsX5_waiting wsJx4a65c_size_8abf5 := goodIn_r _ [14, 15, 25, 26, 27] (by decide +kernel) (by decide +kernel)
set_option maxRecDepth 20000 in
theorem gX5_waiting_Jx4a65c_size_8abf5 : GoodIn wsX5_waiting (wsV RX5 80 RJx4a65c yJx4a65c_size_8abf5 wsJx4a65c_size_8abf5) := goodIn_app (goodIn_of _ (by decide +kernel)) ggX5_waiting_Jx4a65c_size_8abf5
theorem dX5_waiting_0 : decode cX5_waiting 0 = .ok (.aload_n 0, 1) := by decide +kernel
theorem dX5_waiting_1 : decode cX5_waiting 1 = .ok (.iload_n 1, 1) := by decide +kernel
theorem dX5_waiting_2 : decode cX5_waiting 2 = .ok (.invokevirtual 63, 3) := by decide +kernel
theorem dX5_waiting_5 : decode cX5_waiting 5 = .ok (.getfield 101, 3) := by decide +kernel
theorem dX5_waiting_8 : decode cX5_waiting 8 = .ok (.invokevirtual 80, 3) := by decide +kernel
theorem dX5_waiting_11 : decode cX5_waiting 11 = .ok (.ireturn, 1) := by decide +kernel
set_option maxRecDepth 20000 in
theorem ggX5_next_X5_recipientAt : GoodIn wsX5_next wsX5_recipientAt := goodIn_ca (goodIn_r _ [7, 8, 9, 10, 65, 66, 67, 68] (by decide +kernel) (by decide +kernel)) (goodIn_sub (fun _ h => List.mem_cons_of_mem _ (List.mem_append_right _ h)) (by decide +kernel))
set_option maxRecDepth 20000 in
theorem gX5_next_X5_recipientAt : GoodIn wsX5_next (wsV RX5 63 RX5 yX5_recipientAt wsX5_recipientAt) := goodIn_app (goodIn_of _ (by decide +kernel)) ggX5_next_X5_recipientAt
set_option maxRecDepth 20000 in
theorem ggX5_next_X4_firstDueUntil : GoodIn wsX5_next wsX4_firstDueUntil := goodIn_r _ [15, 16, 17, 18, 19, 20, 21, 22, 23, 24, 25, 26, 27, 28, 29, 30, 31, 32, 33, 34, 35, 36, 37, 38, 39, 40, 41, 42, 43, 44, 45, 46, 47, 48, 69, 70, 71, 72, 73, 49, 50, 51, 52, 53, 54, 55, 56, 57, 58, 59, 60, 61, 62, 63, 64, 74, 75, 76] (by decide +kernel) (by decide +kernel)
set_option maxRecDepth 20000 in
theorem gX5_next_X4_firstDueUntil : GoodIn wsX5_next (wsV RX5 176 RX4 yX4_firstDueUntil wsX4_firstDueUntil) := goodIn_app (goodIn_of _ (by decide +kernel)) ggX5_next_X4_firstDueUntil
theorem dX5_next_0 : decode cX5_next 0 = .ok (.aload_n 0, 1) := by decide +kernel
theorem dX5_next_1 : decode cX5_next 1 = .ok (.iload_n 1, 1) := by decide +kernel
theorem dX5_next_2 : decode cX5_next 2 = .ok (.invokevirtual 63, 3) := by decide +kernel
theorem dX5_next_5 : decode cX5_next 5 = .ok (.ldc 175, 2) := by decide +kernel
theorem dX5_next_7 : decode cX5_next 7 = .ok (.invokevirtual 176, 3) := by decide +kernel
theorem dX5_next_10 : decode cX5_next 10 = .ok (.astore_n 2, 1) := by decide +kernel
theorem dX5_next_11 : decode cX5_next 11 = .ok (.aload_n 2, 1) := by decide +kernel
theorem dX5_next_12 : decode cX5_next 12 = .ok (.ifnonnull 7, 3) := by decide +kernel
theorem dX5_next_15 : decode cX5_next 15 = .ok (.iconst (-1), 1) := by decide +kernel
theorem dX5_next_16 : decode cX5_next 16 = .ok (.goto 7, 3) := by decide +kernel
theorem dX5_next_19 : decode cX5_next 19 = .ok (.aload_n 2, 1) := by decide +kernel
theorem dX5_next_20 : decode cX5_next 20 = .ok (.getfield 71, 3) := by decide +kernel
theorem dX5_next_23 : decode cX5_next 23 = .ok (.ireturn, 1) := by decide +kernel
set_option maxRecDepth 20000 in
theorem ggX5_pass_X5_requireInRange : GoodIn wsX5_pass wsX5_requireInRange := goodIn_ca (goodIn_r _ [6, 7, 8] (by decide +kernel) (by decide +kernel)) (goodIn_sub (fun _ h => List.mem_cons_of_mem _ (List.mem_append_right _ h)) (by decide +kernel))
set_option maxRecDepth 20000 in
theorem gX5_pass_X5_requireInRange : GoodIn wsX5_pass (va_wsS RX5 34 yX5_requireInRange wsX5_requireInRange) := goodIn_app (goodIn_of _ (by decide +kernel)) ggX5_pass_X5_requireInRange
set_option maxRecDepth 20000 in
theorem ggX5_pass_X5_expireMessages : GoodIn wsX5_pass wsX5_expireMessages := goodIn_r _ [12, 13, 14, 15, 1, 16, 17, 18, 19, 20, 21, 22, 23, 24, 25, 26, 27, 28, 29, 30, 31, 32, 33, 34, 35, 36, 37, 38, 39, 40, 41, 42, 43, 44, 45, 46, 47, 48, 49, 50, 51, 52, 53, 54, 55, 56, 57, 58, 59, 60, 61, 62, 63, 64, 65, 66, 67, 68, 69, 70, 71, 72, 73, 74, 75, 76, 77, 78, 79, 80, 81, 82, 83, 84, 85, 86, 87, 88, 89, 90, 91, 92, 93, 94, 95, 96, 97, 98, 99, 100, 101, 102, 103, 104, 105, 106, 107, 108, 109, 110, 111, 112, 113, 114, 115, 116, 117, 118, 119, 120, 121, 122, 123, 124, 125, 126, 127, 128, 184, 185, 186, 187, 188, 189, 190, 191, 192, 193, 194, 195, 196, 197, 198, 199, 200, 201, 202, 203, 204, 205, 206, 207, 208, 209, 210, 211, 212, 213, 214, 215, 216, 217, 218, 219, 220] (by decide +kernel) (by decide +kernel)
set_option maxRecDepth 20000 in
theorem gX5_pass_X5_expireMessages : GoodIn wsX5_pass (wsV RX5 179 RX5 yX5_expireMessages wsX5_expireMessages) := goodIn_app (goodIn_of _ (by decide +kernel)) ggX5_pass_X5_expireMessages
set_option maxRecDepth 20000 in
theorem ggX5_pass_X5_attemptFor : GoodIn wsX5_pass wsX5_attemptFor := goodIn_r _ [132, 1, 133, 134, 135, 136, 137, 138, 139, 62, 140, 64, 141, 142, 65, 19, 20, 21, 22, 23, 66, 25, 26, 27, 28, 29, 30, 31, 32, 33, 34, 35, 36, 37, 38, 39, 40, 143, 144, 145, 44, 146, 147, 148, 41, 42, 43, 45, 46, 47, 48, 49, 50, 51, 52, 53, 54, 55, 56, 57, 58, 59, 60, 61, 63, 67, 68, 69, 70, 71, 72, 73, 74, 75, 76, 77, 78, 79, 80, 81, 82, 83, 84, 85, 86, 87, 88, 89, 90, 91, 92, 93, 94, 95, 96, 97, 98, 99, 100, 101, 102, 103, 104, 105, 106, 107, 108, 109, 110, 111, 112, 113, 114, 115, 116, 117, 118, 119, 120, 121, 122, 123, 124, 125, 126, 127, 128, 149, 150, 151, 152, 153, 154, 155, 156, 157, 158, 159, 160, 161, 162, 163, 164, 165, 166, 167, 168, 169, 170, 171, 172, 173, 174, 175, 176, 177, 178, 179, 180, 181, 182, 183, 184, 185, 186, 187, 188, 189, 190, 191, 192, 193, 194, 195, 196, 197, 198, 199, 200, 201, 202, 203, 216, 217, 218, 219, 220, 204, 205, 206, 207, 208, 209, 210, 211, 212, 213, 214, 215] (by decide +kernel) (by decide +kernel)
set_option maxRecDepth 20000 in
theorem gX5_pass_X5_attemptFor : GoodIn wsX5_pass (wsV RX5 182 RX5 yX5_attemptFor wsX5_attemptFor) := goodIn_app (goodIn_of _ (by decide +kernel)) ggX5_pass_X5_attemptFor
theorem dX5_pass_0 : decode cX5_pass 0 = .ok (.iload_n 1, 1) := by decide +kernel
theorem dX5_pass_1 : decode cX5_pass 1 = .ok (.iconst 1, 1) := by decide +kernel
theorem dX5_pass_2 : decode cX5_pass 2 = .ok (.bipush 100, 2) := by decide +kernel
theorem dX5_pass_4 : decode cX5_pass 4 = .ok (.invokestatic 34, 3) := by decide +kernel
theorem dX5_pass_7 : decode cX5_pass 7 = .ok (.iconst 0, 1) := by decide +kernel
theorem dX5_pass_8 : decode cX5_pass 8 = .ok (.istore_n 2, 1) := by decide +kernel
theorem dX5_pass_9 : decode cX5_pass 9 = .ok (.iconst 0, 1) := by decide +kernel
theorem dX5_pass_10 : decode cX5_pass 10 = .ok (.istore_n 3, 1) := by decide +kernel
theorem dX5_pass_11 : decode cX5_pass 11 = .ok (.iload_n 3, 1) := by decide +kernel
theorem dX5_pass_12 : decode cX5_pass 12 = .ok (.iload_n 1, 1) := by decide +kernel
theorem dX5_pass_13 : decode cX5_pass 13 = .ok (.if_icmp .ge 56, 3) := by decide +kernel
theorem dX5_pass_16 : decode cX5_pass 16 = .ok (.aload_n 0, 1) := by decide +kernel
theorem dX5_pass_17 : decode cX5_pass 17 = .ok (.dup, 1) := by decide +kernel
theorem dX5_pass_18 : decode cX5_pass 18 = .ok (.getfield 91, 3) := by decide +kernel
theorem dX5_pass_21 : decode cX5_pass 21 = .ok (.iconst 1, 1) := by decide +kernel
theorem dX5_pass_22 : decode cX5_pass 22 = .ok (.iadd, 1) := by decide +kernel
theorem dX5_pass_23 : decode cX5_pass 23 = .ok (.putfield 91, 3) := by decide +kernel
theorem dX5_pass_26 : decode cX5_pass 26 = .ok (.aload_n 0, 1) := by decide +kernel
theorem dX5_pass_27 : decode cX5_pass 27 = .ok (.invokevirtual 179, 3) := by decide +kernel
theorem dX5_pass_30 : decode cX5_pass 30 = .ok (.iconst 0, 1) := by decide +kernel
theorem dX5_pass_31 : decode cX5_pass 31 = .ok (.istore 4, 2) := by decide +kernel
theorem dX5_pass_33 : decode cX5_pass 33 = .ok (.iload 4, 2) := by decide +kernel
theorem dX5_pass_35 : decode cX5_pass 35 = .ok (.aload_n 0, 1) := by decide +kernel
theorem dX5_pass_36 : decode cX5_pass 36 = .ok (.getfield 18, 3) := by decide +kernel
theorem dX5_pass_39 : decode cX5_pass 39 = .ok (.arraylength, 1) := by decide +kernel
theorem dX5_pass_40 : decode cX5_pass 40 = .ok (.if_icmp .ge 23, 3) := by decide +kernel
theorem dX5_pass_43 : decode cX5_pass 43 = .ok (.iload_n 2, 1) := by decide +kernel
theorem dX5_pass_44 : decode cX5_pass 44 = .ok (.aload_n 0, 1) := by decide +kernel
theorem dX5_pass_45 : decode cX5_pass 45 = .ok (.aload_n 0, 1) := by decide +kernel
theorem dX5_pass_46 : decode cX5_pass 46 = .ok (.getfield 18, 3) := by decide +kernel
theorem dX5_pass_49 : decode cX5_pass 49 = .ok (.iload 4, 2) := by decide +kernel
theorem dX5_pass_51 : decode cX5_pass 51 = .ok (.aaload, 1) := by decide +kernel
theorem dX5_pass_52 : decode cX5_pass 52 = .ok (.invokevirtual 182, 3) := by decide +kernel
theorem dX5_pass_55 : decode cX5_pass 55 = .ok (.iadd, 1) := by decide +kernel
theorem dX5_pass_56 : decode cX5_pass 56 = .ok (.istore_n 2, 1) := by decide +kernel
theorem dX5_pass_57 : decode cX5_pass 57 = .ok (.iinc 4 1, 3) := by decide +kernel
theorem dX5_pass_60 : decode cX5_pass 60 = .ok (.goto (-27), 3) := by decide +kernel
theorem dX5_pass_63 : decode cX5_pass 63 = .ok (.iinc 3 1, 3) := by decide +kernel
theorem dX5_pass_66 : decode cX5_pass 66 = .ok (.goto (-55), 3) := by decide +kernel
theorem dX5_pass_69 : decode cX5_pass 69 = .ok (.iload_n 2, 1) := by decide +kernel
theorem dX5_pass_70 : decode cX5_pass 70 = .ok (.ireturn, 1) := by decide +kernel
theorem dX5_now_0 : decode cX5_now 0 = .ok (.aload_n 0, 1) := by decide +kernel
theorem dX5_now_1 : decode cX5_now 1 = .ok (.getfield 91, 3) := by decide +kernel
theorem dX5_now_4 : decode cX5_now 4 = .ok (.ireturn, 1) := by decide +kernel
set_option maxRecDepth 20000 in
theorem ggX5_receipts_X5_accountAt : GoodIn wsX5_receipts wsX5_accountAt := goodIn_ca (goodIn_r _ [6, 7, 8, 9, 23, 24, 25, 26] (by decide +kernel) (by decide +kernel)) (goodIn_sub (fun _ h => List.mem_cons_of_mem _ (List.mem_append_right _ h)) (by decide +kernel))
set_option maxRecDepth 20000 in
theorem gX5_receipts_X5_accountAt : GoodIn wsX5_receipts (wsV RX5 30 RX5 yX5_accountAt wsX5_accountAt) := goodIn_app (goodIn_of _ (by decide +kernel)) ggX5_receipts_X5_accountAt
set_option maxRecDepth 20000 in
theorem ggX5_receipts_Jx4a65c_size_8abf5 : GoodIn wsX5_receipts wsJx4a65c_size_8abf5 := goodIn_r _ [14, 15, 27, 28, 29] (by decide +kernel) (by decide +kernel)
set_option maxRecDepth 20000 in
theorem gX5_receipts_Jx4a65c_size_8abf5 : GoodIn wsX5_receipts (wsV RX5 80 RJx4a65c yJx4a65c_size_8abf5 wsJx4a65c_size_8abf5) := goodIn_app (goodIn_of _ (by decide +kernel)) ggX5_receipts_Jx4a65c_size_8abf5
theorem dX5_receipts_0 : decode cX5_receipts 0 = .ok (.aload_n 0, 1) := by decide +kernel
theorem dX5_receipts_1 : decode cX5_receipts 1 = .ok (.iload_n 1, 1) := by decide +kernel
theorem dX5_receipts_2 : decode cX5_receipts 2 = .ok (.invokevirtual 30, 3) := by decide +kernel
theorem dX5_receipts_5 : decode cX5_receipts 5 = .ok (.getfield 186, 3) := by decide +kernel
theorem dX5_receipts_8 : decode cX5_receipts 8 = .ok (.invokevirtual 80, 3) := by decide +kernel
theorem dX5_receipts_11 : decode cX5_receipts 11 = .ok (.ireturn, 1) := by decide +kernel
set_option maxRecDepth 20000 in
theorem ggX5_takeReceipt_X5_accountAt : GoodIn wsX5_takeReceipt wsX5_accountAt := goodIn_ca (goodIn_r _ [11, 12, 13, 14, 67, 68, 69, 70] (by decide +kernel) (by decide +kernel)) (goodIn_sub (fun _ h => List.mem_cons_of_mem _ (List.mem_append_right _ h)) (by decide +kernel))
set_option maxRecDepth 20000 in
theorem gX5_takeReceipt_X5_accountAt : GoodIn wsX5_takeReceipt (wsV RX5 30 RX5 yX5_accountAt wsX5_accountAt) := goodIn_app (goodIn_of _ (by decide +kernel)) ggX5_takeReceipt_X5_accountAt
set_option maxRecDepth 20000 in
theorem ggX5_takeReceipt_Jx4a65c_isEmpty_aae02 : GoodIn wsX5_takeReceipt wsJx4a65c_isEmpty_aae02 := goodIn_r _ [19, 20, 71, 72, 73] (by decide +kernel) (by decide +kernel)
set_option maxRecDepth 20000 in
theorem gX5_takeReceipt_Jx4a65c_isEmpty_aae02 : GoodIn wsX5_takeReceipt (wsV RX5 189 RJx4a65c yJx4a65c_isEmpty_aae02 wsJx4a65c_isEmpty_aae02) := goodIn_app (goodIn_of _ (by decide +kernel)) ggX5_takeReceipt_Jx4a65c_isEmpty_aae02
set_option maxRecDepth 20000 in
theorem ggX5_takeReceipt_Jx4a65c_remove_915e3 : GoodIn wsX5_takeReceipt wsJx4a65c_remove_915e3 := goodIn_r _ [24, 20, 25, 26, 27, 28, 29, 30, 31, 32, 33, 34, 35, 36, 18, 37, 38, 39, 40, 41, 42, 43, 71, 72, 73] (by decide +kernel) (by decide +kernel)
set_option maxRecDepth 20000 in
theorem gX5_takeReceipt_Jx4a65c_remove_915e3 : GoodIn wsX5_takeReceipt (wsV RX5 195 RJx4a65c yJx4a65c_remove_915e3 wsJx4a65c_remove_915e3) := goodIn_app (goodIn_of _ (by decide +kernel)) ggX5_takeReceipt_Jx4a65c_remove_915e3
theorem dX5_takeReceipt_0 : decode cX5_takeReceipt 0 = .ok (.aload_n 0, 1) := by decide +kernel
theorem dX5_takeReceipt_1 : decode cX5_takeReceipt 1 = .ok (.iload_n 1, 1) := by decide +kernel
theorem dX5_takeReceipt_2 : decode cX5_takeReceipt 2 = .ok (.invokevirtual 30, 3) := by decide +kernel
theorem dX5_takeReceipt_5 : decode cX5_takeReceipt 5 = .ok (.getfield 186, 3) := by decide +kernel
theorem dX5_takeReceipt_8 : decode cX5_takeReceipt 8 = .ok (.astore_n 2, 1) := by decide +kernel
theorem dX5_takeReceipt_9 : decode cX5_takeReceipt 9 = .ok (.aload_n 2, 1) := by decide +kernel
theorem dX5_takeReceipt_10 : decode cX5_takeReceipt 10 = .ok (.invokevirtual 189, 3) := by decide +kernel
theorem dX5_takeReceipt_13 : decode cX5_takeReceipt 13 = .ok (.ifCond .eq 13, 3) := by decide +kernel
theorem dX5_takeReceipt_16 : decode cX5_takeReceipt 16 = .ok (.new 84, 3) := by decide +kernel
theorem dX5_takeReceipt_19 : decode cX5_takeReceipt 19 = .ok (.dup, 1) := by decide +kernel
theorem dX5_takeReceipt_20 : decode cX5_takeReceipt 20 = .ok (.ldc 193, 2) := by decide +kernel
theorem dX5_takeReceipt_22 : decode cX5_takeReceipt 22 = .ok (.invokespecial 88, 3) := by decide +kernel
theorem dX5_takeReceipt_25 : decode cX5_takeReceipt 25 = .ok (.athrow, 1) := by decide +kernel
theorem dX5_takeReceipt_26 : decode cX5_takeReceipt 26 = .ok (.aload_n 2, 1) := by decide +kernel
theorem dX5_takeReceipt_27 : decode cX5_takeReceipt 27 = .ok (.iconst 0, 1) := by decide +kernel
theorem dX5_takeReceipt_28 : decode cX5_takeReceipt 28 = .ok (.invokevirtual 195, 3) := by decide +kernel
theorem dX5_takeReceipt_31 : decode cX5_takeReceipt 31 = .ok (.checkcast 72, 3) := by decide +kernel
theorem dX5_takeReceipt_34 : decode cX5_takeReceipt 34 = .ok (.astore_n 3, 1) := by decide +kernel
theorem dX5_takeReceipt_35 : decode cX5_takeReceipt 35 = .ok (.bipush 10, 2) := by decide +kernel
theorem dX5_takeReceipt_37 : decode cX5_takeReceipt 37 = .ok (.aload_n 3, 1) := by decide +kernel
theorem dX5_takeReceipt_38 : decode cX5_takeReceipt 38 = .ok (.getfield 71, 3) := by decide +kernel
theorem dX5_takeReceipt_41 : decode cX5_takeReceipt 41 = .ok (.imul, 1) := by decide +kernel
theorem dX5_takeReceipt_42 : decode cX5_takeReceipt 42 = .ok (.aload_n 3, 1) := by decide +kernel
theorem dX5_takeReceipt_43 : decode cX5_takeReceipt 43 = .ok (.getfield 122, 3) := by decide +kernel
theorem dX5_takeReceipt_46 : decode cX5_takeReceipt 46 = .ok (.iadd, 1) := by decide +kernel
theorem dX5_takeReceipt_47 : decode cX5_takeReceipt 47 = .ok (.ireturn, 1) := by decide +kernel
set_option maxRecDepth 20000 in
theorem ggX5_share_Jx4a65c_size_8abf5 : GoodIn wsX5_share wsJx4a65c_size_8abf5 := goodIn_r _ [8, 9, 47, 48, 49] (by decide +kernel) (by decide +kernel)
set_option maxRecDepth 20000 in
theorem gX5_share_Jx4a65c_size_8abf5 : GoodIn wsX5_share (wsV RX5 80 RJx4a65c yJx4a65c_size_8abf5 wsJx4a65c_size_8abf5) := goodIn_app (goodIn_of _ (by decide +kernel)) ggX5_share_Jx4a65c_size_8abf5
set_option maxRecDepth 20000 in
theorem ggX5_share_Jx4a65c_get_915e3 : GoodIn wsX5_share wsJx4a65c_get_915e3 := goodIn_r _ [13, 9, 14, 15, 16, 17, 18, 19, 20, 21, 22, 23, 24, 7, 25, 26, 47, 48, 49] (by decide +kernel) (by decide +kernel)
set_option maxRecDepth 20000 in
theorem gX5_share_Jx4a65c_get_915e3 : GoodIn wsX5_share (wsV RX5 199 RJx4a65c yJx4a65c_get_915e3 wsJx4a65c_get_915e3) := goodIn_app (goodIn_of _ (by decide +kernel)) ggX5_share_Jx4a65c_get_915e3
theorem dX5_share_0 : decode cX5_share 0 = .ok (.iconst 0, 1) := by decide +kernel
theorem dX5_share_1 : decode cX5_share 1 = .ok (.istore_n 1, 1) := by decide +kernel
theorem dX5_share_2 : decode cX5_share 2 = .ok (.iconst 0, 1) := by decide +kernel
theorem dX5_share_3 : decode cX5_share 3 = .ok (.istore_n 2, 1) := by decide +kernel
theorem dX5_share_4 : decode cX5_share 4 = .ok (.iconst 0, 1) := by decide +kernel
theorem dX5_share_5 : decode cX5_share 5 = .ok (.istore_n 3, 1) := by decide +kernel
theorem dX5_share_6 : decode cX5_share 6 = .ok (.iload_n 3, 1) := by decide +kernel
theorem dX5_share_7 : decode cX5_share 7 = .ok (.aload_n 0, 1) := by decide +kernel
theorem dX5_share_8 : decode cX5_share 8 = .ok (.getfield 26, 3) := by decide +kernel
theorem dX5_share_11 : decode cX5_share 11 = .ok (.invokevirtual 80, 3) := by decide +kernel
theorem dX5_share_14 : decode cX5_share 14 = .ok (.if_icmp .ge 42, 3) := by decide +kernel
theorem dX5_share_17 : decode cX5_share 17 = .ok (.aload_n 0, 1) := by decide +kernel
theorem dX5_share_18 : decode cX5_share 18 = .ok (.getfield 26, 3) := by decide +kernel
theorem dX5_share_21 : decode cX5_share 21 = .ok (.iload_n 3, 1) := by decide +kernel
theorem dX5_share_22 : decode cX5_share 22 = .ok (.invokevirtual 199, 3) := by decide +kernel
theorem dX5_share_25 : decode cX5_share 25 = .ok (.checkcast 72, 3) := by decide +kernel
theorem dX5_share_28 : decode cX5_share 28 = .ok (.getfield 122, 3) := by decide +kernel
theorem dX5_share_31 : decode cX5_share 31 = .ok (.istore 4, 2) := by decide +kernel
theorem dX5_share_33 : decode cX5_share 33 = .ok (.iload 4, 2) := by decide +kernel
theorem dX5_share_35 : decode cX5_share 35 = .ok (.ifCond .eq 6, 3) := by decide +kernel
theorem dX5_share_38 : decode cX5_share 38 = .ok (.iinc 2 1, 3) := by decide +kernel
theorem dX5_share_41 : decode cX5_share 41 = .ok (.iload 4, 2) := by decide +kernel
theorem dX5_share_43 : decode cX5_share 43 = .ok (.iconst 1, 1) := by decide +kernel
theorem dX5_share_44 : decode cX5_share 44 = .ok (.if_icmp .ne 6, 3) := by decide +kernel
theorem dX5_share_47 : decode cX5_share 47 = .ok (.iinc 1 1, 3) := by decide +kernel
theorem dX5_share_50 : decode cX5_share 50 = .ok (.iinc 3 1, 3) := by decide +kernel
theorem dX5_share_53 : decode cX5_share 53 = .ok (.goto (-47), 3) := by decide +kernel
theorem dX5_share_56 : decode cX5_share 56 = .ok (.iload_n 2, 1) := by decide +kernel
theorem dX5_share_57 : decode cX5_share 57 = .ok (.ifCond .ne 7, 3) := by decide +kernel
theorem dX5_share_60 : decode cX5_share 60 = .ok (.fconst 0, 1) := by decide +kernel
theorem dX5_share_61 : decode cX5_share 61 = .ok (.goto 8, 3) := by decide +kernel
theorem dX5_share_64 : decode cX5_share 64 = .ok (.iload_n 1, 1) := by decide +kernel
theorem dX5_share_65 : decode cX5_share 65 = .ok (.i2f, 1) := by decide +kernel
theorem dX5_share_66 : decode cX5_share 66 = .ok (.iload_n 2, 1) := by decide +kernel
theorem dX5_share_67 : decode cX5_share 67 = .ok (.i2f, 1) := by decide +kernel
theorem dX5_share_68 : decode cX5_share 68 = .ok (.fdiv, 1) := by decide +kernel
theorem dX5_share_69 : decode cX5_share 69 = .ok (.freturn, 1) := by decide +kernel
theorem dX5_accountAt_0 : decode cX5_accountAt 0 = .ok (.iload_n 1, 1) := by decide +kernel
theorem dX5_accountAt_1 : decode cX5_accountAt 1 = .ok (.ifCond .lt 12, 3) := by decide +kernel
theorem dX5_accountAt_4 : decode cX5_accountAt 4 = .ok (.iload_n 1, 1) := by decide +kernel
theorem dX5_accountAt_5 : decode cX5_accountAt 5 = .ok (.aload_n 0, 1) := by decide +kernel
theorem dX5_accountAt_6 : decode cX5_accountAt 6 = .ok (.getfield 11, 3) := by decide +kernel
theorem dX5_accountAt_9 : decode cX5_accountAt 9 = .ok (.arraylength, 1) := by decide +kernel
theorem dX5_accountAt_10 : decode cX5_accountAt 10 = .ok (.if_icmp .lt 13, 3) := by decide +kernel
theorem dX5_accountAt_13 : decode cX5_accountAt 13 = .ok (.new 138, 3) := by decide +kernel
theorem dX5_accountAt_16 : decode cX5_accountAt 16 = .ok (.dup, 1) := by decide +kernel
theorem dX5_accountAt_17 : decode cX5_accountAt 17 = .ok (.ldc 202, 2) := by decide +kernel
theorem dX5_accountAt_19 : decode cX5_accountAt 19 = .ok (.invokespecial 142, 3) := by decide +kernel
theorem dX5_accountAt_22 : decode cX5_accountAt 22 = .ok (.athrow, 1) := by decide +kernel
theorem dX5_accountAt_23 : decode cX5_accountAt 23 = .ok (.aload_n 0, 1) := by decide +kernel
theorem dX5_accountAt_24 : decode cX5_accountAt 24 = .ok (.getfield 11, 3) := by decide +kernel
theorem dX5_accountAt_27 : decode cX5_accountAt 27 = .ok (.iload_n 1, 1) := by decide +kernel
theorem dX5_accountAt_28 : decode cX5_accountAt 28 = .ok (.aaload, 1) := by decide +kernel
theorem dX5_accountAt_29 : decode cX5_accountAt 29 = .ok (.areturn, 1) := by decide +kernel
theorem dX5_recipientAt_0 : decode cX5_recipientAt 0 = .ok (.iload_n 1, 1) := by decide +kernel
theorem dX5_recipientAt_1 : decode cX5_recipientAt 1 = .ok (.ifCond .lt 12, 3) := by decide +kernel
theorem dX5_recipientAt_4 : decode cX5_recipientAt 4 = .ok (.iload_n 1, 1) := by decide +kernel
theorem dX5_recipientAt_5 : decode cX5_recipientAt 5 = .ok (.aload_n 0, 1) := by decide +kernel
theorem dX5_recipientAt_6 : decode cX5_recipientAt 6 = .ok (.getfield 18, 3) := by decide +kernel
theorem dX5_recipientAt_9 : decode cX5_recipientAt 9 = .ok (.arraylength, 1) := by decide +kernel
theorem dX5_recipientAt_10 : decode cX5_recipientAt 10 = .ok (.if_icmp .lt 13, 3) := by decide +kernel
theorem dX5_recipientAt_13 : decode cX5_recipientAt 13 = .ok (.new 138, 3) := by decide +kernel
theorem dX5_recipientAt_16 : decode cX5_recipientAt 16 = .ok (.dup, 1) := by decide +kernel
theorem dX5_recipientAt_17 : decode cX5_recipientAt 17 = .ok (.ldc 204, 2) := by decide +kernel
theorem dX5_recipientAt_19 : decode cX5_recipientAt 19 = .ok (.invokespecial 142, 3) := by decide +kernel
theorem dX5_recipientAt_22 : decode cX5_recipientAt 22 = .ok (.athrow, 1) := by decide +kernel
theorem dX5_recipientAt_23 : decode cX5_recipientAt 23 = .ok (.aload_n 0, 1) := by decide +kernel
theorem dX5_recipientAt_24 : decode cX5_recipientAt 24 = .ok (.getfield 18, 3) := by decide +kernel
theorem dX5_recipientAt_27 : decode cX5_recipientAt 27 = .ok (.iload_n 1, 1) := by decide +kernel
theorem dX5_recipientAt_28 : decode cX5_recipientAt 28 = .ok (.aaload, 1) := by decide +kernel
theorem dX5_recipientAt_29 : decode cX5_recipientAt 29 = .ok (.areturn, 1) := by decide +kernel
set_option maxRecDepth 20000 in
theorem ggX5_messageAt_Jx4a65c_size_8abf5 : GoodIn wsX5_messageAt wsJx4a65c_size_8abf5 := goodIn_r _ [9, 10, 32, 33, 34] (by decide +kernel) (by decide +kernel)
set_option maxRecDepth 20000 in
theorem gX5_messageAt_Jx4a65c_size_8abf5 : GoodIn wsX5_messageAt (wsV RX5 80 RJx4a65c yJx4a65c_size_8abf5 wsJx4a65c_size_8abf5) := goodIn_app (goodIn_of _ (by decide +kernel)) ggX5_messageAt_Jx4a65c_size_8abf5
set_option maxRecDepth 20000 in
theorem ggX5_messageAt_Jx4a65c_get_915e3 : GoodIn wsX5_messageAt wsJx4a65c_get_915e3 := goodIn_r _ [14, 10, 15, 16, 17, 18, 19, 20, 21, 22, 23, 24, 25, 8, 26, 27, 32, 33, 34] (by decide +kernel) (by decide +kernel)
set_option maxRecDepth 20000 in
theorem gX5_messageAt_Jx4a65c_get_915e3 : GoodIn wsX5_messageAt (wsV RX5 199 RJx4a65c yJx4a65c_get_915e3 wsJx4a65c_get_915e3) := goodIn_app (goodIn_of _ (by decide +kernel)) ggX5_messageAt_Jx4a65c_get_915e3
theorem dX5_messageAt_0 : decode cX5_messageAt 0 = .ok (.iload_n 1, 1) := by decide +kernel
theorem dX5_messageAt_1 : decode cX5_messageAt 1 = .ok (.ifCond .lt 14, 3) := by decide +kernel
theorem dX5_messageAt_4 : decode cX5_messageAt 4 = .ok (.iload_n 1, 1) := by decide +kernel
theorem dX5_messageAt_5 : decode cX5_messageAt 5 = .ok (.aload_n 0, 1) := by decide +kernel
theorem dX5_messageAt_6 : decode cX5_messageAt 6 = .ok (.getfield 26, 3) := by decide +kernel
theorem dX5_messageAt_9 : decode cX5_messageAt 9 = .ok (.invokevirtual 80, 3) := by decide +kernel
theorem dX5_messageAt_12 : decode cX5_messageAt 12 = .ok (.if_icmp .lt 13, 3) := by decide +kernel
theorem dX5_messageAt_15 : decode cX5_messageAt 15 = .ok (.new 138, 3) := by decide +kernel
theorem dX5_messageAt_18 : decode cX5_messageAt 18 = .ok (.dup, 1) := by decide +kernel
theorem dX5_messageAt_19 : decode cX5_messageAt 19 = .ok (.ldc 206, 2) := by decide +kernel
theorem dX5_messageAt_21 : decode cX5_messageAt 21 = .ok (.invokespecial 142, 3) := by decide +kernel
theorem dX5_messageAt_24 : decode cX5_messageAt 24 = .ok (.athrow, 1) := by decide +kernel
theorem dX5_messageAt_25 : decode cX5_messageAt 25 = .ok (.aload_n 0, 1) := by decide +kernel
theorem dX5_messageAt_26 : decode cX5_messageAt 26 = .ok (.getfield 26, 3) := by decide +kernel
theorem dX5_messageAt_29 : decode cX5_messageAt 29 = .ok (.iload_n 1, 1) := by decide +kernel
theorem dX5_messageAt_30 : decode cX5_messageAt 30 = .ok (.invokevirtual 199, 3) := by decide +kernel
theorem dX5_messageAt_33 : decode cX5_messageAt 33 = .ok (.checkcast 72, 3) := by decide +kernel
theorem dX5_messageAt_36 : decode cX5_messageAt 36 = .ok (.areturn, 1) := by decide +kernel
set_option maxRecDepth 20000 in
theorem ggX5_waitingMessageAt_X5_messageAt : GoodIn wsX5_waitingMessageAt wsX5_messageAt := goodIn_ca (goodIn_r _ [8, 9, 10, 11, 12, 13, 14, 15, 16, 17, 18, 19, 20, 21, 22, 23, 24, 25, 26, 27, 28, 29, 30, 31, 32, 33, 34, 35, 52, 53, 54, 55, 56, 57, 58] (by decide +kernel) (by decide +kernel)) (goodIn_sub (fun _ h => List.mem_cons_of_mem _ (List.mem_append_right _ h)) (by decide +kernel))
set_option maxRecDepth 20000 in
theorem gX5_waitingMessageAt_X5_messageAt : GoodIn wsX5_waitingMessageAt (wsV RX5 119 RX5 yX5_messageAt wsX5_messageAt) := goodIn_app (goodIn_of _ (by decide +kernel)) ggX5_waitingMessageAt_X5_messageAt
theorem dX5_waitingMessageAt_0 : decode cX5_waitingMessageAt 0 = .ok (.aload_n 0, 1) := by decide +kernel
theorem dX5_waitingMessageAt_1 : decode cX5_waitingMessageAt 1 = .ok (.iload_n 1, 1) := by decide +kernel
theorem dX5_waitingMessageAt_2 : decode cX5_waitingMessageAt 2 = .ok (.invokevirtual 119, 3) := by decide +kernel
theorem dX5_waitingMessageAt_5 : decode cX5_waitingMessageAt 5 = .ok (.astore_n 2, 1) := by decide +kernel
theorem dX5_waitingMessageAt_6 : decode cX5_waitingMessageAt 6 = .ok (.aload_n 2, 1) := by decide +kernel
theorem dX5_waitingMessageAt_7 : decode cX5_waitingMessageAt 7 = .ok (.getfield 122, 3) := by decide +kernel
theorem dX5_waitingMessageAt_10 : decode cX5_waitingMessageAt 10 = .ok (.ifCond .eq 13, 3) := by decide +kernel
theorem dX5_waitingMessageAt_13 : decode cX5_waitingMessageAt 13 = .ok (.new 84, 3) := by decide +kernel
theorem dX5_waitingMessageAt_16 : decode cX5_waitingMessageAt 16 = .ok (.dup, 1) := by decide +kernel
theorem dX5_waitingMessageAt_17 : decode cX5_waitingMessageAt 17 = .ok (.ldc 208, 2) := by decide +kernel
theorem dX5_waitingMessageAt_19 : decode cX5_waitingMessageAt 19 = .ok (.invokespecial 88, 3) := by decide +kernel
theorem dX5_waitingMessageAt_22 : decode cX5_waitingMessageAt 22 = .ok (.athrow, 1) := by decide +kernel
theorem dX5_waitingMessageAt_23 : decode cX5_waitingMessageAt 23 = .ok (.aload_n 2, 1) := by decide +kernel
theorem dX5_waitingMessageAt_24 : decode cX5_waitingMessageAt 24 = .ok (.areturn, 1) := by decide +kernel
theorem dX5_requireInRange_0 : decode cX5_requireInRange 0 = .ok (.iload_n 0, 1) := by decide +kernel
theorem dX5_requireInRange_1 : decode cX5_requireInRange 1 = .ok (.iload_n 1, 1) := by decide +kernel
theorem dX5_requireInRange_2 : decode cX5_requireInRange 2 = .ok (.if_icmp .lt 8, 3) := by decide +kernel
theorem dX5_requireInRange_5 : decode cX5_requireInRange 5 = .ok (.iload_n 0, 1) := by decide +kernel
theorem dX5_requireInRange_6 : decode cX5_requireInRange 6 = .ok (.iload_n 2, 1) := by decide +kernel
theorem dX5_requireInRange_7 : decode cX5_requireInRange 7 = .ok (.if_icmp .le 13, 3) := by decide +kernel
theorem dX5_requireInRange_10 : decode cX5_requireInRange 10 = .ok (.new 210, 3) := by decide +kernel
theorem dX5_requireInRange_13 : decode cX5_requireInRange 13 = .ok (.dup, 1) := by decide +kernel
theorem dX5_requireInRange_14 : decode cX5_requireInRange 14 = .ok (.ldc 212, 2) := by decide +kernel
theorem dX5_requireInRange_16 : decode cX5_requireInRange 16 = .ok (.invokespecial 214, 3) := by decide +kernel
theorem dX5_requireInRange_19 : decode cX5_requireInRange 19 = .ok (.athrow, 1) := by decide +kernel
theorem dX5_requireInRange_20 : decode cX5_requireInRange 20 = .ok (.return_, 1) := by decide +kernel
set_option maxRecDepth 20000 in
theorem ggX5_cut_X5_placesOf : GoodIn wsX5_cut wsX5_placesOf := goodIn_r _ [5] (by decide +kernel) (by decide +kernel)
set_option maxRecDepth 20000 in
theorem gX5_cut_X5_placesOf : GoodIn wsX5_cut (va_wsS RX5 215 yX5_placesOf wsX5_placesOf) := goodIn_app (goodIn_of _ (by decide +kernel)) ggX5_cut_X5_placesOf
set_option maxRecDepth 20000 in
theorem ggX5_cut_X5_lettersThatFit : GoodIn wsX5_cut wsX5_lettersThatFit := goodIn_r _ [8, 2, 3, 4, 5] (by decide +kernel) (by decide +kernel)
set_option maxRecDepth 20000 in
theorem gX5_cut_X5_lettersThatFit : GoodIn wsX5_cut (va_wsS RX5 218 yX5_lettersThatFit wsX5_lettersThatFit) := goodIn_app (goodIn_of _ (by decide +kernel)) ggX5_cut_X5_lettersThatFit
set_option maxRecDepth 20000 in
theorem ggX5_cut_J7_copyOf_59c91 : GoodIn wsX5_cut wsJ7_copyOf_59c91 := goodIn_r _ [12, 13, 14, 15, 16, 17, 18, 1, 19, 20, 21, 22, 23, 24, 25, 26] (by decide +kernel) (by decide +kernel)
set_option maxRecDepth 20000 in
theorem gX5_cut_J7_copyOf_59c91 : GoodIn wsX5_cut (va_wsS RX5 222 yJ7_copyOf_59c91 wsJ7_copyOf_59c91) := goodIn_app (goodIn_of _ (by decide +kernel)) ggX5_cut_J7_copyOf_59c91
theorem dX5_cut_0 : decode cX5_cut 0 = .ok (.iload_n 0, 1) := by decide +kernel
theorem dX5_cut_1 : decode cX5_cut 1 = .ok (.iload_n 1, 1) := by decide +kernel
theorem dX5_cut_2 : decode cX5_cut 2 = .ok (.invokestatic 215, 3) := by decide +kernel
theorem dX5_cut_5 : decode cX5_cut 5 = .ok (.iload_n 2, 1) := by decide +kernel
theorem dX5_cut_6 : decode cX5_cut 6 = .ok (.if_icmp .gt 11, 3) := by decide +kernel
theorem dX5_cut_9 : decode cX5_cut 9 = .ok (.iconst 1, 1) := by decide +kernel
theorem dX5_cut_10 : decode cX5_cut 10 = .ok (.newarray .int, 2) := by decide +kernel
theorem dX5_cut_12 : decode cX5_cut 12 = .ok (.dup, 1) := by decide +kernel
theorem dX5_cut_13 : decode cX5_cut 13 = .ok (.iconst 0, 1) := by decide +kernel
theorem dX5_cut_14 : decode cX5_cut 14 = .ok (.iload_n 0, 1) := by decide +kernel
theorem dX5_cut_15 : decode cX5_cut 15 = .ok (.iastore, 1) := by decide +kernel
theorem dX5_cut_16 : decode cX5_cut 16 = .ok (.areturn, 1) := by decide +kernel
theorem dX5_cut_17 : decode cX5_cut 17 = .ok (.bipush 8, 2) := by decide +kernel
theorem dX5_cut_19 : decode cX5_cut 19 = .ok (.newarray .int, 2) := by decide +kernel
theorem dX5_cut_21 : decode cX5_cut 21 = .ok (.astore 4, 2) := by decide +kernel
theorem dX5_cut_23 : decode cX5_cut 23 = .ok (.iconst 0, 1) := by decide +kernel
theorem dX5_cut_24 : decode cX5_cut 24 = .ok (.istore 5, 2) := by decide +kernel
theorem dX5_cut_26 : decode cX5_cut 26 = .ok (.iconst 0, 1) := by decide +kernel
theorem dX5_cut_27 : decode cX5_cut 27 = .ok (.istore 6, 2) := by decide +kernel
theorem dX5_cut_29 : decode cX5_cut 29 = .ok (.iload 5, 2) := by decide +kernel
theorem dX5_cut_31 : decode cX5_cut 31 = .ok (.aload 4, 2) := by decide +kernel
theorem dX5_cut_33 : decode cX5_cut 33 = .ok (.arraylength, 1) := by decide +kernel
theorem dX5_cut_34 : decode cX5_cut 34 = .ok (.if_icmp .ge 39, 3) := by decide +kernel
theorem dX5_cut_37 : decode cX5_cut 37 = .ok (.iload 6, 2) := by decide +kernel
theorem dX5_cut_39 : decode cX5_cut 39 = .ok (.iload_n 0, 1) := by decide +kernel
theorem dX5_cut_40 : decode cX5_cut 40 = .ok (.if_icmp .ge 33, 3) := by decide +kernel
theorem dX5_cut_43 : decode cX5_cut 43 = .ok (.iload 6, 2) := by decide +kernel
theorem dX5_cut_45 : decode cX5_cut 45 = .ok (.iload_n 0, 1) := by decide +kernel
theorem dX5_cut_46 : decode cX5_cut 46 = .ok (.iload_n 1, 1) := by decide +kernel
theorem dX5_cut_47 : decode cX5_cut 47 = .ok (.iload_n 3, 1) := by decide +kernel
theorem dX5_cut_48 : decode cX5_cut 48 = .ok (.invokestatic 218, 3) := by decide +kernel
theorem dX5_cut_51 : decode cX5_cut 51 = .ok (.istore 7, 2) := by decide +kernel
theorem dX5_cut_53 : decode cX5_cut 53 = .ok (.aload 4, 2) := by decide +kernel
theorem dX5_cut_55 : decode cX5_cut 55 = .ok (.iload 5, 2) := by decide +kernel
theorem dX5_cut_57 : decode cX5_cut 57 = .ok (.iload 7, 2) := by decide +kernel
theorem dX5_cut_59 : decode cX5_cut 59 = .ok (.iastore, 1) := by decide +kernel
theorem dX5_cut_60 : decode cX5_cut 60 = .ok (.iinc 5 1, 3) := by decide +kernel
theorem dX5_cut_63 : decode cX5_cut 63 = .ok (.iload 6, 2) := by decide +kernel
theorem dX5_cut_65 : decode cX5_cut 65 = .ok (.iload 7, 2) := by decide +kernel
theorem dX5_cut_67 : decode cX5_cut 67 = .ok (.iadd, 1) := by decide +kernel
theorem dX5_cut_68 : decode cX5_cut 68 = .ok (.istore 6, 2) := by decide +kernel
theorem dX5_cut_70 : decode cX5_cut 70 = .ok (.goto (-41), 3) := by decide +kernel
theorem dX5_cut_73 : decode cX5_cut 73 = .ok (.aload 4, 2) := by decide +kernel
theorem dX5_cut_75 : decode cX5_cut 75 = .ok (.iload 5, 2) := by decide +kernel
theorem dX5_cut_77 : decode cX5_cut 77 = .ok (.invokestatic 222, 3) := by decide +kernel
theorem dX5_cut_80 : decode cX5_cut 80 = .ok (.areturn, 1) := by decide +kernel
theorem dX5_placesOf_0 : decode cX5_placesOf 0 = .ok (.iload_n 1, 1) := by decide +kernel
theorem dX5_placesOf_1 : decode cX5_placesOf 1 = .ok (.ifCond .le 11, 3) := by decide +kernel
theorem dX5_placesOf_4 : decode cX5_placesOf 4 = .ok (.iload_n 0, 1) := by decide +kernel
theorem dX5_placesOf_5 : decode cX5_placesOf 5 = .ok (.iload_n 0, 1) := by decide +kernel
theorem dX5_placesOf_6 : decode cX5_placesOf 6 = .ok (.iload_n 1, 1) := by decide +kernel
theorem dX5_placesOf_7 : decode cX5_placesOf 7 = .ok (.idiv, 1) := by decide +kernel
theorem dX5_placesOf_8 : decode cX5_placesOf 8 = .ok (.iadd, 1) := by decide +kernel
theorem dX5_placesOf_9 : decode cX5_placesOf 9 = .ok (.goto 4, 3) := by decide +kernel
theorem dX5_placesOf_12 : decode cX5_placesOf 12 = .ok (.iload_n 0, 1) := by decide +kernel
theorem dX5_placesOf_13 : decode cX5_placesOf 13 = .ok (.ireturn, 1) := by decide +kernel
set_option maxRecDepth 20000 in
theorem ggX5_lettersThatFit_X5_placesOf : GoodIn wsX5_lettersThatFit wsX5_placesOf := goodIn_r _ [4] (by decide +kernel) (by decide +kernel)
set_option maxRecDepth 20000 in
theorem gX5_lettersThatFit_X5_placesOf : GoodIn wsX5_lettersThatFit (va_wsS RX5 215 yX5_placesOf wsX5_placesOf) := goodIn_app (goodIn_of _ (by decide +kernel)) ggX5_lettersThatFit_X5_placesOf
theorem dX5_lettersThatFit_0 : decode cX5_lettersThatFit 0 = .ok (.iload_n 0, 1) := by decide +kernel
theorem dX5_lettersThatFit_1 : decode cX5_lettersThatFit 1 = .ok (.iload_n 2, 1) := by decide +kernel
theorem dX5_lettersThatFit_2 : decode cX5_lettersThatFit 2 = .ok (.invokestatic 215, 3) := by decide +kernel
theorem dX5_lettersThatFit_5 : decode cX5_lettersThatFit 5 = .ok (.istore 4, 2) := by decide +kernel
theorem dX5_lettersThatFit_7 : decode cX5_lettersThatFit 7 = .ok (.iconst 0, 1) := by decide +kernel
theorem dX5_lettersThatFit_8 : decode cX5_lettersThatFit 8 = .ok (.istore 5, 2) := by decide +kernel
theorem dX5_lettersThatFit_10 : decode cX5_lettersThatFit 10 = .ok (.iload_n 0, 1) := by decide +kernel
theorem dX5_lettersThatFit_11 : decode cX5_lettersThatFit 11 = .ok (.iconst 1, 1) := by decide +kernel
theorem dX5_lettersThatFit_12 : decode cX5_lettersThatFit 12 = .ok (.iadd, 1) := by decide +kernel
theorem dX5_lettersThatFit_13 : decode cX5_lettersThatFit 13 = .ok (.istore 6, 2) := by decide +kernel
theorem dX5_lettersThatFit_15 : decode cX5_lettersThatFit 15 = .ok (.iload 6, 2) := by decide +kernel
theorem dX5_lettersThatFit_17 : decode cX5_lettersThatFit 17 = .ok (.iload_n 1, 1) := by decide +kernel
theorem dX5_lettersThatFit_18 : decode cX5_lettersThatFit 18 = .ok (.if_icmp .gt 28, 3) := by decide +kernel
theorem dX5_lettersThatFit_21 : decode cX5_lettersThatFit 21 = .ok (.iload 6, 2) := by decide +kernel
theorem dX5_lettersThatFit_23 : decode cX5_lettersThatFit 23 = .ok (.iload_n 2, 1) := by decide +kernel
theorem dX5_lettersThatFit_24 : decode cX5_lettersThatFit 24 = .ok (.invokestatic 215, 3) := by decide +kernel
theorem dX5_lettersThatFit_27 : decode cX5_lettersThatFit 27 = .ok (.iload 4, 2) := by decide +kernel
theorem dX5_lettersThatFit_29 : decode cX5_lettersThatFit 29 = .ok (.isub, 1) := by decide +kernel
theorem dX5_lettersThatFit_30 : decode cX5_lettersThatFit 30 = .ok (.iload_n 3, 1) := by decide +kernel
theorem dX5_lettersThatFit_31 : decode cX5_lettersThatFit 31 = .ok (.if_icmp .le 6, 3) := by decide +kernel
theorem dX5_lettersThatFit_34 : decode cX5_lettersThatFit 34 = .ok (.goto 12, 3) := by decide +kernel
theorem dX5_lettersThatFit_37 : decode cX5_lettersThatFit 37 = .ok (.iinc 5 1, 3) := by decide +kernel
theorem dX5_lettersThatFit_40 : decode cX5_lettersThatFit 40 = .ok (.iinc 6 1, 3) := by decide +kernel
theorem dX5_lettersThatFit_43 : decode cX5_lettersThatFit 43 = .ok (.goto (-28), 3) := by decide +kernel
theorem dX5_lettersThatFit_46 : decode cX5_lettersThatFit 46 = .ok (.iload 5, 2) := by decide +kernel
theorem dX5_lettersThatFit_48 : decode cX5_lettersThatFit 48 = .ok (.ireturn, 1) := by decide +kernel
set_option maxRecDepth 20000 in
theorem ggX5_knownAgain_Jx4a65c_size_8abf5 : GoodIn wsX5_knownAgain wsJx4a65c_size_8abf5 := goodIn_r _ [11, 12, 64, 65, 66] (by decide +kernel) (by decide +kernel)
set_option maxRecDepth 20000 in
theorem gX5_knownAgain_Jx4a65c_size_8abf5 : GoodIn wsX5_knownAgain (wsV RX5 80 RJx4a65c yJx4a65c_size_8abf5 wsJx4a65c_size_8abf5) := goodIn_app (goodIn_of _ (by decide +kernel)) ggX5_knownAgain_Jx4a65c_size_8abf5
set_option maxRecDepth 20000 in
theorem ggX5_knownAgain_Jx4a65c_get_915e3 : GoodIn wsX5_knownAgain wsJx4a65c_get_915e3 := goodIn_r _ [16, 12, 17, 18, 19, 20, 21, 22, 23, 24, 25, 26, 27, 10, 28, 29, 64, 65, 66] (by decide +kernel) (by decide +kernel)
set_option maxRecDepth 20000 in
theorem gX5_knownAgain_Jx4a65c_get_915e3 : GoodIn wsX5_knownAgain (wsV RX5 199 RJx4a65c yJx4a65c_get_915e3 wsJx4a65c_get_915e3) := goodIn_app (goodIn_of _ (by decide +kernel)) ggX5_knownAgain_Jx4a65c_get_915e3
set_option maxRecDepth 20000 in
theorem ggX5_knownAgain_X3_goesBetween : GoodIn wsX5_knownAgain wsX3_goesBetween := goodIn_r _ [34, 35, 36, 48, 49, 50, 51, 52, 53, 54, 55, 56, 57, 58, 59, 60, 61, 62, 63] (by decide +kernel) (by decide +kernel)
set_option maxRecDepth 20000 in
theorem gX5_knownAgain_X3_goesBetween : GoodIn wsX5_knownAgain (wsV RX5 228 RX3 yX3_goesBetween wsX3_goesBetween) := goodIn_app (goodIn_of _ (by decide +kernel)) ggX5_knownAgain_X3_goesBetween
theorem dX5_knownAgain_0 : decode cX5_knownAgain 0 = .ok (.aload_n 1, 1) := by decide +kernel
theorem dX5_knownAgain_1 : decode cX5_knownAgain 1 = .ok (.getfield 50, 3) := by decide +kernel
theorem dX5_knownAgain_4 : decode cX5_knownAgain 4 = .ok (.iconst (-1), 1) := by decide +kernel
theorem dX5_knownAgain_5 : decode cX5_knownAgain 5 = .ok (.if_icmp .ne 5, 3) := by decide +kernel
theorem dX5_knownAgain_8 : decode cX5_knownAgain 8 = .ok (.aconst_null, 1) := by decide +kernel
theorem dX5_knownAgain_9 : decode cX5_knownAgain 9 = .ok (.areturn, 1) := by decide +kernel
theorem dX5_knownAgain_10 : decode cX5_knownAgain 10 = .ok (.aconst_null, 1) := by decide +kernel
theorem dX5_knownAgain_11 : decode cX5_knownAgain 11 = .ok (.astore_n 3, 1) := by decide +kernel
theorem dX5_knownAgain_12 : decode cX5_knownAgain 12 = .ok (.iconst 0, 1) := by decide +kernel
theorem dX5_knownAgain_13 : decode cX5_knownAgain 13 = .ok (.istore 4, 2) := by decide +kernel
theorem dX5_knownAgain_15 : decode cX5_knownAgain 15 = .ok (.iload 4, 2) := by decide +kernel
theorem dX5_knownAgain_17 : decode cX5_knownAgain 17 = .ok (.aload_n 0, 1) := by decide +kernel
theorem dX5_knownAgain_18 : decode cX5_knownAgain 18 = .ok (.getfield 26, 3) := by decide +kernel
theorem dX5_knownAgain_21 : decode cX5_knownAgain 21 = .ok (.invokevirtual 80, 3) := by decide +kernel
theorem dX5_knownAgain_24 : decode cX5_knownAgain 24 = .ok (.if_icmp .ge 63, 3) := by decide +kernel
theorem dX5_knownAgain_27 : decode cX5_knownAgain 27 = .ok (.aload_n 0, 1) := by decide +kernel
theorem dX5_knownAgain_28 : decode cX5_knownAgain 28 = .ok (.getfield 26, 3) := by decide +kernel
theorem dX5_knownAgain_31 : decode cX5_knownAgain 31 = .ok (.iload 4, 2) := by decide +kernel
theorem dX5_knownAgain_33 : decode cX5_knownAgain 33 = .ok (.invokevirtual 199, 3) := by decide +kernel
theorem dX5_knownAgain_36 : decode cX5_knownAgain 36 = .ok (.checkcast 72, 3) := by decide +kernel
theorem dX5_knownAgain_39 : decode cX5_knownAgain 39 = .ok (.astore 5, 2) := by decide +kernel
theorem dX5_knownAgain_41 : decode cX5_knownAgain 41 = .ok (.aload 5, 2) := by decide +kernel
theorem dX5_knownAgain_43 : decode cX5_knownAgain 43 = .ok (.aload_n 1, 1) := by decide +kernel
theorem dX5_knownAgain_44 : decode cX5_knownAgain 44 = .ok (.aload_n 2, 1) := by decide +kernel
theorem dX5_knownAgain_45 : decode cX5_knownAgain 45 = .ok (.invokevirtual 228, 3) := by decide +kernel
theorem dX5_knownAgain_48 : decode cX5_knownAgain 48 = .ok (.ifCond .eq 33, 3) := by decide +kernel
theorem dX5_knownAgain_51 : decode cX5_knownAgain 51 = .ok (.aload 5, 2) := by decide +kernel
theorem dX5_knownAgain_53 : decode cX5_knownAgain 53 = .ok (.getfield 232, 3) := by decide +kernel
theorem dX5_knownAgain_56 : decode cX5_knownAgain 56 = .ok (.aload_n 1, 1) := by decide +kernel
theorem dX5_knownAgain_57 : decode cX5_knownAgain 57 = .ok (.getfield 50, 3) := by decide +kernel
theorem dX5_knownAgain_60 : decode cX5_knownAgain 60 = .ok (.if_icmp .ne 21, 3) := by decide +kernel
theorem dX5_knownAgain_63 : decode cX5_knownAgain 63 = .ok (.aload_n 0, 1) := by decide +kernel
theorem dX5_knownAgain_64 : decode cX5_knownAgain 64 = .ok (.getfield 91, 3) := by decide +kernel
theorem dX5_knownAgain_67 : decode cX5_knownAgain 67 = .ok (.aload 5, 2) := by decide +kernel
theorem dX5_knownAgain_69 : decode cX5_knownAgain 69 = .ok (.getfield 233, 3) := by decide +kernel
theorem dX5_knownAgain_72 : decode cX5_knownAgain 72 = .ok (.isub, 1) := by decide +kernel
theorem dX5_knownAgain_73 : decode cX5_knownAgain 73 = .ok (.bipush 30, 2) := by decide +kernel
theorem dX5_knownAgain_75 : decode cX5_knownAgain 75 = .ok (.if_icmp .ge 6, 3) := by decide +kernel
theorem dX5_knownAgain_78 : decode cX5_knownAgain 78 = .ok (.aload 5, 2) := by decide +kernel
theorem dX5_knownAgain_80 : decode cX5_knownAgain 80 = .ok (.astore_n 3, 1) := by decide +kernel
theorem dX5_knownAgain_81 : decode cX5_knownAgain 81 = .ok (.iinc 4 1, 3) := by decide +kernel
theorem dX5_knownAgain_84 : decode cX5_knownAgain 84 = .ok (.goto (-69), 3) := by decide +kernel
theorem dX5_knownAgain_87 : decode cX5_knownAgain 87 = .ok (.aload_n 3, 1) := by decide +kernel
theorem dX5_knownAgain_88 : decode cX5_knownAgain 88 = .ok (.areturn, 1) := by decide +kernel
set_option maxRecDepth 20000 in
theorem ggX5_isThrottled_Jx4a65c_size_8abf5 : GoodIn wsX5_isThrottled wsJx4a65c_size_8abf5 := goodIn_r _ [12, 13, 58, 59, 60] (by decide +kernel) (by decide +kernel)
set_option maxRecDepth 20000 in
theorem gX5_isThrottled_Jx4a65c_size_8abf5 : GoodIn wsX5_isThrottled (wsV RX5 80 RJx4a65c yJx4a65c_size_8abf5 wsJx4a65c_size_8abf5) := goodIn_app (goodIn_of _ (by decide +kernel)) ggX5_isThrottled_Jx4a65c_size_8abf5
set_option maxRecDepth 20000 in
theorem ggX5_isThrottled_Jx4a65c_get_915e3 : GoodIn wsX5_isThrottled wsJx4a65c_get_915e3 := goodIn_r _ [17, 13, 18, 19, 20, 21, 22, 23, 24, 25, 26, 27, 28, 11, 29, 30, 58, 59, 60] (by decide +kernel) (by decide +kernel)
set_option maxRecDepth 20000 in
theorem gX5_isThrottled_Jx4a65c_get_915e3 : GoodIn wsX5_isThrottled (wsV RX5 199 RJx4a65c yJx4a65c_get_915e3 wsJx4a65c_get_915e3) := goodIn_app (goodIn_of _ (by decide +kernel)) ggX5_isThrottled_Jx4a65c_get_915e3
theorem dX5_isThrottled_0 : decode cX5_isThrottled 0 = .ok (.iconst 0, 1) := by decide +kernel
theorem dX5_isThrottled_1 : decode cX5_isThrottled 1 = .ok (.istore_n 2, 1) := by decide +kernel
theorem dX5_isThrottled_2 : decode cX5_isThrottled 2 = .ok (.iconst 0, 1) := by decide +kernel
theorem dX5_isThrottled_3 : decode cX5_isThrottled 3 = .ok (.istore_n 3, 1) := by decide +kernel
theorem dX5_isThrottled_4 : decode cX5_isThrottled 4 = .ok (.iload_n 3, 1) := by decide +kernel
theorem dX5_isThrottled_5 : decode cX5_isThrottled 5 = .ok (.aload_n 0, 1) := by decide +kernel
theorem dX5_isThrottled_6 : decode cX5_isThrottled 6 = .ok (.getfield 26, 3) := by decide +kernel
theorem dX5_isThrottled_9 : decode cX5_isThrottled 9 = .ok (.invokevirtual 80, 3) := by decide +kernel
theorem dX5_isThrottled_12 : decode cX5_isThrottled 12 = .ok (.if_icmp .ge 51, 3) := by decide +kernel
theorem dX5_isThrottled_15 : decode cX5_isThrottled 15 = .ok (.aload_n 0, 1) := by decide +kernel
theorem dX5_isThrottled_16 : decode cX5_isThrottled 16 = .ok (.getfield 26, 3) := by decide +kernel
theorem dX5_isThrottled_19 : decode cX5_isThrottled 19 = .ok (.iload_n 3, 1) := by decide +kernel
theorem dX5_isThrottled_20 : decode cX5_isThrottled 20 = .ok (.invokevirtual 199, 3) := by decide +kernel
theorem dX5_isThrottled_23 : decode cX5_isThrottled 23 = .ok (.checkcast 72, 3) := by decide +kernel
theorem dX5_isThrottled_26 : decode cX5_isThrottled 26 = .ok (.astore 4, 2) := by decide +kernel
theorem dX5_isThrottled_28 : decode cX5_isThrottled 28 = .ok (.aload 4, 2) := by decide +kernel
theorem dX5_isThrottled_30 : decode cX5_isThrottled 30 = .ok (.getfield 236, 3) := by decide +kernel
theorem dX5_isThrottled_33 : decode cX5_isThrottled 33 = .ok (.aload_n 1, 1) := by decide +kernel
theorem dX5_isThrottled_34 : decode cX5_isThrottled 34 = .ok (.if_acmp .ne 23, 3) := by decide +kernel
theorem dX5_isThrottled_37 : decode cX5_isThrottled 37 = .ok (.aload_n 0, 1) := by decide +kernel
theorem dX5_isThrottled_38 : decode cX5_isThrottled 38 = .ok (.getfield 91, 3) := by decide +kernel
theorem dX5_isThrottled_41 : decode cX5_isThrottled 41 = .ok (.aload 4, 2) := by decide +kernel
theorem dX5_isThrottled_43 : decode cX5_isThrottled 43 = .ok (.getfield 233, 3) := by decide +kernel
theorem dX5_isThrottled_46 : decode cX5_isThrottled 46 = .ok (.isub, 1) := by decide +kernel
theorem dX5_isThrottled_47 : decode cX5_isThrottled 47 = .ok (.aload_n 1, 1) := by decide +kernel
theorem dX5_isThrottled_48 : decode cX5_isThrottled 48 = .ok (.getfield 60, 3) := by decide +kernel
theorem dX5_isThrottled_51 : decode cX5_isThrottled 51 = .ok (.if_icmp .ge 6, 3) := by decide +kernel
theorem dX5_isThrottled_54 : decode cX5_isThrottled 54 = .ok (.iinc 2 1, 3) := by decide +kernel
theorem dX5_isThrottled_57 : decode cX5_isThrottled 57 = .ok (.iinc 3 1, 3) := by decide +kernel
theorem dX5_isThrottled_60 : decode cX5_isThrottled 60 = .ok (.goto (-56), 3) := by decide +kernel
theorem dX5_isThrottled_63 : decode cX5_isThrottled 63 = .ok (.iload_n 2, 1) := by decide +kernel
theorem dX5_isThrottled_64 : decode cX5_isThrottled 64 = .ok (.aload_n 1, 1) := by decide +kernel
theorem dX5_isThrottled_65 : decode cX5_isThrottled 65 = .ok (.getfield 57, 3) := by decide +kernel
theorem dX5_isThrottled_68 : decode cX5_isThrottled 68 = .ok (.if_icmp .lt 7, 3) := by decide +kernel
theorem dX5_isThrottled_71 : decode cX5_isThrottled 71 = .ok (.iconst 1, 1) := by decide +kernel
theorem dX5_isThrottled_72 : decode cX5_isThrottled 72 = .ok (.goto 4, 3) := by decide +kernel
theorem dX5_isThrottled_75 : decode cX5_isThrottled 75 = .ok (.iconst 0, 1) := by decide +kernel
theorem dX5_isThrottled_76 : decode cX5_isThrottled 76 = .ok (.ireturn, 1) := by decide +kernel
set_option maxRecDepth 20000 in
theorem ggX5_deleteReplacedBy_Jx4a65c_size_8abf5 : GoodIn wsX5_deleteReplacedBy wsJx4a65c_size_8abf5 := goodIn_r _ [13, 14, 144, 145, 146] (by decide +kernel) (by decide +kernel)
set_option maxRecDepth 20000 in
theorem gX5_deleteReplacedBy_Jx4a65c_size_8abf5 : GoodIn wsX5_deleteReplacedBy (wsV RX5 80 RJx4a65c yJx4a65c_size_8abf5 wsJx4a65c_size_8abf5) := goodIn_app (goodIn_of _ (by decide +kernel)) ggX5_deleteReplacedBy_Jx4a65c_size_8abf5
set_option maxRecDepth 20000 in
theorem ggX5_deleteReplacedBy_Jx4a65c_get_915e3 : GoodIn wsX5_deleteReplacedBy wsJx4a65c_get_915e3 := goodIn_r _ [18, 14, 19, 20, 21, 22, 23, 24, 25, 26, 27, 28, 29, 12, 30, 31, 144, 145, 146] (by decide +kernel) (by decide +kernel)
set_option maxRecDepth 20000 in
theorem gX5_deleteReplacedBy_Jx4a65c_get_915e3 : GoodIn wsX5_deleteReplacedBy (wsV RX5 199 RJx4a65c yJx4a65c_get_915e3 wsJx4a65c_get_915e3) := goodIn_app (goodIn_of _ (by decide +kernel)) ggX5_deleteReplacedBy_Jx4a65c_get_915e3
set_option maxRecDepth 20000 in
theorem ggX5_deleteReplacedBy_X3_goesBetween : GoodIn wsX5_deleteReplacedBy wsX3_goesBetween := goodIn_r _ [36, 37, 38, 124, 125, 126, 127, 128, 129, 130, 131, 132, 133, 134, 135, 136, 137, 138, 139] (by decide +kernel) (by decide +kernel)
set_option maxRecDepth 20000 in
theorem gX5_deleteReplacedBy_X3_goesBetween : GoodIn wsX5_deleteReplacedBy (wsV RX5 228 RX3 yX3_goesBetween wsX3_goesBetween) := goodIn_app (goodIn_of _ (by decide +kernel)) ggX5_deleteReplacedBy_X3_goesBetween
set_option maxRecDepth 20000 in
theorem ggX5_deleteReplacedBy_X3_finish : GoodIn wsX5_deleteReplacedBy wsX3_finish := goodIn_r _ [42, 43, 44, 38, 45, 37, 46, 47, 48, 49, 50, 51, 52, 53, 54, 55, 56, 57, 58, 59, 60, 10, 11, 12, 13, 14, 61, 16, 17, 18, 19, 20, 21, 22, 23, 24, 25, 26, 27, 28, 29, 30, 31, 62, 63, 64, 65, 66, 67, 68, 69, 70, 71, 72, 73, 74, 75, 76, 77, 78, 79, 80, 81, 82, 83, 84, 85, 86, 87, 88, 89, 90, 91, 92, 93, 94, 95, 96, 97, 98, 99, 100, 101, 102, 103, 104, 105, 106, 107, 108, 109, 110, 111, 112, 113, 114, 115, 116, 117, 118, 119, 120, 121, 122, 123, 124, 125, 126, 127, 128, 129, 130, 131, 132, 133, 134, 135, 136, 137, 138, 139, 147, 148, 149, 150, 151, 152, 153, 154, 155, 156, 157, 158, 159, 160, 144, 145, 146] (by decide +kernel) (by decide +kernel)
set_option maxRecDepth 20000 in
theorem gX5_deleteReplacedBy_X3_finish : GoodIn wsX5_deleteReplacedBy (wsV RX5 112 RX3 yX3_finish wsX3_finish) := goodIn_app (goodIn_of _ (by decide +kernel)) ggX5_deleteReplacedBy_X3_finish
theorem dX5_deleteReplacedBy_0 : decode cX5_deleteReplacedBy 0 = .ok (.aload_n 1, 1) := by decide +kernel
theorem dX5_deleteReplacedBy_1 : decode cX5_deleteReplacedBy 1 = .ok (.getfield 240, 3) := by decide +kernel
theorem dX5_deleteReplacedBy_4 : decode cX5_deleteReplacedBy 4 = .ok (.ifCond .ne 4, 3) := by decide +kernel
theorem dX5_deleteReplacedBy_7 : decode cX5_deleteReplacedBy 7 = .ok (.return_, 1) := by decide +kernel
theorem dX5_deleteReplacedBy_8 : decode cX5_deleteReplacedBy 8 = .ok (.iconst 0, 1) := by decide +kernel
theorem dX5_deleteReplacedBy_9 : decode cX5_deleteReplacedBy 9 = .ok (.istore_n 2, 1) := by decide +kernel
theorem dX5_deleteReplacedBy_10 : decode cX5_deleteReplacedBy 10 = .ok (.iload_n 2, 1) := by decide +kernel
theorem dX5_deleteReplacedBy_11 : decode cX5_deleteReplacedBy 11 = .ok (.aload_n 1, 1) := by decide +kernel
theorem dX5_deleteReplacedBy_12 : decode cX5_deleteReplacedBy 12 = .ok (.getfield 71, 3) := by decide +kernel
theorem dX5_deleteReplacedBy_15 : decode cX5_deleteReplacedBy 15 = .ok (.if_icmp .ge 77, 3) := by decide +kernel
theorem dX5_deleteReplacedBy_18 : decode cX5_deleteReplacedBy 18 = .ok (.iload_n 2, 1) := by decide +kernel
theorem dX5_deleteReplacedBy_19 : decode cX5_deleteReplacedBy 19 = .ok (.aload_n 0, 1) := by decide +kernel
theorem dX5_deleteReplacedBy_20 : decode cX5_deleteReplacedBy 20 = .ok (.getfield 26, 3) := by decide +kernel
theorem dX5_deleteReplacedBy_23 : decode cX5_deleteReplacedBy 23 = .ok (.invokevirtual 80, 3) := by decide +kernel
theorem dX5_deleteReplacedBy_26 : decode cX5_deleteReplacedBy 26 = .ok (.if_icmp .ge 66, 3) := by decide +kernel
theorem dX5_deleteReplacedBy_29 : decode cX5_deleteReplacedBy 29 = .ok (.aload_n 0, 1) := by decide +kernel
theorem dX5_deleteReplacedBy_30 : decode cX5_deleteReplacedBy 30 = .ok (.getfield 26, 3) := by decide +kernel
theorem dX5_deleteReplacedBy_33 : decode cX5_deleteReplacedBy 33 = .ok (.iload_n 2, 1) := by decide +kernel
theorem dX5_deleteReplacedBy_34 : decode cX5_deleteReplacedBy 34 = .ok (.invokevirtual 199, 3) := by decide +kernel
theorem dX5_deleteReplacedBy_37 : decode cX5_deleteReplacedBy 37 = .ok (.checkcast 72, 3) := by decide +kernel
theorem dX5_deleteReplacedBy_40 : decode cX5_deleteReplacedBy 40 = .ok (.astore_n 3, 1) := by decide +kernel
theorem dX5_deleteReplacedBy_41 : decode cX5_deleteReplacedBy 41 = .ok (.aload_n 3, 1) := by decide +kernel
theorem dX5_deleteReplacedBy_42 : decode cX5_deleteReplacedBy 42 = .ok (.getfield 122, 3) := by decide +kernel
theorem dX5_deleteReplacedBy_45 : decode cX5_deleteReplacedBy 45 = .ok (.ifCond .ne 41, 3) := by decide +kernel
theorem dX5_deleteReplacedBy_48 : decode cX5_deleteReplacedBy 48 = .ok (.aload_n 3, 1) := by decide +kernel
theorem dX5_deleteReplacedBy_49 : decode cX5_deleteReplacedBy 49 = .ok (.getfield 116, 3) := by decide +kernel
theorem dX5_deleteReplacedBy_52 : decode cX5_deleteReplacedBy 52 = .ok (.ifCond .ne 34, 3) := by decide +kernel
theorem dX5_deleteReplacedBy_55 : decode cX5_deleteReplacedBy 55 = .ok (.aload_n 3, 1) := by decide +kernel
theorem dX5_deleteReplacedBy_56 : decode cX5_deleteReplacedBy 56 = .ok (.getfield 240, 3) := by decide +kernel
theorem dX5_deleteReplacedBy_59 : decode cX5_deleteReplacedBy 59 = .ok (.aload_n 1, 1) := by decide +kernel
theorem dX5_deleteReplacedBy_60 : decode cX5_deleteReplacedBy 60 = .ok (.getfield 240, 3) := by decide +kernel
theorem dX5_deleteReplacedBy_63 : decode cX5_deleteReplacedBy 63 = .ok (.if_icmp .ne 23, 3) := by decide +kernel
theorem dX5_deleteReplacedBy_66 : decode cX5_deleteReplacedBy 66 = .ok (.aload_n 3, 1) := by decide +kernel
theorem dX5_deleteReplacedBy_67 : decode cX5_deleteReplacedBy 67 = .ok (.aload_n 1, 1) := by decide +kernel
theorem dX5_deleteReplacedBy_68 : decode cX5_deleteReplacedBy 68 = .ok (.getfield 236, 3) := by decide +kernel
theorem dX5_deleteReplacedBy_71 : decode cX5_deleteReplacedBy 71 = .ok (.aload_n 1, 1) := by decide +kernel
theorem dX5_deleteReplacedBy_72 : decode cX5_deleteReplacedBy 72 = .ok (.getfield 241, 3) := by decide +kernel
theorem dX5_deleteReplacedBy_75 : decode cX5_deleteReplacedBy 75 = .ok (.invokevirtual 228, 3) := by decide +kernel
theorem dX5_deleteReplacedBy_78 : decode cX5_deleteReplacedBy 78 = .ok (.ifCond .eq 8, 3) := by decide +kernel
theorem dX5_deleteReplacedBy_81 : decode cX5_deleteReplacedBy 81 = .ok (.aload_n 3, 1) := by decide +kernel
theorem dX5_deleteReplacedBy_82 : decode cX5_deleteReplacedBy 82 = .ok (.iconst 3, 1) := by decide +kernel
theorem dX5_deleteReplacedBy_83 : decode cX5_deleteReplacedBy 83 = .ok (.invokevirtual 112, 3) := by decide +kernel
theorem dX5_deleteReplacedBy_86 : decode cX5_deleteReplacedBy 86 = .ok (.iinc 2 1, 3) := by decide +kernel
theorem dX5_deleteReplacedBy_89 : decode cX5_deleteReplacedBy 89 = .ok (.goto (-79), 3) := by decide +kernel
theorem dX5_deleteReplacedBy_92 : decode cX5_deleteReplacedBy 92 = .ok (.return_, 1) := by decide +kernel
set_option maxRecDepth 20000 in
theorem ggX5_expireMessages_Jx4a65c_size_8abf5 : GoodIn wsX5_expireMessages wsJx4a65c_size_8abf5 := goodIn_r _ [11, 12, 138, 139, 140] (by decide +kernel) (by decide +kernel)
set_option maxRecDepth 20000 in
theorem gX5_expireMessages_Jx4a65c_size_8abf5 : GoodIn wsX5_expireMessages (wsV RX5 80 RJx4a65c yJx4a65c_size_8abf5 wsJx4a65c_size_8abf5) := goodIn_app (goodIn_of _ (by decide +kernel)) ggX5_expireMessages_Jx4a65c_size_8abf5
set_option maxRecDepth 20000 in
theorem ggX5_expireMessages_Jx4a65c_get_915e3 : GoodIn wsX5_expireMessages wsJx4a65c_get_915e3 := goodIn_r _ [16, 12, 17, 18, 19, 20, 21, 22, 23, 24, 25, 26, 27, 10, 28, 29, 138, 139, 140] (by decide +kernel) (by decide +kernel)
set_option maxRecDepth 20000 in
theorem gX5_expireMessages_Jx4a65c_get_915e3 : GoodIn wsX5_expireMessages (wsV RX5 199 RJx4a65c yJx4a65c_get_915e3 wsJx4a65c_get_915e3) := goodIn_app (goodIn_of _ (by decide +kernel)) ggX5_expireMessages_Jx4a65c_get_915e3
set_option maxRecDepth 20000 in
theorem ggX5_expireMessages_X3_finish : GoodIn wsX5_expireMessages wsX3_finish := goodIn_r _ [34, 35, 36, 37, 38, 39, 40, 41, 42, 43, 44, 45, 46, 47, 48, 49, 50, 51, 52, 53, 54, 8, 9, 10, 11, 12, 55, 14, 15, 16, 17, 18, 19, 20, 21, 22, 23, 24, 25, 26, 27, 28, 29, 56, 57, 58, 59, 60, 61, 62, 63, 64, 65, 66, 67, 68, 69, 70, 71, 72, 73, 74, 75, 76, 77, 78, 79, 80, 81, 82, 83, 84, 85, 86, 87, 88, 89, 90, 91, 92, 93, 94, 95, 96, 97, 98, 99, 100, 101, 102, 103, 104, 105, 106, 107, 108, 109, 110, 111, 112, 113, 114, 115, 116, 117, 122, 123, 124, 125, 126, 127, 128, 129, 130, 131, 132, 133, 134, 135, 136, 137, 141, 142, 143, 144, 145, 146, 147, 148, 149, 150, 151, 152, 153, 154, 138, 139, 140] (by decide +kernel) (by decide +kernel)
set_option maxRecDepth 20000 in
theorem gX5_expireMessages_X3_finish : GoodIn wsX5_expireMessages (wsV RX5 112 RX3 yX3_finish wsX3_finish) := goodIn_app (goodIn_of _ (by decide +kernel)) ggX5_expireMessages_X3_finish
theorem dX5_expireMessages_0 : decode cX5_expireMessages 0 = .ok (.iconst 0, 1) := by decide +kernel
theorem dX5_expireMessages_1 : decode cX5_expireMessages 1 = .ok (.istore_n 1, 1) := by decide +kernel
theorem dX5_expireMessages_2 : decode cX5_expireMessages 2 = .ok (.iload_n 1, 1) := by decide +kernel
theorem dX5_expireMessages_3 : decode cX5_expireMessages 3 = .ok (.aload_n 0, 1) := by decide +kernel
theorem dX5_expireMessages_4 : decode cX5_expireMessages 4 = .ok (.getfield 26, 3) := by decide +kernel
theorem dX5_expireMessages_7 : decode cX5_expireMessages 7 = .ok (.invokevirtual 80, 3) := by decide +kernel
theorem dX5_expireMessages_10 : decode cX5_expireMessages 10 = .ok (.if_icmp .ge 49, 3) := by decide +kernel
theorem dX5_expireMessages_13 : decode cX5_expireMessages 13 = .ok (.aload_n 0, 1) := by decide +kernel
theorem dX5_expireMessages_14 : decode cX5_expireMessages 14 = .ok (.getfield 26, 3) := by decide +kernel
theorem dX5_expireMessages_17 : decode cX5_expireMessages 17 = .ok (.iload_n 1, 1) := by decide +kernel
theorem dX5_expireMessages_18 : decode cX5_expireMessages 18 = .ok (.invokevirtual 199, 3) := by decide +kernel
theorem dX5_expireMessages_21 : decode cX5_expireMessages 21 = .ok (.checkcast 72, 3) := by decide +kernel
theorem dX5_expireMessages_24 : decode cX5_expireMessages 24 = .ok (.astore_n 2, 1) := by decide +kernel
theorem dX5_expireMessages_25 : decode cX5_expireMessages 25 = .ok (.aload_n 2, 1) := by decide +kernel
theorem dX5_expireMessages_26 : decode cX5_expireMessages 26 = .ok (.getfield 122, 3) := by decide +kernel
theorem dX5_expireMessages_29 : decode cX5_expireMessages 29 = .ok (.ifCond .ne 24, 3) := by decide +kernel
theorem dX5_expireMessages_32 : decode cX5_expireMessages 32 = .ok (.aload_n 0, 1) := by decide +kernel
theorem dX5_expireMessages_33 : decode cX5_expireMessages 33 = .ok (.getfield 91, 3) := by decide +kernel
theorem dX5_expireMessages_36 : decode cX5_expireMessages 36 = .ok (.aload_n 2, 1) := by decide +kernel
theorem dX5_expireMessages_37 : decode cX5_expireMessages 37 = .ok (.getfield 233, 3) := by decide +kernel
theorem dX5_expireMessages_40 : decode cX5_expireMessages 40 = .ok (.isub, 1) := by decide +kernel
theorem dX5_expireMessages_41 : decode cX5_expireMessages 41 = .ok (.aload_n 2, 1) := by decide +kernel
theorem dX5_expireMessages_42 : decode cX5_expireMessages 42 = .ok (.getfield 245, 3) := by decide +kernel
theorem dX5_expireMessages_45 : decode cX5_expireMessages 45 = .ok (.if_icmp .lt 8, 3) := by decide +kernel
theorem dX5_expireMessages_48 : decode cX5_expireMessages 48 = .ok (.aload_n 2, 1) := by decide +kernel
theorem dX5_expireMessages_49 : decode cX5_expireMessages 49 = .ok (.iconst 2, 1) := by decide +kernel
theorem dX5_expireMessages_50 : decode cX5_expireMessages 50 = .ok (.invokevirtual 112, 3) := by decide +kernel
theorem dX5_expireMessages_53 : decode cX5_expireMessages 53 = .ok (.iinc 1 1, 3) := by decide +kernel
theorem dX5_expireMessages_56 : decode cX5_expireMessages 56 = .ok (.goto (-54), 3) := by decide +kernel
theorem dX5_expireMessages_59 : decode cX5_expireMessages 59 = .ok (.return_, 1) := by decide +kernel
set_option maxRecDepth 20000 in
theorem ggX5_attemptFor_X4_firstDueUntil : GoodIn wsX5_attemptFor wsX4_firstDueUntil := goodIn_r _ [10, 11, 12, 13, 14, 15, 16, 17, 18, 19, 20, 21, 22, 23, 24, 25, 26, 27, 28, 29, 30, 31, 32, 33, 34, 35, 36, 37, 38, 39, 40, 41, 42, 43, 182, 183, 184, 185, 186, 166, 167, 168, 169, 170, 171, 172, 173, 174, 175, 176, 177, 178, 179, 180, 181, 187, 188, 189] (by decide +kernel) (by decide +kernel)
set_option maxRecDepth 20000 in
theorem gX5_attemptFor_X4_firstDueUntil : GoodIn wsX5_attemptFor (wsV RX5 176 RX4 yX4_firstDueUntil wsX4_firstDueUntil) := goodIn_app (goodIn_of _ (by decide +kernel)) ggX5_attemptFor_X4_firstDueUntil
set_option maxRecDepth 20000 in
theorem ggX5_attemptFor_X3_finish : GoodIn wsX5_attemptFor wsX3_finish := goodIn_r _ [47, 48, 49, 50, 51, 52, 53, 54, 55, 56, 57, 58, 59, 60, 61, 62, 63, 9, 64, 11, 14, 15, 16, 17, 18, 19, 20, 21, 22, 23, 24, 25, 26, 27, 28, 29, 30, 31, 32, 33, 34, 35, 36, 65, 66, 67, 68, 69, 70, 71, 72, 73, 74, 75, 76, 77, 78, 79, 80, 81, 82, 83, 84, 85, 86, 87, 88, 89, 90, 91, 92, 93, 94, 95, 96, 97, 98, 99, 100, 101, 102, 103, 104, 105, 106, 107, 108, 109, 110, 111, 112, 113, 114, 115, 116, 117, 118, 119, 120, 121, 122, 123, 124, 125, 126, 166, 167, 168, 169, 170, 171, 172, 173, 174, 175, 176, 177, 178, 179, 180, 181, 190, 191, 192, 193, 194, 195, 196, 197, 198, 182, 183, 184, 185, 186, 187, 188, 189] (by decide +kernel) (by decide +kernel)
set_option maxRecDepth 20000 in
theorem gX5_attemptFor_X3_finish : GoodIn wsX5_attemptFor (wsV RX5 112 RX3 yX3_finish wsX3_finish) := goodIn_app (goodIn_of _ (by decide +kernel)) ggX5_attemptFor_X3_finish
set_option maxRecDepth 20000 in
theorem ggX5_attemptFor_X4_causeToFail : GoodIn wsX5_attemptFor wsX4_causeToFail := goodIn_r _ [130, 131, 132, 133, 134, 135, 136, 182, 183, 184, 185, 186] (by decide +kernel) (by decide +kernel)
set_option maxRecDepth 20000 in
theorem gX5_attemptFor_X4_causeToFail : GoodIn wsX5_attemptFor (wsV RX5 248 RX4 yX4_causeToFail wsX4_causeToFail) := goodIn_app (goodIn_of _ (by decide +kernel)) ggX5_attemptFor_X4_causeToFail
set_option maxRecDepth 20000 in
theorem ggX5_attemptFor_X3_arrive : GoodIn wsX5_attemptFor wsX3_arrive := goodIn_r _ [140, 50, 141, 142, 43, 143, 49, 144, 145, 146, 112, 147, 54, 55, 56, 57, 58, 59, 60, 148, 45, 46, 40, 47, 48, 51, 52, 53, 61, 62, 63, 9, 64, 11, 14, 15, 16, 17, 18, 19, 20, 21, 22, 23, 24, 25, 26, 27, 28, 29, 30, 31, 32, 33, 34, 35, 36, 65, 66, 67, 68, 69, 70, 71, 72, 73, 74, 75, 76, 77, 78, 79, 80, 81, 82, 83, 84, 85, 86, 87, 88, 89, 90, 91, 92, 93, 94, 95, 96, 97, 98, 99, 100, 101, 102, 103, 104, 105, 106, 107, 108, 109, 110, 111, 113, 114, 115, 116, 117, 118, 119, 120, 121, 122, 123, 124, 125, 126, 166, 167, 168, 169, 170, 171, 172, 173, 174, 175, 176, 177, 178, 179, 180, 181, 182, 183, 184, 185, 186, 197, 198, 190, 191, 192, 193, 194, 195, 196, 187, 188, 189] (by decide +kernel) (by decide +kernel)
set_option maxRecDepth 20000 in
theorem gX5_attemptFor_X3_arrive : GoodIn wsX5_attemptFor (wsV RX5 252 RX3 yX3_arrive wsX3_arrive) := goodIn_app (goodIn_of _ (by decide +kernel)) ggX5_attemptFor_X3_arrive
set_option maxRecDepth 20000 in
theorem ggX5_attemptFor_X3_fail : GoodIn wsX5_attemptFor wsX3_fail := goodIn_r _ [152, 153, 143, 43, 49, 154, 155, 156, 157, 158, 159, 160, 124, 98, 125, 161, 97, 99, 54, 55, 56, 57, 58, 59, 60, 166, 167, 168, 169, 170, 171, 172, 173, 174, 175, 176, 177, 178, 179, 180, 181, 197, 198] (by decide +kernel) (by decide +kernel)
set_option maxRecDepth 20000 in
theorem gX5_attemptFor_X3_fail : GoodIn wsX5_attemptFor (wsV RX5 255 RX3 yX3_fail wsX3_fail) := goodIn_app (goodIn_of _ (by decide +kernel)) ggX5_attemptFor_X3_fail
theorem dX5_attemptFor_0 : decode cX5_attemptFor 0 = .ok (.aload_n 1, 1) := by decide +kernel
theorem dX5_attemptFor_1 : decode cX5_attemptFor 1 = .ok (.aload_n 0, 1) := by decide +kernel
theorem dX5_attemptFor_2 : decode cX5_attemptFor 2 = .ok (.getfield 91, 3) := by decide +kernel
theorem dX5_attemptFor_5 : decode cX5_attemptFor 5 = .ok (.invokevirtual 176, 3) := by decide +kernel
theorem dX5_attemptFor_8 : decode cX5_attemptFor 8 = .ok (.astore_n 2, 1) := by decide +kernel
theorem dX5_attemptFor_9 : decode cX5_attemptFor 9 = .ok (.aload_n 2, 1) := by decide +kernel
theorem dX5_attemptFor_10 : decode cX5_attemptFor 10 = .ok (.ifnonnull 5, 3) := by decide +kernel
theorem dX5_attemptFor_13 : decode cX5_attemptFor 13 = .ok (.iconst 0, 1) := by decide +kernel
theorem dX5_attemptFor_14 : decode cX5_attemptFor 14 = .ok (.ireturn, 1) := by decide +kernel
theorem dX5_attemptFor_15 : decode cX5_attemptFor 15 = .ok (.aload_n 2, 1) := by decide +kernel
theorem dX5_attemptFor_16 : decode cX5_attemptFor 16 = .ok (.dup, 1) := by decide +kernel
theorem dX5_attemptFor_17 : decode cX5_attemptFor 17 = .ok (.getfield 143, 3) := by decide +kernel
theorem dX5_attemptFor_20 : decode cX5_attemptFor 20 = .ok (.iconst 1, 1) := by decide +kernel
theorem dX5_attemptFor_21 : decode cX5_attemptFor 21 = .ok (.iadd, 1) := by decide +kernel
theorem dX5_attemptFor_22 : decode cX5_attemptFor 22 = .ok (.putfield 143, 3) := by decide +kernel
theorem dX5_attemptFor_25 : decode cX5_attemptFor 25 = .ok (.aload_n 1, 1) := by decide +kernel
theorem dX5_attemptFor_26 : decode cX5_attemptFor 26 = .ok (.getfield 149, 3) := by decide +kernel
theorem dX5_attemptFor_29 : decode cX5_attemptFor 29 = .ok (.iconst 3, 1) := by decide +kernel
theorem dX5_attemptFor_30 : decode cX5_attemptFor 30 = .ok (.if_icmp .ne 10, 3) := by decide +kernel
theorem dX5_attemptFor_33 : decode cX5_attemptFor 33 = .ok (.aload_n 2, 1) := by decide +kernel
theorem dX5_attemptFor_34 : decode cX5_attemptFor 34 = .ok (.iconst 4, 1) := by decide +kernel
theorem dX5_attemptFor_35 : decode cX5_attemptFor 35 = .ok (.invokevirtual 112, 3) := by decide +kernel
theorem dX5_attemptFor_38 : decode cX5_attemptFor 38 = .ok (.iconst 0, 1) := by decide +kernel
theorem dX5_attemptFor_39 : decode cX5_attemptFor 39 = .ok (.ireturn, 1) := by decide +kernel
theorem dX5_attemptFor_40 : decode cX5_attemptFor 40 = .ok (.aload_n 1, 1) := by decide +kernel
theorem dX5_attemptFor_41 : decode cX5_attemptFor 41 = .ok (.invokevirtual 248, 3) := by decide +kernel
theorem dX5_attemptFor_44 : decode cX5_attemptFor 44 = .ok (.astore_n 3, 1) := by decide +kernel
theorem dX5_attemptFor_45 : decode cX5_attemptFor 45 = .ok (.aload_n 3, 1) := by decide +kernel
theorem dX5_attemptFor_46 : decode cX5_attemptFor 46 = .ok (.ifnonnull 13, 3) := by decide +kernel
theorem dX5_attemptFor_49 : decode cX5_attemptFor 49 = .ok (.aload_n 2, 1) := by decide +kernel
theorem dX5_attemptFor_50 : decode cX5_attemptFor 50 = .ok (.aload_n 0, 1) := by decide +kernel
theorem dX5_attemptFor_51 : decode cX5_attemptFor 51 = .ok (.getfield 91, 3) := by decide +kernel
theorem dX5_attemptFor_54 : decode cX5_attemptFor 54 = .ok (.invokevirtual 252, 3) := by decide +kernel
theorem dX5_attemptFor_57 : decode cX5_attemptFor 57 = .ok (.iconst 1, 1) := by decide +kernel
theorem dX5_attemptFor_58 : decode cX5_attemptFor 58 = .ok (.ireturn, 1) := by decide +kernel
theorem dX5_attemptFor_59 : decode cX5_attemptFor 59 = .ok (.aload_n 2, 1) := by decide +kernel
theorem dX5_attemptFor_60 : decode cX5_attemptFor 60 = .ok (.aload_n 3, 1) := by decide +kernel
theorem dX5_attemptFor_61 : decode cX5_attemptFor 61 = .ok (.aload_n 0, 1) := by decide +kernel
theorem dX5_attemptFor_62 : decode cX5_attemptFor 62 = .ok (.getfield 91, 3) := by decide +kernel
theorem dX5_attemptFor_65 : decode cX5_attemptFor 65 = .ok (.invokevirtual 255, 3) := by decide +kernel
theorem dX5_attemptFor_68 : decode cX5_attemptFor 68 = .ok (.aload_n 1, 1) := by decide +kernel
theorem dX5_attemptFor_69 : decode cX5_attemptFor 69 = .ok (.dup, 1) := by decide +kernel
theorem dX5_attemptFor_70 : decode cX5_attemptFor 70 = .ok (.getfield 172, 3) := by decide +kernel
theorem dX5_attemptFor_73 : decode cX5_attemptFor 73 = .ok (.aload_n 3, 1) := by decide +kernel
theorem dX5_attemptFor_74 : decode cX5_attemptFor 74 = .ok (.getfield 259, 3) := by decide +kernel
theorem dX5_attemptFor_77 : decode cX5_attemptFor 77 = .ok (.ior, 1) := by decide +kernel
theorem dX5_attemptFor_78 : decode cX5_attemptFor 78 = .ok (.putfield 172, 3) := by decide +kernel
theorem dX5_attemptFor_81 : decode cX5_attemptFor 81 = .ok (.iconst 0, 1) := by decide +kernel
theorem dX5_attemptFor_82 : decode cX5_attemptFor 82 = .ok (.ireturn, 1) := by decide +kernel
set_option maxRecDepth 20000 in
theorem ggX5_wakeIfRoomAgain_X4_wakeFrom : GoodIn wsX5_wakeIfRoomAgain wsX4_wakeFrom := goodIn_r _ [8, 9, 10, 11, 12, 13, 14, 15, 16, 17, 18, 19, 20, 21, 22, 23, 24, 25, 26, 27, 28, 29, 30, 31, 32, 33, 34, 35, 36, 37, 38, 39, 40, 41, 42, 43, 44, 49, 50, 51, 52, 53, 54, 55, 56, 57, 58, 59, 60, 61, 62, 63, 64, 65, 66, 67] (by decide +kernel) (by decide +kernel)
set_option maxRecDepth 20000 in
theorem gX5_wakeIfRoomAgain_X4_wakeFrom : GoodIn wsX5_wakeIfRoomAgain (wsV RX5 152 RX4 yX4_wakeFrom wsX4_wakeFrom) := goodIn_app (goodIn_of _ (by decide +kernel)) ggX5_wakeIfRoomAgain_X4_wakeFrom
theorem dX5_wakeIfRoomAgain_0 : decode cX5_wakeIfRoomAgain 0 = .ok (.aload_n 1, 1) := by decide +kernel
theorem dX5_wakeIfRoomAgain_1 : decode cX5_wakeIfRoomAgain 1 = .ok (.getfield 163, 3) := by decide +kernel
theorem dX5_wakeIfRoomAgain_4 : decode cX5_wakeIfRoomAgain 4 = .ok (.aload_n 1, 1) := by decide +kernel
theorem dX5_wakeIfRoomAgain_5 : decode cX5_wakeIfRoomAgain 5 = .ok (.getfield 156, 3) := by decide +kernel
theorem dX5_wakeIfRoomAgain_8 : decode cX5_wakeIfRoomAgain 8 = .ok (.if_icmp .ge 12, 3) := by decide +kernel
theorem dX5_wakeIfRoomAgain_11 : decode cX5_wakeIfRoomAgain 11 = .ok (.aload_n 1, 1) := by decide +kernel
theorem dX5_wakeIfRoomAgain_12 : decode cX5_wakeIfRoomAgain 12 = .ok (.iconst 2, 1) := by decide +kernel
theorem dX5_wakeIfRoomAgain_13 : decode cX5_wakeIfRoomAgain 13 = .ok (.aload_n 0, 1) := by decide +kernel
theorem dX5_wakeIfRoomAgain_14 : decode cX5_wakeIfRoomAgain 14 = .ok (.getfield 91, 3) := by decide +kernel
theorem dX5_wakeIfRoomAgain_17 : decode cX5_wakeIfRoomAgain 17 = .ok (.invokevirtual 152, 3) := by decide +kernel
theorem dX5_wakeIfRoomAgain_20 : decode cX5_wakeIfRoomAgain 20 = .ok (.return_, 1) := by decide +kernel
theorem dJ9_max_7cf53_0 : decode cJ9_max_7cf53 0 = .ok (.iload_n 0, 1) := by decide +kernel
theorem dJ9_max_7cf53_1 : decode cJ9_max_7cf53 1 = .ok (.iload_n 1, 1) := by decide +kernel
theorem dJ9_max_7cf53_2 : decode cJ9_max_7cf53 2 = .ok (.if_icmp .lt 7, 3) := by decide +kernel
theorem dJ9_max_7cf53_5 : decode cJ9_max_7cf53 5 = .ok (.iload_n 0, 1) := by decide +kernel
theorem dJ9_max_7cf53_6 : decode cJ9_max_7cf53 6 = .ok (.goto 4, 3) := by decide +kernel
theorem dJ9_max_7cf53_9 : decode cJ9_max_7cf53 9 = .ok (.iload_n 1, 1) := by decide +kernel
theorem dJ9_max_7cf53_10 : decode cJ9_max_7cf53 10 = .ok (.ireturn, 1) := by decide +kernel
theorem dJ9_min_7cf53_0 : decode cJ9_min_7cf53 0 = .ok (.iload_n 0, 1) := by decide +kernel
theorem dJ9_min_7cf53_1 : decode cJ9_min_7cf53 1 = .ok (.iload_n 1, 1) := by decide +kernel
theorem dJ9_min_7cf53_2 : decode cJ9_min_7cf53 2 = .ok (.if_icmp .gt 7, 3) := by decide +kernel
theorem dJ9_min_7cf53_5 : decode cJ9_min_7cf53 5 = .ok (.iload_n 0, 1) := by decide +kernel
theorem dJ9_min_7cf53_6 : decode cJ9_min_7cf53 6 = .ok (.goto 4, 3) := by decide +kernel
theorem dJ9_min_7cf53_9 : decode cJ9_min_7cf53 9 = .ok (.iload_n 1, 1) := by decide +kernel
theorem dJ9_min_7cf53_10 : decode cJ9_min_7cf53 10 = .ok (.ireturn, 1) := by decide +kernel
theorem dJxa1e45_init_da8c8_0 : decode cJxa1e45_init_da8c8 0 = .ok (.aload_n 0, 1) := by decide +kernel
theorem dJxa1e45_init_da8c8_1 : decode cJxa1e45_init_da8c8 1 = .ok (.invokespecial 1, 3) := by decide +kernel
theorem dJxa1e45_init_da8c8_4 : decode cJxa1e45_init_da8c8 4 = .ok (.return_, 1) := by decide +kernel
set_option maxRecDepth 20000 in
theorem ggJxc12de_init_da8c8_Jxa1e45_init_da8c8 : GoodIn wsJxc12de_init_da8c8 wsJxa1e45_init_da8c8 := goodIn_r _ [5, 6, 7, 8] (by decide +kernel) (by decide +kernel)
set_option maxRecDepth 20000 in
theorem gJxc12de_init_da8c8_Jxa1e45_init_da8c8 : GoodIn wsJxc12de_init_da8c8 (wsJxa1e45_init_da8c8) := ggJxc12de_init_da8c8_Jxa1e45_init_da8c8
theorem dJxc12de_init_da8c8_0 : decode cJxc12de_init_da8c8 0 = .ok (.aload_n 0, 1) := by decide +kernel
theorem dJxc12de_init_da8c8_1 : decode cJxc12de_init_da8c8 1 = .ok (.invokespecial 1, 3) := by decide +kernel
theorem dJxc12de_init_da8c8_4 : decode cJxc12de_init_da8c8 4 = .ok (.aload_n 0, 1) := by decide +kernel
theorem dJxc12de_init_da8c8_5 : decode cJxc12de_init_da8c8 5 = .ok (.iconst 0, 1) := by decide +kernel
theorem dJxc12de_init_da8c8_6 : decode cJxc12de_init_da8c8 6 = .ok (.putfield 7, 3) := by decide +kernel
theorem dJxc12de_init_da8c8_9 : decode cJxc12de_init_da8c8 9 = .ok (.return_, 1) := by decide +kernel
set_option maxRecDepth 20000 in
theorem ggJx4a65c_init_da8c8_Jxc12de_init_da8c8 : GoodIn wsJx4a65c_init_da8c8 wsJxc12de_init_da8c8 := goodIn_r _ [6, 7, 8, 9, 10, 11, 12, 13, 14, 15, 16, 17] (by decide +kernel) (by decide +kernel)
set_option maxRecDepth 20000 in
theorem gJx4a65c_init_da8c8_Jxc12de_init_da8c8 : GoodIn wsJx4a65c_init_da8c8 (wsJxc12de_init_da8c8) := ggJx4a65c_init_da8c8_Jxc12de_init_da8c8
theorem dJx4a65c_init_da8c8_0 : decode cJx4a65c_init_da8c8 0 = .ok (.aload_n 0, 1) := by decide +kernel
theorem dJx4a65c_init_da8c8_1 : decode cJx4a65c_init_da8c8 1 = .ok (.invokespecial 1, 3) := by decide +kernel
theorem dJx4a65c_init_da8c8_4 : decode cJx4a65c_init_da8c8 4 = .ok (.aload_n 0, 1) := by decide +kernel
theorem dJx4a65c_init_da8c8_5 : decode cJx4a65c_init_da8c8 5 = .ok (.getstatic 39, 3) := by decide +kernel
theorem dJx4a65c_init_da8c8_8 : decode cJx4a65c_init_da8c8 8 = .ok (.putfield 9, 3) := by decide +kernel
theorem dJx4a65c_init_da8c8_11 : decode cJx4a65c_init_da8c8 11 = .ok (.return_, 1) := by decide +kernel
set_option maxRecDepth 20000 in
theorem ggJx4a65c_grow_92f84_J8_newLength_cabcc : GoodIn wsJx4a65c_grow_92f84 wsJ8_newLength_cabcc := goodIn_r _ [11, 12, 4, 5, 6, 13, 14, 15, 10, 16] (by decide +kernel) (by decide +kernel)
set_option maxRecDepth 20000 in
theorem gJx4a65c_grow_92f84_J8_newLength_cabcc : GoodIn wsJx4a65c_grow_92f84 (va_wsS RJx4a65c 73 yJ8_newLength_cabcc wsJ8_newLength_cabcc) := goodIn_app (goodIn_of _ (by decide +kernel)) ggJx4a65c_grow_92f84_J8_newLength_cabcc
set_option maxRecDepth 20000 in
theorem ggJx4a65c_grow_92f84_J7_copyOf_1904c : GoodIn wsJx4a65c_grow_92f84 wsJ7_copyOf_1904c := goodIn_r _ [20, 21, 22, 23, 24, 25, 26, 19, 27, 28, 29, 30, 31, 5, 32, 33, 34, 35, 36] (by decide +kernel) (by decide +kernel)
set_option maxRecDepth 20000 in
theorem gJx4a65c_grow_92f84_J7_copyOf_1904c : GoodIn wsJx4a65c_grow_92f84 (va_wsS RJx4a65c 66 yJ7_copyOf_1904c wsJ7_copyOf_1904c) := goodIn_app (goodIn_of _ (by decide +kernel)) ggJx4a65c_grow_92f84_J7_copyOf_1904c
theorem dJx4a65c_grow_92f84_0 : decode cJx4a65c_grow_92f84 0 = .ok (.aload_n 0, 1) := by decide +kernel
theorem dJx4a65c_grow_92f84_1 : decode cJx4a65c_grow_92f84 1 = .ok (.getfield 9, 3) := by decide +kernel
theorem dJx4a65c_grow_92f84_4 : decode cJx4a65c_grow_92f84 4 = .ok (.arraylength, 1) := by decide +kernel
theorem dJx4a65c_grow_92f84_5 : decode cJx4a65c_grow_92f84 5 = .ok (.istore_n 2, 1) := by decide +kernel
theorem dJx4a65c_grow_92f84_6 : decode cJx4a65c_grow_92f84 6 = .ok (.iload_n 2, 1) := by decide +kernel
theorem dJx4a65c_grow_92f84_7 : decode cJx4a65c_grow_92f84 7 = .ok (.ifCond .gt 13, 3) := by decide +kernel
theorem dJx4a65c_grow_92f84_10 : decode cJx4a65c_grow_92f84 10 = .ok (.aload_n 0, 1) := by decide +kernel
theorem dJx4a65c_grow_92f84_11 : decode cJx4a65c_grow_92f84 11 = .ok (.getfield 9, 3) := by decide +kernel
theorem dJx4a65c_grow_92f84_14 : decode cJx4a65c_grow_92f84 14 = .ok (.getstatic 39, 3) := by decide +kernel
theorem dJx4a65c_grow_92f84_17 : decode cJx4a65c_grow_92f84 17 = .ok (.if_acmp .eq 28, 3) := by decide +kernel
theorem dJx4a65c_grow_92f84_20 : decode cJx4a65c_grow_92f84 20 = .ok (.iload_n 2, 1) := by decide +kernel
theorem dJx4a65c_grow_92f84_21 : decode cJx4a65c_grow_92f84 21 = .ok (.iload_n 1, 1) := by decide +kernel
theorem dJx4a65c_grow_92f84_22 : decode cJx4a65c_grow_92f84 22 = .ok (.iload_n 2, 1) := by decide +kernel
theorem dJx4a65c_grow_92f84_23 : decode cJx4a65c_grow_92f84 23 = .ok (.isub, 1) := by decide +kernel
theorem dJx4a65c_grow_92f84_24 : decode cJx4a65c_grow_92f84 24 = .ok (.iload_n 2, 1) := by decide +kernel
theorem dJx4a65c_grow_92f84_25 : decode cJx4a65c_grow_92f84 25 = .ok (.iconst 1, 1) := by decide +kernel
theorem dJx4a65c_grow_92f84_26 : decode cJx4a65c_grow_92f84 26 = .ok (.ishr, 1) := by decide +kernel
theorem dJx4a65c_grow_92f84_27 : decode cJx4a65c_grow_92f84 27 = .ok (.invokestatic 73, 3) := by decide +kernel
theorem dJx4a65c_grow_92f84_30 : decode cJx4a65c_grow_92f84 30 = .ok (.istore_n 3, 1) := by decide +kernel
theorem dJx4a65c_grow_92f84_31 : decode cJx4a65c_grow_92f84 31 = .ok (.aload_n 0, 1) := by decide +kernel
theorem dJx4a65c_grow_92f84_32 : decode cJx4a65c_grow_92f84 32 = .ok (.aload_n 0, 1) := by decide +kernel
theorem dJx4a65c_grow_92f84_33 : decode cJx4a65c_grow_92f84 33 = .ok (.getfield 9, 3) := by decide +kernel
theorem dJx4a65c_grow_92f84_36 : decode cJx4a65c_grow_92f84 36 = .ok (.iload_n 3, 1) := by decide +kernel
theorem dJx4a65c_grow_92f84_37 : decode cJx4a65c_grow_92f84 37 = .ok (.invokestatic 66, 3) := by decide +kernel
theorem dJx4a65c_grow_92f84_40 : decode cJx4a65c_grow_92f84 40 = .ok (.dup_x1, 1) := by decide +kernel
theorem dJx4a65c_grow_92f84_41 : decode cJx4a65c_grow_92f84 41 = .ok (.putfield 9, 3) := by decide +kernel
theorem dJx4a65c_grow_92f84_44 : decode cJx4a65c_grow_92f84 44 = .ok (.areturn, 1) := by decide +kernel
theorem dJx4a65c_grow_92f84_45 : decode cJx4a65c_grow_92f84 45 = .ok (.aload_n 0, 1) := by decide +kernel
theorem dJx4a65c_grow_92f84_46 : decode cJx4a65c_grow_92f84 46 = .ok (.bipush 10, 2) := by decide +kernel
theorem dJx4a65c_grow_92f84_48 : decode cJx4a65c_grow_92f84 48 = .ok (.iload_n 1, 1) := by decide +kernel
theorem dJx4a65c_grow_92f84_49 : decode cJx4a65c_grow_92f84 49 = .ok (.invokestatic 79, 3) := by decide +kernel
theorem dJx4a65c_grow_92f84_52 : decode cJx4a65c_grow_92f84 52 = .ok (.anewarray 7, 3) := by decide +kernel
theorem dJx4a65c_grow_92f84_55 : decode cJx4a65c_grow_92f84 55 = .ok (.dup_x1, 1) := by decide +kernel
theorem dJx4a65c_grow_92f84_56 : decode cJx4a65c_grow_92f84 56 = .ok (.putfield 9, 3) := by decide +kernel
theorem dJx4a65c_grow_92f84_59 : decode cJx4a65c_grow_92f84 59 = .ok (.areturn, 1) := by decide +kernel
set_option maxRecDepth 20000 in
theorem ggJx4a65c_grow_d5877_Jx4a65c_grow_92f84 : GoodIn wsJx4a65c_grow_d5877 wsJx4a65c_grow_92f84 := goodIn_r _ [6, 7, 8, 9, 10, 11, 12, 13, 14, 15, 16, 17, 18, 19, 20, 21, 22, 23, 24, 25, 26, 27, 28, 29, 30, 31, 32, 33, 34, 35, 36, 37, 38, 39, 40, 41, 42, 43, 44, 45] (by decide +kernel) (by decide +kernel)
set_option maxRecDepth 20000 in
theorem gJx4a65c_grow_d5877_Jx4a65c_grow_92f84 : GoodIn wsJx4a65c_grow_d5877 (wsV RJx4a65c 69 RJx4a65c yJx4a65c_grow_92f84 wsJx4a65c_grow_92f84) := goodIn_app (goodIn_of _ (by decide +kernel)) ggJx4a65c_grow_d5877_Jx4a65c_grow_92f84
theorem dJx4a65c_grow_d5877_0 : decode cJx4a65c_grow_d5877 0 = .ok (.aload_n 0, 1) := by decide +kernel
theorem dJx4a65c_grow_d5877_1 : decode cJx4a65c_grow_d5877 1 = .ok (.aload_n 0, 1) := by decide +kernel
theorem dJx4a65c_grow_d5877_2 : decode cJx4a65c_grow_d5877 2 = .ok (.getfield 48, 3) := by decide +kernel
theorem dJx4a65c_grow_d5877_5 : decode cJx4a65c_grow_d5877 5 = .ok (.iconst 1, 1) := by decide +kernel
theorem dJx4a65c_grow_d5877_6 : decode cJx4a65c_grow_d5877 6 = .ok (.iadd, 1) := by decide +kernel
theorem dJx4a65c_grow_d5877_7 : decode cJx4a65c_grow_d5877 7 = .ok (.invokevirtual 69, 3) := by decide +kernel
theorem dJx4a65c_grow_d5877_10 : decode cJx4a65c_grow_d5877 10 = .ok (.areturn, 1) := by decide +kernel
theorem dJx4a65c_size_8abf5_0 : decode cJx4a65c_size_8abf5 0 = .ok (.aload_n 0, 1) := by decide +kernel
theorem dJx4a65c_size_8abf5_1 : decode cJx4a65c_size_8abf5 1 = .ok (.getfield 48, 3) := by decide +kernel
theorem dJx4a65c_size_8abf5_4 : decode cJx4a65c_size_8abf5 4 = .ok (.ireturn, 1) := by decide +kernel
theorem dJx4a65c_isEmpty_aae02_0 : decode cJx4a65c_isEmpty_aae02 0 = .ok (.aload_n 0, 1) := by decide +kernel
theorem dJx4a65c_isEmpty_aae02_1 : decode cJx4a65c_isEmpty_aae02 1 = .ok (.getfield 48, 3) := by decide +kernel
theorem dJx4a65c_isEmpty_aae02_4 : decode cJx4a65c_isEmpty_aae02 4 = .ok (.ifCond .ne 7, 3) := by decide +kernel
theorem dJx4a65c_isEmpty_aae02_7 : decode cJx4a65c_isEmpty_aae02 7 = .ok (.iconst 1, 1) := by decide +kernel
theorem dJx4a65c_isEmpty_aae02_8 : decode cJx4a65c_isEmpty_aae02 8 = .ok (.goto 4, 3) := by decide +kernel
theorem dJx4a65c_isEmpty_aae02_11 : decode cJx4a65c_isEmpty_aae02 11 = .ok (.iconst 0, 1) := by decide +kernel
theorem dJx4a65c_isEmpty_aae02_12 : decode cJx4a65c_isEmpty_aae02 12 = .ok (.ireturn, 1) := by decide +kernel
theorem dJx4a65c_elementData_915e3_0 : decode cJx4a65c_elementData_915e3 0 = .ok (.aload_n 0, 1) := by decide +kernel
theorem dJx4a65c_elementData_915e3_1 : decode cJx4a65c_elementData_915e3 1 = .ok (.getfield 9, 3) := by decide +kernel
theorem dJx4a65c_elementData_915e3_4 : decode cJx4a65c_elementData_915e3 4 = .ok (.iload_n 1, 1) := by decide +kernel
theorem dJx4a65c_elementData_915e3_5 : decode cJx4a65c_elementData_915e3 5 = .ok (.aaload, 1) := by decide +kernel
theorem dJx4a65c_elementData_915e3_6 : decode cJx4a65c_elementData_915e3 6 = .ok (.areturn, 1) := by decide +kernel
set_option maxRecDepth 20000 in
theorem ggJx4a65c_get_915e3_J15_checkIndex_7cf53 : GoodIn wsJx4a65c_get_915e3 wsJ15_checkIndex_7cf53 := goodIn_r _ [5, 6, 7, 8, 9] (by decide +kernel) (by decide +kernel)
set_option maxRecDepth 20000 in
theorem gJx4a65c_get_915e3_J15_checkIndex_7cf53 : GoodIn wsJx4a65c_get_915e3 (va_wsS RJx4a65c 118 yJ15_checkIndex_7cf53 wsJ15_checkIndex_7cf53) := goodIn_app (goodIn_of _ (by decide +kernel)) ggJx4a65c_get_915e3_J15_checkIndex_7cf53
set_option maxRecDepth 20000 in
theorem ggJx4a65c_get_915e3_Jx4a65c_elementData_915e3 : GoodIn wsJx4a65c_get_915e3 wsJx4a65c_elementData_915e3 := goodIn_r _ [14, 15, 16, 17, 18] (by decide +kernel) (by decide +kernel)
set_option maxRecDepth 20000 in
theorem gJx4a65c_get_915e3_Jx4a65c_elementData_915e3 : GoodIn wsJx4a65c_get_915e3 (wsV RJx4a65c 123 RJx4a65c yJx4a65c_elementData_915e3 wsJx4a65c_elementData_915e3) := goodIn_app (goodIn_of _ (by decide +kernel)) ggJx4a65c_get_915e3_Jx4a65c_elementData_915e3
theorem dJx4a65c_get_915e3_0 : decode cJx4a65c_get_915e3 0 = .ok (.iload_n 1, 1) := by decide +kernel
theorem dJx4a65c_get_915e3_1 : decode cJx4a65c_get_915e3 1 = .ok (.aload_n 0, 1) := by decide +kernel
theorem dJx4a65c_get_915e3_2 : decode cJx4a65c_get_915e3 2 = .ok (.getfield 48, 3) := by decide +kernel
theorem dJx4a65c_get_915e3_5 : decode cJx4a65c_get_915e3 5 = .ok (.invokestatic 118, 3) := by decide +kernel
theorem dJx4a65c_get_915e3_8 : decode cJx4a65c_get_915e3 8 = .ok (.pop, 1) := by decide +kernel
theorem dJx4a65c_get_915e3_9 : decode cJx4a65c_get_915e3 9 = .ok (.aload_n 0, 1) := by decide +kernel
theorem dJx4a65c_get_915e3_10 : decode cJx4a65c_get_915e3 10 = .ok (.iload_n 1, 1) := by decide +kernel
theorem dJx4a65c_get_915e3_11 : decode cJx4a65c_get_915e3 11 = .ok (.invokevirtual 123, 3) := by decide +kernel
theorem dJx4a65c_get_915e3_14 : decode cJx4a65c_get_915e3 14 = .ok (.areturn, 1) := by decide +kernel
set_option maxRecDepth 20000 in
theorem ggJx4a65c_add_72be8_Jx4a65c_grow_d5877 : GoodIn wsJx4a65c_add_72be8 wsJx4a65c_grow_d5877 := goodIn_r _ [6, 1, 7, 8, 9, 5, 10, 11, 12, 13, 14, 15, 16, 17, 18, 19, 20, 21, 22, 23, 24, 25, 26, 27, 28, 29, 30, 31, 32, 33, 34, 35, 36, 37, 38, 39, 40, 41, 42, 43, 44, 45, 46, 47, 48, 49] (by decide +kernel) (by decide +kernel)
set_option maxRecDepth 20000 in
theorem gJx4a65c_add_72be8_Jx4a65c_grow_d5877 : GoodIn wsJx4a65c_add_72be8 (wsV RJx4a65c 129 RJx4a65c yJx4a65c_grow_d5877 wsJx4a65c_grow_d5877) := goodIn_app (goodIn_of _ (by decide +kernel)) ggJx4a65c_add_72be8_Jx4a65c_grow_d5877
theorem dJx4a65c_add_72be8_0 : decode cJx4a65c_add_72be8 0 = .ok (.iload_n 3, 1) := by decide +kernel
theorem dJx4a65c_add_72be8_1 : decode cJx4a65c_add_72be8 1 = .ok (.aload_n 2, 1) := by decide +kernel
theorem dJx4a65c_add_72be8_2 : decode cJx4a65c_add_72be8 2 = .ok (.arraylength, 1) := by decide +kernel
theorem dJx4a65c_add_72be8_3 : decode cJx4a65c_add_72be8 3 = .ok (.if_icmp .ne 8, 3) := by decide +kernel
theorem dJx4a65c_add_72be8_6 : decode cJx4a65c_add_72be8 6 = .ok (.aload_n 0, 1) := by decide +kernel
theorem dJx4a65c_add_72be8_7 : decode cJx4a65c_add_72be8 7 = .ok (.invokevirtual 129, 3) := by decide +kernel
theorem dJx4a65c_add_72be8_10 : decode cJx4a65c_add_72be8 10 = .ok (.astore_n 2, 1) := by decide +kernel
theorem dJx4a65c_add_72be8_11 : decode cJx4a65c_add_72be8 11 = .ok (.aload_n 2, 1) := by decide +kernel
theorem dJx4a65c_add_72be8_12 : decode cJx4a65c_add_72be8 12 = .ok (.iload_n 3, 1) := by decide +kernel
theorem dJx4a65c_add_72be8_13 : decode cJx4a65c_add_72be8 13 = .ok (.aload_n 1, 1) := by decide +kernel
theorem dJx4a65c_add_72be8_14 : decode cJx4a65c_add_72be8 14 = .ok (.aastore, 1) := by decide +kernel
theorem dJx4a65c_add_72be8_15 : decode cJx4a65c_add_72be8 15 = .ok (.aload_n 0, 1) := by decide +kernel
theorem dJx4a65c_add_72be8_16 : decode cJx4a65c_add_72be8 16 = .ok (.iload_n 3, 1) := by decide +kernel
theorem dJx4a65c_add_72be8_17 : decode cJx4a65c_add_72be8 17 = .ok (.iconst 1, 1) := by decide +kernel
theorem dJx4a65c_add_72be8_18 : decode cJx4a65c_add_72be8 18 = .ok (.iadd, 1) := by decide +kernel
theorem dJx4a65c_add_72be8_19 : decode cJx4a65c_add_72be8 19 = .ok (.putfield 48, 3) := by decide +kernel
theorem dJx4a65c_add_72be8_22 : decode cJx4a65c_add_72be8 22 = .ok (.return_, 1) := by decide +kernel
set_option maxRecDepth 20000 in
theorem ggJx4a65c_add_9ea2d_Jx4a65c_add_72be8 : GoodIn wsJx4a65c_add_9ea2d wsJx4a65c_add_72be8 := goodIn_r _ [9, 4, 10, 11, 12, 8, 13, 14, 15, 16, 17, 3, 18, 19, 20, 21, 22, 23, 24, 25, 26, 27, 28, 29, 30, 31, 32, 33, 34, 35, 36, 37, 38, 39, 40, 41, 42, 43, 44, 45, 46, 47, 48, 49, 50, 51, 52, 53, 54, 55] (by decide +kernel) (by decide +kernel)
set_option maxRecDepth 20000 in
theorem gJx4a65c_add_9ea2d_Jx4a65c_add_72be8 : GoodIn wsJx4a65c_add_9ea2d (wsV RJx4a65c 131 RJx4a65c yJx4a65c_add_72be8 wsJx4a65c_add_72be8) := goodIn_app (goodIn_of _ (by decide +kernel)) ggJx4a65c_add_9ea2d_Jx4a65c_add_72be8
theorem dJx4a65c_add_9ea2d_0 : decode cJx4a65c_add_9ea2d 0 = .ok (.aload_n 0, 1) := by decide +kernel
theorem dJx4a65c_add_9ea2d_1 : decode cJx4a65c_add_9ea2d 1 = .ok (.dup, 1) := by decide +kernel
theorem dJx4a65c_add_9ea2d_2 : decode cJx4a65c_add_9ea2d 2 = .ok (.getfield 63, 3) := by decide +kernel
theorem dJx4a65c_add_9ea2d_5 : decode cJx4a65c_add_9ea2d 5 = .ok (.iconst 1, 1) := by decide +kernel
theorem dJx4a65c_add_9ea2d_6 : decode cJx4a65c_add_9ea2d 6 = .ok (.iadd, 1) := by decide +kernel
theorem dJx4a65c_add_9ea2d_7 : decode cJx4a65c_add_9ea2d 7 = .ok (.putfield 63, 3) := by decide +kernel
theorem dJx4a65c_add_9ea2d_10 : decode cJx4a65c_add_9ea2d 10 = .ok (.aload_n 0, 1) := by decide +kernel
theorem dJx4a65c_add_9ea2d_11 : decode cJx4a65c_add_9ea2d 11 = .ok (.aload_n 1, 1) := by decide +kernel
theorem dJx4a65c_add_9ea2d_12 : decode cJx4a65c_add_9ea2d 12 = .ok (.aload_n 0, 1) := by decide +kernel
theorem dJx4a65c_add_9ea2d_13 : decode cJx4a65c_add_9ea2d 13 = .ok (.getfield 9, 3) := by decide +kernel
theorem dJx4a65c_add_9ea2d_16 : decode cJx4a65c_add_9ea2d 16 = .ok (.aload_n 0, 1) := by decide +kernel
theorem dJx4a65c_add_9ea2d_17 : decode cJx4a65c_add_9ea2d 17 = .ok (.getfield 48, 3) := by decide +kernel
theorem dJx4a65c_add_9ea2d_20 : decode cJx4a65c_add_9ea2d 20 = .ok (.invokevirtual 131, 3) := by decide +kernel
theorem dJx4a65c_add_9ea2d_23 : decode cJx4a65c_add_9ea2d 23 = .ok (.iconst 1, 1) := by decide +kernel
theorem dJx4a65c_add_9ea2d_24 : decode cJx4a65c_add_9ea2d 24 = .ok (.ireturn, 1) := by decide +kernel
set_option maxRecDepth 20000 in
theorem ggJx4a65c_remove_915e3_J15_checkIndex_7cf53 : GoodIn wsJx4a65c_remove_915e3 wsJ15_checkIndex_7cf53 := goodIn_r _ [6, 7, 8, 9, 10] (by decide +kernel) (by decide +kernel)
set_option maxRecDepth 20000 in
theorem gJx4a65c_remove_915e3_J15_checkIndex_7cf53 : GoodIn wsJx4a65c_remove_915e3 (va_wsS RJx4a65c 118 yJ15_checkIndex_7cf53 wsJ15_checkIndex_7cf53) := goodIn_app (goodIn_of _ (by decide +kernel)) ggJx4a65c_remove_915e3_J15_checkIndex_7cf53
set_option maxRecDepth 20000 in
theorem ggJx4a65c_remove_915e3_Jx4a65c_fastRemove_b59b0 : GoodIn wsJx4a65c_remove_915e3 wsJx4a65c_fastRemove_b59b0 := goodIn_r _ [15, 16, 17, 1, 18, 19, 20, 21, 22, 23, 24] (by decide +kernel) (by decide +kernel)
set_option maxRecDepth 20000 in
theorem gJx4a65c_remove_915e3_Jx4a65c_fastRemove_b59b0 : GoodIn wsJx4a65c_remove_915e3 (wsV RJx4a65c 144 RJx4a65c yJx4a65c_fastRemove_b59b0 wsJx4a65c_fastRemove_b59b0) := goodIn_app (goodIn_of _ (by decide +kernel)) ggJx4a65c_remove_915e3_Jx4a65c_fastRemove_b59b0
theorem dJx4a65c_remove_915e3_0 : decode cJx4a65c_remove_915e3 0 = .ok (.iload_n 1, 1) := by decide +kernel
theorem dJx4a65c_remove_915e3_1 : decode cJx4a65c_remove_915e3 1 = .ok (.aload_n 0, 1) := by decide +kernel
theorem dJx4a65c_remove_915e3_2 : decode cJx4a65c_remove_915e3 2 = .ok (.getfield 48, 3) := by decide +kernel
theorem dJx4a65c_remove_915e3_5 : decode cJx4a65c_remove_915e3 5 = .ok (.invokestatic 118, 3) := by decide +kernel
theorem dJx4a65c_remove_915e3_8 : decode cJx4a65c_remove_915e3 8 = .ok (.pop, 1) := by decide +kernel
theorem dJx4a65c_remove_915e3_9 : decode cJx4a65c_remove_915e3 9 = .ok (.aload_n 0, 1) := by decide +kernel
theorem dJx4a65c_remove_915e3_10 : decode cJx4a65c_remove_915e3 10 = .ok (.getfield 9, 3) := by decide +kernel
theorem dJx4a65c_remove_915e3_13 : decode cJx4a65c_remove_915e3 13 = .ok (.astore_n 2, 1) := by decide +kernel
theorem dJx4a65c_remove_915e3_14 : decode cJx4a65c_remove_915e3 14 = .ok (.aload_n 2, 1) := by decide +kernel
theorem dJx4a65c_remove_915e3_15 : decode cJx4a65c_remove_915e3 15 = .ok (.iload_n 1, 1) := by decide +kernel
theorem dJx4a65c_remove_915e3_16 : decode cJx4a65c_remove_915e3 16 = .ok (.aaload, 1) := by decide +kernel
theorem dJx4a65c_remove_915e3_17 : decode cJx4a65c_remove_915e3 17 = .ok (.astore_n 3, 1) := by decide +kernel
theorem dJx4a65c_remove_915e3_18 : decode cJx4a65c_remove_915e3 18 = .ok (.aload_n 0, 1) := by decide +kernel
theorem dJx4a65c_remove_915e3_19 : decode cJx4a65c_remove_915e3 19 = .ok (.aload_n 2, 1) := by decide +kernel
theorem dJx4a65c_remove_915e3_20 : decode cJx4a65c_remove_915e3 20 = .ok (.iload_n 1, 1) := by decide +kernel
theorem dJx4a65c_remove_915e3_21 : decode cJx4a65c_remove_915e3 21 = .ok (.invokevirtual 144, 3) := by decide +kernel
theorem dJx4a65c_remove_915e3_24 : decode cJx4a65c_remove_915e3 24 = .ok (.aload_n 3, 1) := by decide +kernel
theorem dJx4a65c_remove_915e3_25 : decode cJx4a65c_remove_915e3 25 = .ok (.areturn, 1) := by decide +kernel
theorem dJx4a65c_fastRemove_b59b0_0 : decode cJx4a65c_fastRemove_b59b0 0 = .ok (.aload_n 0, 1) := by decide +kernel
theorem dJx4a65c_fastRemove_b59b0_1 : decode cJx4a65c_fastRemove_b59b0 1 = .ok (.dup, 1) := by decide +kernel
theorem dJx4a65c_fastRemove_b59b0_2 : decode cJx4a65c_fastRemove_b59b0 2 = .ok (.getfield 63, 3) := by decide +kernel
theorem dJx4a65c_fastRemove_b59b0_5 : decode cJx4a65c_fastRemove_b59b0 5 = .ok (.iconst 1, 1) := by decide +kernel
theorem dJx4a65c_fastRemove_b59b0_6 : decode cJx4a65c_fastRemove_b59b0 6 = .ok (.iadd, 1) := by decide +kernel
theorem dJx4a65c_fastRemove_b59b0_7 : decode cJx4a65c_fastRemove_b59b0 7 = .ok (.putfield 63, 3) := by decide +kernel
theorem dJx4a65c_fastRemove_b59b0_10 : decode cJx4a65c_fastRemove_b59b0 10 = .ok (.aload_n 0, 1) := by decide +kernel
theorem dJx4a65c_fastRemove_b59b0_11 : decode cJx4a65c_fastRemove_b59b0 11 = .ok (.getfield 48, 3) := by decide +kernel
theorem dJx4a65c_fastRemove_b59b0_14 : decode cJx4a65c_fastRemove_b59b0 14 = .ok (.iconst 1, 1) := by decide +kernel
theorem dJx4a65c_fastRemove_b59b0_15 : decode cJx4a65c_fastRemove_b59b0 15 = .ok (.isub, 1) := by decide +kernel
theorem dJx4a65c_fastRemove_b59b0_16 : decode cJx4a65c_fastRemove_b59b0 16 = .ok (.dup, 1) := by decide +kernel
theorem dJx4a65c_fastRemove_b59b0_17 : decode cJx4a65c_fastRemove_b59b0 17 = .ok (.istore_n 3, 1) := by decide +kernel
theorem dJx4a65c_fastRemove_b59b0_18 : decode cJx4a65c_fastRemove_b59b0 18 = .ok (.iload_n 2, 1) := by decide +kernel
theorem dJx4a65c_fastRemove_b59b0_19 : decode cJx4a65c_fastRemove_b59b0 19 = .ok (.if_icmp .le 15, 3) := by decide +kernel
theorem dJx4a65c_fastRemove_b59b0_22 : decode cJx4a65c_fastRemove_b59b0 22 = .ok (.aload_n 1, 1) := by decide +kernel
theorem dJx4a65c_fastRemove_b59b0_23 : decode cJx4a65c_fastRemove_b59b0 23 = .ok (.iload_n 2, 1) := by decide +kernel
theorem dJx4a65c_fastRemove_b59b0_24 : decode cJx4a65c_fastRemove_b59b0 24 = .ok (.iconst 1, 1) := by decide +kernel
theorem dJx4a65c_fastRemove_b59b0_25 : decode cJx4a65c_fastRemove_b59b0 25 = .ok (.iadd, 1) := by decide +kernel
theorem dJx4a65c_fastRemove_b59b0_26 : decode cJx4a65c_fastRemove_b59b0 26 = .ok (.aload_n 1, 1) := by decide +kernel
theorem dJx4a65c_fastRemove_b59b0_27 : decode cJx4a65c_fastRemove_b59b0 27 = .ok (.iload_n 2, 1) := by decide +kernel
theorem dJx4a65c_fastRemove_b59b0_28 : decode cJx4a65c_fastRemove_b59b0 28 = .ok (.iload_n 3, 1) := by decide +kernel
theorem dJx4a65c_fastRemove_b59b0_29 : decode cJx4a65c_fastRemove_b59b0 29 = .ok (.iload_n 2, 1) := by decide +kernel
theorem dJx4a65c_fastRemove_b59b0_30 : decode cJx4a65c_fastRemove_b59b0 30 = .ok (.isub, 1) := by decide +kernel
theorem dJx4a65c_fastRemove_b59b0_31 : decode cJx4a65c_fastRemove_b59b0 31 = .ok (.invokestatic 112, 3) := by decide +kernel
theorem dJx4a65c_fastRemove_b59b0_34 : decode cJx4a65c_fastRemove_b59b0 34 = .ok (.aload_n 1, 1) := by decide +kernel
theorem dJx4a65c_fastRemove_b59b0_35 : decode cJx4a65c_fastRemove_b59b0 35 = .ok (.aload_n 0, 1) := by decide +kernel
theorem dJx4a65c_fastRemove_b59b0_36 : decode cJx4a65c_fastRemove_b59b0 36 = .ok (.iload_n 3, 1) := by decide +kernel
theorem dJx4a65c_fastRemove_b59b0_37 : decode cJx4a65c_fastRemove_b59b0 37 = .ok (.dup_x1, 1) := by decide +kernel
theorem dJx4a65c_fastRemove_b59b0_38 : decode cJx4a65c_fastRemove_b59b0 38 = .ok (.putfield 48, 3) := by decide +kernel
theorem dJx4a65c_fastRemove_b59b0_41 : decode cJx4a65c_fastRemove_b59b0 41 = .ok (.aconst_null, 1) := by decide +kernel
theorem dJx4a65c_fastRemove_b59b0_42 : decode cJx4a65c_fastRemove_b59b0 42 = .ok (.aastore, 1) := by decide +kernel
theorem dJx4a65c_fastRemove_b59b0_43 : decode cJx4a65c_fastRemove_b59b0 43 = .ok (.return_, 1) := by decide +kernel
theorem dJ7_fill_53178_0 : decode cJ7_fill_53178 0 = .ok (.iconst 0, 1) := by decide +kernel
theorem dJ7_fill_53178_1 : decode cJ7_fill_53178 1 = .ok (.istore_n 2, 1) := by decide +kernel
theorem dJ7_fill_53178_2 : decode cJ7_fill_53178 2 = .ok (.aload_n 0, 1) := by decide +kernel
theorem dJ7_fill_53178_3 : decode cJ7_fill_53178 3 = .ok (.arraylength, 1) := by decide +kernel
theorem dJ7_fill_53178_4 : decode cJ7_fill_53178 4 = .ok (.istore_n 3, 1) := by decide +kernel
theorem dJ7_fill_53178_5 : decode cJ7_fill_53178 5 = .ok (.iload_n 2, 1) := by decide +kernel
theorem dJ7_fill_53178_6 : decode cJ7_fill_53178 6 = .ok (.iload_n 3, 1) := by decide +kernel
theorem dJ7_fill_53178_7 : decode cJ7_fill_53178 7 = .ok (.if_icmp .ge 13, 3) := by decide +kernel
theorem dJ7_fill_53178_10 : decode cJ7_fill_53178 10 = .ok (.aload_n 0, 1) := by decide +kernel
theorem dJ7_fill_53178_11 : decode cJ7_fill_53178 11 = .ok (.iload_n 2, 1) := by decide +kernel
theorem dJ7_fill_53178_12 : decode cJ7_fill_53178 12 = .ok (.iload_n 1, 1) := by decide +kernel
theorem dJ7_fill_53178_13 : decode cJ7_fill_53178 13 = .ok (.iastore, 1) := by decide +kernel
theorem dJ7_fill_53178_14 : decode cJ7_fill_53178 14 = .ok (.iinc 2 1, 3) := by decide +kernel
theorem dJ7_fill_53178_17 : decode cJ7_fill_53178 17 = .ok (.goto (-12), 3) := by decide +kernel
theorem dJ7_fill_53178_20 : decode cJ7_fill_53178 20 = .ok (.return_, 1) := by decide +kernel
set_option maxRecDepth 20000 in
theorem ggJ7_copyOf_1904c_J7_copyOf_6403c : GoodIn wsJ7_copyOf_1904c wsJ7_copyOf_6403c := goodIn_r _ [8, 9, 10, 11, 12, 13, 14, 15, 16, 17, 18] (by decide +kernel) (by decide +kernel)
set_option maxRecDepth 20000 in
theorem gJ7_copyOf_1904c_J7_copyOf_6403c : GoodIn wsJ7_copyOf_1904c (va_wsS RJ7 300 yJ7_copyOf_6403c wsJ7_copyOf_6403c) := goodIn_app (goodIn_of _ (by decide +kernel)) ggJ7_copyOf_1904c_J7_copyOf_6403c
theorem dJ7_copyOf_1904c_0 : decode cJ7_copyOf_1904c 0 = .ok (.aload_n 0, 1) := by decide +kernel
theorem dJ7_copyOf_1904c_1 : decode cJ7_copyOf_1904c 1 = .ok (.iload_n 1, 1) := by decide +kernel
theorem dJ7_copyOf_1904c_2 : decode cJ7_copyOf_1904c 2 = .ok (.aload_n 0, 1) := by decide +kernel
theorem dJ7_copyOf_1904c_3 : decode cJ7_copyOf_1904c 3 = .ok (.invokevirtual 86, 3) := by decide +kernel
theorem dJ7_copyOf_1904c_6 : decode cJ7_copyOf_1904c 6 = .ok (.invokestatic 300, 3) := by decide +kernel
theorem dJ7_copyOf_1904c_9 : decode cJ7_copyOf_1904c 9 = .ok (.areturn, 1) := by decide +kernel
theorem dJ7_copyOf_6403c_0 : decode cJ7_copyOf_6403c 0 = .ok (.aload_n 2, 1) := by decide +kernel
theorem dJ7_copyOf_6403c_1 : decode cJ7_copyOf_6403c 1 = .ok (.ldc 110, 2) := by decide +kernel
theorem dJ7_copyOf_6403c_3 : decode cJ7_copyOf_6403c 3 = .ok (.if_acmp .ne 10, 3) := by decide +kernel
theorem dJ7_copyOf_6403c_6 : decode cJ7_copyOf_6403c 6 = .ok (.iload_n 1, 1) := by decide +kernel
theorem dJ7_copyOf_6403c_7 : decode cJ7_copyOf_6403c 7 = .ok (.anewarray 2, 3) := by decide +kernel
theorem dJ7_copyOf_6403c_10 : decode cJ7_copyOf_6403c 10 = .ok (.goto 14, 3) := by decide +kernel
theorem dJ7_copyOf_6403c_13 : decode cJ7_copyOf_6403c 13 = .ok (.aload_n 2, 1) := by decide +kernel
theorem dJ7_copyOf_6403c_14 : decode cJ7_copyOf_6403c 14 = .ok (.invokevirtual 90, 3) := by decide +kernel
theorem dJ7_copyOf_6403c_17 : decode cJ7_copyOf_6403c 17 = .ok (.iload_n 1, 1) := by decide +kernel
theorem dJ7_copyOf_6403c_18 : decode cJ7_copyOf_6403c 18 = .ok (.invokestatic 95, 3) := by decide +kernel
theorem dJ7_copyOf_6403c_21 : decode cJ7_copyOf_6403c 21 = .ok (.checkcast 110, 3) := by decide +kernel
theorem dJ7_copyOf_6403c_24 : decode cJ7_copyOf_6403c 24 = .ok (.astore_n 3, 1) := by decide +kernel
theorem dJ7_copyOf_6403c_25 : decode cJ7_copyOf_6403c 25 = .ok (.aload_n 0, 1) := by decide +kernel
theorem dJ7_copyOf_6403c_26 : decode cJ7_copyOf_6403c 26 = .ok (.iconst 0, 1) := by decide +kernel
theorem dJ7_copyOf_6403c_27 : decode cJ7_copyOf_6403c 27 = .ok (.aload_n 3, 1) := by decide +kernel
theorem dJ7_copyOf_6403c_28 : decode cJ7_copyOf_6403c 28 = .ok (.iconst 0, 1) := by decide +kernel
theorem dJ7_copyOf_6403c_29 : decode cJ7_copyOf_6403c 29 = .ok (.aload_n 0, 1) := by decide +kernel
theorem dJ7_copyOf_6403c_30 : decode cJ7_copyOf_6403c 30 = .ok (.arraylength, 1) := by decide +kernel
theorem dJ7_copyOf_6403c_31 : decode cJ7_copyOf_6403c 31 = .ok (.iload_n 1, 1) := by decide +kernel
theorem dJ7_copyOf_6403c_32 : decode cJ7_copyOf_6403c 32 = .ok (.invokestatic 304, 3) := by decide +kernel
theorem dJ7_copyOf_6403c_35 : decode cJ7_copyOf_6403c 35 = .ok (.invokestatic 150, 3) := by decide +kernel
theorem dJ7_copyOf_6403c_38 : decode cJ7_copyOf_6403c 38 = .ok (.aload_n 3, 1) := by decide +kernel
theorem dJ7_copyOf_6403c_39 : decode cJ7_copyOf_6403c 39 = .ok (.areturn, 1) := by decide +kernel
theorem dJ7_copyOf_59c91_0 : decode cJ7_copyOf_59c91 0 = .ok (.iload_n 1, 1) := by decide +kernel
theorem dJ7_copyOf_59c91_1 : decode cJ7_copyOf_59c91 1 = .ok (.aload_n 0, 1) := by decide +kernel
theorem dJ7_copyOf_59c91_2 : decode cJ7_copyOf_59c91 2 = .ok (.arraylength, 1) := by decide +kernel
theorem dJ7_copyOf_59c91_3 : decode cJ7_copyOf_59c91 3 = .ok (.if_icmp .ne 11, 3) := by decide +kernel
theorem dJ7_copyOf_59c91_6 : decode cJ7_copyOf_59c91 6 = .ok (.aload_n 0, 1) := by decide +kernel
theorem dJ7_copyOf_59c91_7 : decode cJ7_copyOf_59c91 7 = .ok (.invokevirtual 316, 3) := by decide +kernel
theorem dJ7_copyOf_59c91_10 : decode cJ7_copyOf_59c91 10 = .ok (.checkcast 317, 3) := by decide +kernel
theorem dJ7_copyOf_59c91_13 : decode cJ7_copyOf_59c91 13 = .ok (.areturn, 1) := by decide +kernel
theorem dJ7_copyOf_59c91_14 : decode cJ7_copyOf_59c91 14 = .ok (.iload_n 1, 1) := by decide +kernel
theorem dJ7_copyOf_59c91_15 : decode cJ7_copyOf_59c91 15 = .ok (.newarray .int, 2) := by decide +kernel
theorem dJ7_copyOf_59c91_17 : decode cJ7_copyOf_59c91 17 = .ok (.astore_n 2, 1) := by decide +kernel
theorem dJ7_copyOf_59c91_18 : decode cJ7_copyOf_59c91 18 = .ok (.aload_n 0, 1) := by decide +kernel
theorem dJ7_copyOf_59c91_19 : decode cJ7_copyOf_59c91 19 = .ok (.iconst 0, 1) := by decide +kernel
theorem dJ7_copyOf_59c91_20 : decode cJ7_copyOf_59c91 20 = .ok (.aload_n 2, 1) := by decide +kernel
theorem dJ7_copyOf_59c91_21 : decode cJ7_copyOf_59c91 21 = .ok (.iconst 0, 1) := by decide +kernel
theorem dJ7_copyOf_59c91_22 : decode cJ7_copyOf_59c91 22 = .ok (.aload_n 0, 1) := by decide +kernel
theorem dJ7_copyOf_59c91_23 : decode cJ7_copyOf_59c91 23 = .ok (.arraylength, 1) := by decide +kernel
theorem dJ7_copyOf_59c91_24 : decode cJ7_copyOf_59c91 24 = .ok (.iload_n 1, 1) := by decide +kernel
theorem dJ7_copyOf_59c91_25 : decode cJ7_copyOf_59c91 25 = .ok (.invokestatic 304, 3) := by decide +kernel
theorem dJ7_copyOf_59c91_28 : decode cJ7_copyOf_59c91 28 = .ok (.invokestatic 150, 3) := by decide +kernel
theorem dJ7_copyOf_59c91_31 : decode cJ7_copyOf_59c91 31 = .ok (.aload_n 2, 1) := by decide +kernel
theorem dJ7_copyOf_59c91_32 : decode cJ7_copyOf_59c91 32 = .ok (.areturn, 1) := by decide +kernel
set_option maxRecDepth 20000 in
theorem ggJ15_checkIndex_7cf53_J3_checkIndex_8e157 : GoodIn wsJ15_checkIndex_7cf53 wsJ3_checkIndex_8e157 := goodIn_r _ [4] (by decide +kernel) (by decide +kernel)
set_option maxRecDepth 20000 in
theorem gJ15_checkIndex_7cf53_J3_checkIndex_8e157 : GoodIn wsJ15_checkIndex_7cf53 (va_wsS RJ15 105 yJ3_checkIndex_8e157 wsJ3_checkIndex_8e157) := goodIn_app (goodIn_of _ (by decide +kernel)) ggJ15_checkIndex_7cf53_J3_checkIndex_8e157
theorem dJ15_checkIndex_7cf53_0 : decode cJ15_checkIndex_7cf53 0 = .ok (.iload_n 0, 1) := by decide +kernel
theorem dJ15_checkIndex_7cf53_1 : decode cJ15_checkIndex_7cf53 1 = .ok (.iload_n 1, 1) := by decide +kernel
theorem dJ15_checkIndex_7cf53_2 : decode cJ15_checkIndex_7cf53 2 = .ok (.aconst_null, 1) := by decide +kernel
theorem dJ15_checkIndex_7cf53_3 : decode cJ15_checkIndex_7cf53 3 = .ok (.invokestatic 105, 3) := by decide +kernel
theorem dJ15_checkIndex_7cf53_6 : decode cJ15_checkIndex_7cf53 6 = .ok (.ireturn, 1) := by decide +kernel
set_option maxRecDepth 20000 in
theorem ggJ8_newLength_cabcc_J8_hugeLength_7cf53 : GoodIn wsJ8_newLength_cabcc wsJ8_hugeLength_7cf53 := goodIn_r _ [9, 5] (by decide +kernel) (by decide +kernel)
set_option maxRecDepth 20000 in
theorem gJ8_newLength_cabcc_J8_hugeLength_7cf53 : GoodIn wsJ8_newLength_cabcc (va_wsS RJ8 201 yJ8_hugeLength_7cf53 wsJ8_hugeLength_7cf53) := goodIn_app (goodIn_of _ (by decide +kernel)) ggJ8_newLength_cabcc_J8_hugeLength_7cf53
theorem dJ8_newLength_cabcc_0 : decode cJ8_newLength_cabcc 0 = .ok (.iload_n 0, 1) := by decide +kernel
theorem dJ8_newLength_cabcc_1 : decode cJ8_newLength_cabcc 1 = .ok (.iload_n 1, 1) := by decide +kernel
theorem dJ8_newLength_cabcc_2 : decode cJ8_newLength_cabcc 2 = .ok (.iload_n 2, 1) := by decide +kernel
theorem dJ8_newLength_cabcc_3 : decode cJ8_newLength_cabcc 3 = .ok (.invokestatic 194, 3) := by decide +kernel
theorem dJ8_newLength_cabcc_6 : decode cJ8_newLength_cabcc 6 = .ok (.iadd, 1) := by decide +kernel
theorem dJ8_newLength_cabcc_7 : decode cJ8_newLength_cabcc 7 = .ok (.istore_n 3, 1) := by decide +kernel
theorem dJ8_newLength_cabcc_8 : decode cJ8_newLength_cabcc 8 = .ok (.iconst 0, 1) := by decide +kernel
theorem dJ8_newLength_cabcc_9 : decode cJ8_newLength_cabcc 9 = .ok (.iload_n 3, 1) := by decide +kernel
theorem dJ8_newLength_cabcc_10 : decode cJ8_newLength_cabcc 10 = .ok (.if_icmp .ge 11, 3) := by decide +kernel
theorem dJ8_newLength_cabcc_13 : decode cJ8_newLength_cabcc 13 = .ok (.iload_n 3, 1) := by decide +kernel
theorem dJ8_newLength_cabcc_14 : decode cJ8_newLength_cabcc 14 = .ok (.ldc 200, 2) := by decide +kernel
theorem dJ8_newLength_cabcc_16 : decode cJ8_newLength_cabcc 16 = .ok (.if_icmp .gt 5, 3) := by decide +kernel
theorem dJ8_newLength_cabcc_19 : decode cJ8_newLength_cabcc 19 = .ok (.iload_n 3, 1) := by decide +kernel
theorem dJ8_newLength_cabcc_20 : decode cJ8_newLength_cabcc 20 = .ok (.ireturn, 1) := by decide +kernel
theorem dJ8_newLength_cabcc_21 : decode cJ8_newLength_cabcc 21 = .ok (.iload_n 0, 1) := by decide +kernel
theorem dJ8_newLength_cabcc_22 : decode cJ8_newLength_cabcc 22 = .ok (.iload_n 1, 1) := by decide +kernel
theorem dJ8_newLength_cabcc_23 : decode cJ8_newLength_cabcc 23 = .ok (.invokestatic 201, 3) := by decide +kernel
theorem dJ8_newLength_cabcc_26 : decode cJ8_newLength_cabcc 26 = .ok (.ireturn, 1) := by decide +kernel
theorem dJ8_hugeLength_7cf53_0 : decode cJ8_hugeLength_7cf53 0 = .ok (.iload_n 0, 1) := by decide +kernel
theorem dJ8_hugeLength_7cf53_1 : decode cJ8_hugeLength_7cf53 1 = .ok (.iload_n 1, 1) := by decide +kernel
theorem dJ8_hugeLength_7cf53_2 : decode cJ8_hugeLength_7cf53 2 = .ok (.iadd, 1) := by decide +kernel
theorem dJ8_hugeLength_7cf53_3 : decode cJ8_hugeLength_7cf53 3 = .ok (.istore_n 2, 1) := by decide +kernel
theorem dJ8_hugeLength_7cf53_4 : decode cJ8_hugeLength_7cf53 4 = .ok (.iload_n 2, 1) := by decide +kernel
theorem dJ8_hugeLength_7cf53_5 : decode cJ8_hugeLength_7cf53 5 = .ok (.ifCond .ge 44, 3) := by decide +kernel
theorem dJ8_hugeLength_7cf53_8 : decode cJ8_hugeLength_7cf53 8 = .ok (.new 204, 3) := by decide +kernel
theorem dJ8_hugeLength_7cf53_11 : decode cJ8_hugeLength_7cf53 11 = .ok (.dup, 1) := by decide +kernel
theorem dJ8_hugeLength_7cf53_12 : decode cJ8_hugeLength_7cf53 12 = .ok (.new 89, 3) := by decide +kernel
theorem dJ8_hugeLength_7cf53_15 : decode cJ8_hugeLength_7cf53 15 = .ok (.dup, 1) := by decide +kernel
theorem dJ8_hugeLength_7cf53_16 : decode cJ8_hugeLength_7cf53 16 = .ok (.invokespecial 91, 3) := by decide +kernel
