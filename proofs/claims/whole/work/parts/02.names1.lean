theorem dX0_init_81 : decode cX0_init 81 = .ok (.putfield 38, 3) := by decide +kernel
theorem dX0_init_84 : decode cX0_init 84 = .ok (.aload_n 0, 1) := by decide +kernel
theorem dX0_init_85 : decode cX0_init 85 = .ok (.sipush 2048, 3) := by decide +kernel
theorem dX0_init_88 : decode cX0_init 88 = .ok (.newarray .int, 2) := by decide +kernel
theorem dX0_init_90 : decode cX0_init 90 = .ok (.putfield 41, 3) := by decide +kernel
theorem dX0_init_93 : decode cX0_init 93 = .ok (.aload_n 0, 1) := by decide +kernel
theorem dX0_init_94 : decode cX0_init 94 = .ok (.sipush 2048, 3) := by decide +kernel
theorem dX0_init_97 : decode cX0_init 97 = .ok (.newarray .int, 2) := by decide +kernel
theorem dX0_init_99 : decode cX0_init 99 = .ok (.putfield 44, 3) := by decide +kernel
theorem dX0_init_102 : decode cX0_init 102 = .ok (.aload_n 0, 1) := by decide +kernel
theorem dX0_init_103 : decode cX0_init 103 = .ok (.sipush 2048, 3) := by decide +kernel
theorem dX0_init_106 : decode cX0_init 106 = .ok (.newarray .int, 2) := by decide +kernel
theorem dX0_init_108 : decode cX0_init 108 = .ok (.putfield 47, 3) := by decide +kernel
theorem dX0_init_111 : decode cX0_init 111 = .ok (.aload_n 0, 1) := by decide +kernel
theorem dX0_init_112 : decode cX0_init 112 = .ok (.getfield 38, 3) := by decide +kernel
theorem dX0_init_115 : decode cX0_init 115 = .ok (.iconst 0, 1) := by decide +kernel
theorem dX0_init_116 : decode cX0_init 116 = .ok (.bipush 48, 2) := by decide +kernel
theorem dX0_init_118 : decode cX0_init 118 = .ok (.iastore, 1) := by decide +kernel
theorem dX0_init_119 : decode cX0_init 119 = .ok (.return_, 1) := by decide +kernel
set_option maxRecDepth 20000 in
theorem ggX0_addFlight_X0_lowestFreeLateral : GoodIn wsX0_addFlight wsX0_lowestFreeLateral := goodIn_r _ [13, 14, 15, 16, 12, 17, 5, 7, 8, 18, 19, 20, 21, 22, 23, 24, 25, 26, 27, 28, 29, 30, 31, 32, 33, 34, 35, 36, 37, 38] (by decide +kernel) (by decide +kernel)
set_option maxRecDepth 20000 in
theorem gX0_addFlight_X0_lowestFreeLateral : GoodIn wsX0_addFlight (wsV RX0 69 RX0 yX0_lowestFreeLateral wsX0_lowestFreeLateral) := goodIn_app (goodIn_of _ (by decide +kernel)) ggX0_addFlight_X0_lowestFreeLateral
theorem dX0_addFlight_0 : decode cX0_addFlight 0 = .ok (.iload_n 1, 1) := by decide +kernel
theorem dX0_addFlight_1 : decode cX0_addFlight 1 = .ok (.iconst 1, 1) := by decide +kernel
theorem dX0_addFlight_2 : decode cX0_addFlight 2 = .ok (.if_icmp .lt 10, 3) := by decide +kernel
theorem dX0_addFlight_5 : decode cX0_addFlight 5 = .ok (.iload_n 1, 1) := by decide +kernel
theorem dX0_addFlight_6 : decode cX0_addFlight 6 = .ok (.sipush 1000, 3) := by decide +kernel
theorem dX0_addFlight_9 : decode cX0_addFlight 9 = .ok (.if_icmp .le 13, 3) := by decide +kernel
theorem dX0_addFlight_12 : decode cX0_addFlight 12 = .ok (.new 50, 3) := by decide +kernel
theorem dX0_addFlight_15 : decode cX0_addFlight 15 = .ok (.dup, 1) := by decide +kernel
theorem dX0_addFlight_16 : decode cX0_addFlight 16 = .ok (.ldc 52, 2) := by decide +kernel
theorem dX0_addFlight_18 : decode cX0_addFlight 18 = .ok (.invokespecial 54, 3) := by decide +kernel
theorem dX0_addFlight_21 : decode cX0_addFlight 21 = .ok (.athrow, 1) := by decide +kernel
theorem dX0_addFlight_22 : decode cX0_addFlight 22 = .ok (.aload_n 0, 1) := by decide +kernel
theorem dX0_addFlight_23 : decode cX0_addFlight 23 = .ok (.getfield 57, 3) := by decide +kernel
theorem dX0_addFlight_26 : decode cX0_addFlight 26 = .ok (.bipush 10, 2) := by decide +kernel
theorem dX0_addFlight_28 : decode cX0_addFlight 28 = .ok (.if_icmp .lt 13, 3) := by decide +kernel
theorem dX0_addFlight_31 : decode cX0_addFlight 31 = .ok (.new 61, 3) := by decide +kernel
theorem dX0_addFlight_34 : decode cX0_addFlight 34 = .ok (.dup, 1) := by decide +kernel
theorem dX0_addFlight_35 : decode cX0_addFlight 35 = .ok (.ldc 63, 2) := by decide +kernel
theorem dX0_addFlight_37 : decode cX0_addFlight 37 = .ok (.invokespecial 65, 3) := by decide +kernel
theorem dX0_addFlight_40 : decode cX0_addFlight 40 = .ok (.athrow, 1) := by decide +kernel
theorem dX0_addFlight_41 : decode cX0_addFlight 41 = .ok (.aload_n 0, 1) := by decide +kernel
theorem dX0_addFlight_42 : decode cX0_addFlight 42 = .ok (.getfield 57, 3) := by decide +kernel
theorem dX0_addFlight_45 : decode cX0_addFlight 45 = .ok (.istore_n 2, 1) := by decide +kernel
theorem dX0_addFlight_46 : decode cX0_addFlight 46 = .ok (.aload_n 0, 1) := by decide +kernel
theorem dX0_addFlight_47 : decode cX0_addFlight 47 = .ok (.getfield 66, 3) := by decide +kernel
theorem dX0_addFlight_50 : decode cX0_addFlight 50 = .ok (.iload_n 1, 1) := by decide +kernel
theorem dX0_addFlight_51 : decode cX0_addFlight 51 = .ok (.iadd, 1) := by decide +kernel
theorem dX0_addFlight_52 : decode cX0_addFlight 52 = .ok (.istore_n 3, 1) := by decide +kernel
theorem dX0_addFlight_53 : decode cX0_addFlight 53 = .ok (.aload_n 0, 1) := by decide +kernel
theorem dX0_addFlight_54 : decode cX0_addFlight 54 = .ok (.getfield 13, 3) := by decide +kernel
theorem dX0_addFlight_57 : decode cX0_addFlight 57 = .ok (.iload_n 2, 1) := by decide +kernel
theorem dX0_addFlight_58 : decode cX0_addFlight 58 = .ok (.aload_n 0, 1) := by decide +kernel
theorem dX0_addFlight_59 : decode cX0_addFlight 59 = .ok (.iload_n 3, 1) := by decide +kernel
theorem dX0_addFlight_60 : decode cX0_addFlight 60 = .ok (.invokevirtual 69, 3) := by decide +kernel
theorem dX0_addFlight_63 : decode cX0_addFlight 63 = .ok (.iastore, 1) := by decide +kernel
theorem dX0_addFlight_64 : decode cX0_addFlight 64 = .ok (.aload_n 0, 1) := by decide +kernel
theorem dX0_addFlight_65 : decode cX0_addFlight 65 = .ok (.getfield 9, 3) := by decide +kernel
theorem dX0_addFlight_68 : decode cX0_addFlight 68 = .ok (.iload_n 2, 1) := by decide +kernel
theorem dX0_addFlight_69 : decode cX0_addFlight 69 = .ok (.iload_n 3, 1) := by decide +kernel
theorem dX0_addFlight_70 : decode cX0_addFlight 70 = .ok (.iastore, 1) := by decide +kernel
theorem dX0_addFlight_71 : decode cX0_addFlight 71 = .ok (.aload_n 0, 1) := by decide +kernel
theorem dX0_addFlight_72 : decode cX0_addFlight 72 = .ok (.dup, 1) := by decide +kernel
theorem dX0_addFlight_73 : decode cX0_addFlight 73 = .ok (.getfield 57, 3) := by decide +kernel
theorem dX0_addFlight_76 : decode cX0_addFlight 76 = .ok (.iconst 1, 1) := by decide +kernel
theorem dX0_addFlight_77 : decode cX0_addFlight 77 = .ok (.iadd, 1) := by decide +kernel
theorem dX0_addFlight_78 : decode cX0_addFlight 78 = .ok (.putfield 57, 3) := by decide +kernel
theorem dX0_addFlight_81 : decode cX0_addFlight 81 = .ok (.iload_n 2, 1) := by decide +kernel
theorem dX0_addFlight_82 : decode cX0_addFlight 82 = .ok (.ireturn, 1) := by decide +kernel
set_option maxRecDepth 20000 in
theorem ggX0_board_X0_requireRider : GoodIn wsX0_board wsX0_requireRider := goodIn_ca (goodIn_r _ [6, 7, 8] (by decide +kernel) (by decide +kernel)) (goodIn_sub (fun _ h => List.mem_cons_of_mem _ (List.mem_append_right _ h)) (by decide +kernel))
set_option maxRecDepth 20000 in
theorem gX0_board_X0_requireRider : GoodIn wsX0_board (wsV RX0 73 RX0 yX0_requireRider wsX0_requireRider) := goodIn_app (goodIn_of _ (by decide +kernel)) ggX0_board_X0_requireRider
theorem dX0_board_0 : decode cX0_board 0 = .ok (.aload_n 0, 1) := by decide +kernel
theorem dX0_board_1 : decode cX0_board 1 = .ok (.iload_n 1, 1) := by decide +kernel
theorem dX0_board_2 : decode cX0_board 2 = .ok (.invokevirtual 73, 3) := by decide +kernel
theorem dX0_board_5 : decode cX0_board 5 = .ok (.aload_n 0, 1) := by decide +kernel
theorem dX0_board_6 : decode cX0_board 6 = .ok (.getfield 16, 3) := by decide +kernel
theorem dX0_board_9 : decode cX0_board 9 = .ok (.iload_n 1, 1) := by decide +kernel
theorem dX0_board_10 : decode cX0_board 10 = .ok (.baload, 1) := by decide +kernel
theorem dX0_board_11 : decode cX0_board 11 = .ok (.istore_n 3, 1) := by decide +kernel
theorem dX0_board_12 : decode cX0_board 12 = .ok (.aload_n 0, 1) := by decide +kernel
theorem dX0_board_13 : decode cX0_board 13 = .ok (.getfield 16, 3) := by decide +kernel
theorem dX0_board_16 : decode cX0_board 16 = .ok (.iload_n 1, 1) := by decide +kernel
theorem dX0_board_17 : decode cX0_board 17 = .ok (.iload_n 2, 1) := by decide +kernel
theorem dX0_board_18 : decode cX0_board 18 = .ok (.bastore, 1) := by decide +kernel
theorem dX0_board_19 : decode cX0_board 19 = .ok (.iload_n 3, 1) := by decide +kernel
theorem dX0_board_20 : decode cX0_board 20 = .ok (.ireturn, 1) := by decide +kernel
set_option maxRecDepth 20000 in
theorem ggX0_pass_X0_passOneMinute : GoodIn wsX0_pass wsX0_passOneMinute := goodIn_r _ [8, 9, 10, 11, 12, 7, 13, 14, 15, 16, 17, 18, 19, 20, 21, 22, 23, 24, 25, 26, 27, 28, 29, 30, 31, 32, 3, 33, 34, 35, 36, 37, 38, 39, 40, 41, 42, 43, 44, 45, 46, 47, 48, 49, 50, 51, 52, 53, 54, 55, 56, 57, 58, 59, 60, 61, 62, 63, 64, 65, 66, 67, 68, 69, 70, 71, 72, 73, 74, 75, 76, 77, 78, 79, 80, 81, 82, 83, 84, 85, 86, 87, 88, 89, 90, 91, 92, 93, 94, 95, 96, 97] (by decide +kernel) (by decide +kernel)
set_option maxRecDepth 20000 in
theorem gX0_pass_X0_passOneMinute : GoodIn wsX0_pass (wsV RX0 82 RX0 yX0_passOneMinute wsX0_passOneMinute) := goodIn_app (goodIn_of _ (by decide +kernel)) ggX0_pass_X0_passOneMinute
theorem dX0_pass_0 : decode cX0_pass 0 = .ok (.iload_n 1, 1) := by decide +kernel
theorem dX0_pass_1 : decode cX0_pass 1 = .ok (.iconst 1, 1) := by decide +kernel
theorem dX0_pass_2 : decode cX0_pass 2 = .ok (.if_icmp .lt 10, 3) := by decide +kernel
theorem dX0_pass_5 : decode cX0_pass 5 = .ok (.iload_n 1, 1) := by decide +kernel
theorem dX0_pass_6 : decode cX0_pass 6 = .ok (.sipush 200, 3) := by decide +kernel
theorem dX0_pass_9 : decode cX0_pass 9 = .ok (.if_icmp .le 13, 3) := by decide +kernel
theorem dX0_pass_12 : decode cX0_pass 12 = .ok (.new 50, 3) := by decide +kernel
theorem dX0_pass_15 : decode cX0_pass 15 = .ok (.dup, 1) := by decide +kernel
theorem dX0_pass_16 : decode cX0_pass 16 = .ok (.ldc 77, 2) := by decide +kernel
theorem dX0_pass_18 : decode cX0_pass 18 = .ok (.invokespecial 54, 3) := by decide +kernel
theorem dX0_pass_21 : decode cX0_pass 21 = .ok (.athrow, 1) := by decide +kernel
theorem dX0_pass_22 : decode cX0_pass 22 = .ok (.aload_n 0, 1) := by decide +kernel
theorem dX0_pass_23 : decode cX0_pass 23 = .ok (.getfield 79, 3) := by decide +kernel
theorem dX0_pass_26 : decode cX0_pass 26 = .ok (.istore_n 2, 1) := by decide +kernel
theorem dX0_pass_27 : decode cX0_pass 27 = .ok (.iconst 0, 1) := by decide +kernel
theorem dX0_pass_28 : decode cX0_pass 28 = .ok (.istore_n 3, 1) := by decide +kernel
theorem dX0_pass_29 : decode cX0_pass 29 = .ok (.iload_n 3, 1) := by decide +kernel
theorem dX0_pass_30 : decode cX0_pass 30 = .ok (.iload_n 1, 1) := by decide +kernel
theorem dX0_pass_31 : decode cX0_pass 31 = .ok (.if_icmp .ge 13, 3) := by decide +kernel
theorem dX0_pass_34 : decode cX0_pass 34 = .ok (.aload_n 0, 1) := by decide +kernel
theorem dX0_pass_35 : decode cX0_pass 35 = .ok (.invokevirtual 82, 3) := by decide +kernel
theorem dX0_pass_38 : decode cX0_pass 38 = .ok (.iinc 3 1, 3) := by decide +kernel
theorem dX0_pass_41 : decode cX0_pass 41 = .ok (.goto (-12), 3) := by decide +kernel
theorem dX0_pass_44 : decode cX0_pass 44 = .ok (.aload_n 0, 1) := by decide +kernel
theorem dX0_pass_45 : decode cX0_pass 45 = .ok (.getfield 79, 3) := by decide +kernel
theorem dX0_pass_48 : decode cX0_pass 48 = .ok (.iload_n 2, 1) := by decide +kernel
theorem dX0_pass_49 : decode cX0_pass 49 = .ok (.isub, 1) := by decide +kernel
theorem dX0_pass_50 : decode cX0_pass 50 = .ok (.ireturn, 1) := by decide +kernel
theorem dX0_time_0 : decode cX0_time 0 = .ok (.aload_n 0, 1) := by decide +kernel
theorem dX0_time_1 : decode cX0_time 1 = .ok (.getfield 66, 3) := by decide +kernel
theorem dX0_time_4 : decode cX0_time 4 = .ok (.ireturn, 1) := by decide +kernel
set_option maxRecDepth 20000 in
theorem ggX0_lateralOf_X0_requireFlight : GoodIn wsX0_lateralOf wsX0_requireFlight := goodIn_ca (goodIn_r _ [6, 7, 8, 9, 10, 11, 12, 13, 14, 15, 16, 17, 18, 19, 20, 21, 22, 23, 24, 25, 26] (by decide +kernel) (by decide +kernel)) (goodIn_sub (fun _ h => List.mem_cons_of_mem _ (List.mem_append_right _ h)) (by decide +kernel))
set_option maxRecDepth 20000 in
theorem gX0_lateralOf_X0_requireFlight : GoodIn wsX0_lateralOf (wsV RX0 85 RX0 yX0_requireFlight wsX0_requireFlight) := goodIn_app (goodIn_of _ (by decide +kernel)) ggX0_lateralOf_X0_requireFlight
theorem dX0_lateralOf_0 : decode cX0_lateralOf 0 = .ok (.aload_n 0, 1) := by decide +kernel
theorem dX0_lateralOf_1 : decode cX0_lateralOf 1 = .ok (.iload_n 1, 1) := by decide +kernel
theorem dX0_lateralOf_2 : decode cX0_lateralOf 2 = .ok (.invokevirtual 85, 3) := by decide +kernel
theorem dX0_lateralOf_5 : decode cX0_lateralOf 5 = .ok (.aload_n 0, 1) := by decide +kernel
theorem dX0_lateralOf_6 : decode cX0_lateralOf 6 = .ok (.getfield 13, 3) := by decide +kernel
theorem dX0_lateralOf_9 : decode cX0_lateralOf 9 = .ok (.iload_n 1, 1) := by decide +kernel
theorem dX0_lateralOf_10 : decode cX0_lateralOf 10 = .ok (.iaload, 1) := by decide +kernel
theorem dX0_lateralOf_11 : decode cX0_lateralOf 11 = .ok (.ireturn, 1) := by decide +kernel
set_option maxRecDepth 20000 in
theorem ggX0_checkIn_X0_takeIn : GoodIn wsX0_checkIn wsX0_takeIn := goodIn_ca (goodIn_ca (goodIn_r _ [5, 6, 7, 8, 9, 10, 11, 12, 13, 14, 4, 15, 16, 17, 18, 19, 20, 21, 22, 23, 24, 25, 26, 27, 28, 44, 45, 46, 47, 48, 49, 50, 51, 52, 53, 54, 55, 56, 57, 58, 59, 60] (by decide +kernel) (by decide +kernel)) (goodIn_sub (fun _ h => List.mem_cons_of_mem _ (List.mem_append_left _ (List.mem_append_right _ h))) (by decide +kernel))) (goodIn_sub (fun _ h => List.mem_cons_of_mem _ (List.mem_append_right _ h)) (by decide +kernel))
set_option maxRecDepth 20000 in
theorem gX0_checkIn_X0_takeIn : GoodIn wsX0_checkIn (wsV RX0 88 RX0 yX0_takeIn wsX0_takeIn) := goodIn_app (goodIn_of _ (by decide +kernel)) ggX0_checkIn_X0_takeIn
set_option maxRecDepth 20000 in
theorem ggX0_checkIn_X0_bring : GoodIn wsX0_checkIn wsX0_bring := goodIn_r _ [32, 33, 11, 34, 27, 35, 36, 37, 38, 39, 4, 40, 41, 42, 43, 44, 45, 46, 47, 48, 49, 50, 51, 52, 53, 54, 55, 56, 57, 58, 59, 60] (by decide +kernel) (by decide +kernel)
set_option maxRecDepth 20000 in
theorem gX0_checkIn_X0_bring : GoodIn wsX0_checkIn (wsV RX0 92 RX0 yX0_bring wsX0_bring) := goodIn_app (goodIn_of _ (by decide +kernel)) ggX0_checkIn_X0_bring
theorem dX0_checkIn_0 : decode cX0_checkIn 0 = .ok (.aload_n 0, 1) := by decide +kernel
theorem dX0_checkIn_1 : decode cX0_checkIn 1 = .ok (.iload_n 1, 1) := by decide +kernel
theorem dX0_checkIn_2 : decode cX0_checkIn 2 = .ok (.iload_n 2, 1) := by decide +kernel
theorem dX0_checkIn_3 : decode cX0_checkIn 3 = .ok (.invokevirtual 88, 3) := by decide +kernel
theorem dX0_checkIn_6 : decode cX0_checkIn 6 = .ok (.istore_n 3, 1) := by decide +kernel
theorem dX0_checkIn_7 : decode cX0_checkIn 7 = .ok (.aload_n 0, 1) := by decide +kernel
theorem dX0_checkIn_8 : decode cX0_checkIn 8 = .ok (.iload_n 3, 1) := by decide +kernel
theorem dX0_checkIn_9 : decode cX0_checkIn 9 = .ok (.iconst 1, 1) := by decide +kernel
theorem dX0_checkIn_10 : decode cX0_checkIn 10 = .ok (.invokevirtual 92, 3) := by decide +kernel
theorem dX0_checkIn_13 : decode cX0_checkIn 13 = .ok (.iload_n 3, 1) := by decide +kernel
theorem dX0_checkIn_14 : decode cX0_checkIn 14 = .ok (.ireturn, 1) := by decide +kernel
set_option maxRecDepth 20000 in
theorem ggX0_transfer_X0_takeIn : GoodIn wsX0_transfer wsX0_takeIn := goodIn_ca (goodIn_ca (goodIn_r _ [5, 6, 7, 8, 9, 10, 11, 12, 13, 14, 4, 15, 16, 17, 18, 19, 20, 21, 22, 23, 24, 25, 26, 27, 28, 65, 66, 67, 68, 69, 70, 71, 72, 73, 74, 75, 76, 77, 78, 79, 80, 81] (by decide +kernel) (by decide +kernel)) (goodIn_sub (fun _ h => List.mem_cons_of_mem _ (List.mem_append_left _ (List.mem_append_right _ h))) (by decide +kernel))) (goodIn_sub (fun _ h => List.mem_cons_of_mem _ (List.mem_append_right _ h)) (by decide +kernel))
set_option maxRecDepth 20000 in
theorem gX0_transfer_X0_takeIn : GoodIn wsX0_transfer (wsV RX0 88 RX0 yX0_takeIn wsX0_takeIn) := goodIn_app (goodIn_of _ (by decide +kernel)) ggX0_transfer_X0_takeIn
set_option maxRecDepth 20000 in
theorem ggX0_transfer_X0_route : GoodIn wsX0_transfer wsX0_route := goodIn_r _ [32, 9, 11, 33, 34, 35, 4, 36, 37, 38, 39, 40, 41, 42, 27, 43, 44, 45, 46, 28, 47, 48, 49, 50, 51, 52, 53, 54, 55, 56, 57, 58, 59, 60, 61, 62, 63, 64, 65, 66, 67, 68, 69, 70, 71, 72, 73, 74, 75, 76, 77, 78, 79, 80, 81] (by decide +kernel) (by decide +kernel)
set_option maxRecDepth 20000 in
theorem gX0_transfer_X0_route : GoodIn wsX0_transfer (wsV RX0 96 RX0 yX0_route wsX0_route) := goodIn_app (goodIn_of _ (by decide +kernel)) ggX0_transfer_X0_route
theorem dX0_transfer_0 : decode cX0_transfer 0 = .ok (.aload_n 0, 1) := by decide +kernel
theorem dX0_transfer_1 : decode cX0_transfer 1 = .ok (.iload_n 1, 1) := by decide +kernel
theorem dX0_transfer_2 : decode cX0_transfer 2 = .ok (.iload_n 2, 1) := by decide +kernel
theorem dX0_transfer_3 : decode cX0_transfer 3 = .ok (.invokevirtual 88, 3) := by decide +kernel
theorem dX0_transfer_6 : decode cX0_transfer 6 = .ok (.istore_n 3, 1) := by decide +kernel
theorem dX0_transfer_7 : decode cX0_transfer 7 = .ok (.aload_n 0, 1) := by decide +kernel
theorem dX0_transfer_8 : decode cX0_transfer 8 = .ok (.iload_n 3, 1) := by decide +kernel
theorem dX0_transfer_9 : decode cX0_transfer 9 = .ok (.invokevirtual 96, 3) := by decide +kernel
theorem dX0_transfer_12 : decode cX0_transfer 12 = .ok (.iload_n 3, 1) := by decide +kernel
theorem dX0_transfer_13 : decode cX0_transfer 13 = .ok (.ireturn, 1) := by decide +kernel
set_option maxRecDepth 20000 in
theorem ggX0_decide_X0_requireBag : GoodIn wsX0_decide wsX0_requireBag := goodIn_ca (goodIn_r _ [10, 11, 12, 13, 57, 58, 59, 60, 61, 62, 63, 64, 65, 66, 67, 68, 69, 70, 71, 72, 73] (by decide +kernel) (by decide +kernel)) (goodIn_sub (fun _ h => List.mem_cons_of_mem _ (List.mem_append_right _ h)) (by decide +kernel))
set_option maxRecDepth 20000 in
theorem gX0_decide_X0_requireBag : GoodIn wsX0_decide (wsV RX0 99 RX0 yX0_requireBag wsX0_requireBag) := goodIn_app (goodIn_of _ (by decide +kernel)) ggX0_decide_X0_requireBag
set_option maxRecDepth 20000 in
theorem ggX0_decide_X0_decisionTime : GoodIn wsX0_decide wsX0_decisionTime := goodIn_r _ [16] (by decide +kernel) (by decide +kernel)
set_option maxRecDepth 20000 in
theorem gX0_decide_X0_decisionTime : GoodIn wsX0_decide (va_wsS RX0 104 yX0_decisionTime wsX0_decisionTime) := goodIn_app (goodIn_of _ (by decide +kernel)) ggX0_decide_X0_decisionTime
set_option maxRecDepth 20000 in
theorem ggX0_decide_X0_route : GoodIn wsX0_decide wsX0_route := goodIn_r _ [20, 21, 3, 22, 23, 24, 9, 25, 26, 27, 28, 29, 30, 31, 4, 32, 33, 34, 35, 36, 37, 38, 39, 40, 41, 42, 43, 44, 5, 45, 46, 47, 48, 49, 50, 51, 52, 53, 57, 58, 59, 60, 61, 62, 63, 64, 65, 66, 67, 68, 69, 70, 71, 72, 73] (by decide +kernel) (by decide +kernel)
set_option maxRecDepth 20000 in
theorem gX0_decide_X0_route : GoodIn wsX0_decide (wsV RX0 96 RX0 yX0_route wsX0_route) := goodIn_app (goodIn_of _ (by decide +kernel)) ggX0_decide_X0_route
set_option maxRecDepth 20000 in
theorem ggX0_decide_X0_nextLevel : GoodIn wsX0_decide wsX0_nextLevel := goodIn_r _ [56] (by decide +kernel) (by decide +kernel)
set_option maxRecDepth 20000 in
theorem gX0_decide_X0_nextLevel : GoodIn wsX0_decide (va_wsS RX0 109 yX0_nextLevel wsX0_nextLevel) := goodIn_app (goodIn_of _ (by decide +kernel)) ggX0_decide_X0_nextLevel
set_option maxRecDepth 20000 in
theorem ggX0_decide_X0_bring : GoodIn wsX0_decide wsX0_bring := goodIn_r _ [44, 27, 3, 5, 4, 45, 46, 47, 48, 49, 9, 50, 51, 52, 53, 57, 58, 59, 60, 61, 62, 63, 64, 65, 66, 67, 68, 69, 70, 71, 72, 73] (by decide +kernel) (by decide +kernel)
set_option maxRecDepth 20000 in
theorem gX0_decide_X0_bring : GoodIn wsX0_decide (wsV RX0 92 RX0 yX0_bring wsX0_bring) := goodIn_app (goodIn_of _ (by decide +kernel)) ggX0_decide_X0_bring
theorem dX0_decide_0 : decode cX0_decide 0 = .ok (.aload_n 0, 1) := by decide +kernel
theorem dX0_decide_1 : decode cX0_decide 1 = .ok (.iload_n 1, 1) := by decide +kernel
theorem dX0_decide_2 : decode cX0_decide 2 = .ok (.invokevirtual 99, 3) := by decide +kernel
theorem dX0_decide_5 : decode cX0_decide 5 = .ok (.aload_n 0, 1) := by decide +kernel
theorem dX0_decide_6 : decode cX0_decide 6 = .ok (.getfield 29, 3) := by decide +kernel
theorem dX0_decide_9 : decode cX0_decide 9 = .ok (.iload_n 1, 1) := by decide +kernel
theorem dX0_decide_10 : decode cX0_decide 10 = .ok (.iaload, 1) := by decide +kernel
theorem dX0_decide_11 : decode cX0_decide 11 = .ok (.istore_n 3, 1) := by decide +kernel
theorem dX0_decide_12 : decode cX0_decide 12 = .ok (.iload_n 3, 1) := by decide +kernel
theorem dX0_decide_13 : decode cX0_decide 13 = .ok (.iconst 1, 1) := by decide +kernel
theorem dX0_decide_14 : decode cX0_decide 14 = .ok (.if_icmp .eq 23, 3) := by decide +kernel
theorem dX0_decide_17 : decode cX0_decide 17 = .ok (.iload_n 3, 1) := by decide +kernel
theorem dX0_decide_18 : decode cX0_decide 18 = .ok (.iconst 2, 1) := by decide +kernel
theorem dX0_decide_19 : decode cX0_decide 19 = .ok (.if_icmp .eq 18, 3) := by decide +kernel
theorem dX0_decide_22 : decode cX0_decide 22 = .ok (.iload_n 3, 1) := by decide +kernel
theorem dX0_decide_23 : decode cX0_decide 23 = .ok (.iconst 3, 1) := by decide +kernel
theorem dX0_decide_24 : decode cX0_decide 24 = .ok (.if_icmp .eq 13, 3) := by decide +kernel
theorem dX0_decide_27 : decode cX0_decide 27 = .ok (.new 61, 3) := by decide +kernel
theorem dX0_decide_30 : decode cX0_decide 30 = .ok (.dup, 1) := by decide +kernel
theorem dX0_decide_31 : decode cX0_decide 31 = .ok (.ldc 102, 2) := by decide +kernel
theorem dX0_decide_33 : decode cX0_decide 33 = .ok (.invokespecial 65, 3) := by decide +kernel
theorem dX0_decide_36 : decode cX0_decide 36 = .ok (.athrow, 1) := by decide +kernel
theorem dX0_decide_37 : decode cX0_decide 37 = .ok (.aload_n 0, 1) := by decide +kernel
theorem dX0_decide_38 : decode cX0_decide 38 = .ok (.getfield 66, 3) := by decide +kernel
theorem dX0_decide_41 : decode cX0_decide 41 = .ok (.aload_n 0, 1) := by decide +kernel
theorem dX0_decide_42 : decode cX0_decide 42 = .ok (.getfield 35, 3) := by decide +kernel
theorem dX0_decide_45 : decode cX0_decide 45 = .ok (.iload_n 1, 1) := by decide +kernel
theorem dX0_decide_46 : decode cX0_decide 46 = .ok (.iaload, 1) := by decide +kernel
theorem dX0_decide_47 : decode cX0_decide 47 = .ok (.isub, 1) := by decide +kernel
theorem dX0_decide_48 : decode cX0_decide 48 = .ok (.iload_n 3, 1) := by decide +kernel
theorem dX0_decide_49 : decode cX0_decide 49 = .ok (.invokestatic 104, 3) := by decide +kernel
theorem dX0_decide_52 : decode cX0_decide 52 = .ok (.if_icmp .ge 13, 3) := by decide +kernel
theorem dX0_decide_55 : decode cX0_decide 55 = .ok (.new 61, 3) := by decide +kernel
theorem dX0_decide_58 : decode cX0_decide 58 = .ok (.dup, 1) := by decide +kernel
theorem dX0_decide_59 : decode cX0_decide 59 = .ok (.ldc 107, 2) := by decide +kernel
theorem dX0_decide_61 : decode cX0_decide 61 = .ok (.invokespecial 65, 3) := by decide +kernel
theorem dX0_decide_64 : decode cX0_decide 64 = .ok (.athrow, 1) := by decide +kernel
theorem dX0_decide_65 : decode cX0_decide 65 = .ok (.iload_n 2, 1) := by decide +kernel
theorem dX0_decide_66 : decode cX0_decide 66 = .ok (.ifCond .eq 11, 3) := by decide +kernel
theorem dX0_decide_69 : decode cX0_decide 69 = .ok (.aload_n 0, 1) := by decide +kernel
theorem dX0_decide_70 : decode cX0_decide 70 = .ok (.iload_n 1, 1) := by decide +kernel
theorem dX0_decide_71 : decode cX0_decide 71 = .ok (.invokevirtual 96, 3) := by decide +kernel
theorem dX0_decide_74 : decode cX0_decide 74 = .ok (.goto 12, 3) := by decide +kernel
theorem dX0_decide_77 : decode cX0_decide 77 = .ok (.aload_n 0, 1) := by decide +kernel
theorem dX0_decide_78 : decode cX0_decide 78 = .ok (.iload_n 1, 1) := by decide +kernel
theorem dX0_decide_79 : decode cX0_decide 79 = .ok (.iload_n 3, 1) := by decide +kernel
theorem dX0_decide_80 : decode cX0_decide 80 = .ok (.invokestatic 109, 3) := by decide +kernel
theorem dX0_decide_83 : decode cX0_decide 83 = .ok (.invokevirtual 92, 3) := by decide +kernel
theorem dX0_decide_86 : decode cX0_decide 86 = .ok (.aload_n 0, 1) := by decide +kernel
theorem dX0_decide_87 : decode cX0_decide 87 = .ok (.getfield 29, 3) := by decide +kernel
theorem dX0_decide_90 : decode cX0_decide 90 = .ok (.iload_n 1, 1) := by decide +kernel
theorem dX0_decide_91 : decode cX0_decide 91 = .ok (.iaload, 1) := by decide +kernel
theorem dX0_decide_92 : decode cX0_decide 92 = .ok (.ireturn, 1) := by decide +kernel
set_option maxRecDepth 20000 in
theorem ggX0_letGo_X0_requireBag : GoodIn wsX0_letGo wsX0_requireBag := goodIn_ca (goodIn_r _ [6, 7, 8, 9, 55, 56, 57, 58, 59, 60, 61, 62, 63, 64, 65, 66, 67, 68, 69, 70, 71] (by decide +kernel) (by decide +kernel)) (goodIn_sub (fun _ h => List.mem_cons_of_mem _ (List.mem_append_left _ (List.mem_append_right _ h))) (by decide +kernel))
set_option maxRecDepth 20000 in
theorem gX0_letGo_X0_requireBag : GoodIn wsX0_letGo (wsV RX0 99 RX0 yX0_requireBag wsX0_requireBag) := goodIn_app (goodIn_of _ (by decide +kernel)) ggX0_letGo_X0_requireBag
set_option maxRecDepth 20000 in
theorem ggX0_letGo_X0_requirePlace : GoodIn wsX0_letGo wsX0_requirePlace := goodIn_ca (goodIn_r _ [13, 14, 15, 1, 55, 56, 57, 58, 59, 60, 61, 62, 63, 64, 65, 66, 67, 68, 69, 70, 71] (by decide +kernel) (by decide +kernel)) (goodIn_sub (fun _ h => List.mem_cons_of_mem _ (List.mem_append_right _ h)) (by decide +kernel))
set_option maxRecDepth 20000 in
theorem gX0_letGo_X0_requirePlace : GoodIn wsX0_letGo (wsV RX0 112 RX0 yX0_requirePlace wsX0_requirePlace) := goodIn_app (goodIn_of _ (by decide +kernel)) ggX0_letGo_X0_requirePlace
set_option maxRecDepth 20000 in
theorem ggX0_letGo_X0_route : GoodIn wsX0_letGo wsX0_route := goodIn_r _ [19, 20, 1, 21, 22, 23, 5, 24, 25, 26, 27, 28, 29, 30, 31, 32, 33, 34, 35, 36, 37, 38, 39, 40, 41, 42, 43, 44, 45, 46, 47, 48, 49, 50, 51, 52, 53, 54, 55, 56, 57, 58, 59, 60, 61, 62, 63, 64, 65, 66, 67, 68, 69, 70, 71] (by decide +kernel) (by decide +kernel)
set_option maxRecDepth 20000 in
theorem gX0_letGo_X0_route : GoodIn wsX0_letGo (wsV RX0 96 RX0 yX0_route wsX0_route) := goodIn_app (goodIn_of _ (by decide +kernel)) ggX0_letGo_X0_route
theorem dX0_letGo_0 : decode cX0_letGo 0 = .ok (.aload_n 0, 1) := by decide +kernel
theorem dX0_letGo_1 : decode cX0_letGo 1 = .ok (.iload_n 1, 1) := by decide +kernel
theorem dX0_letGo_2 : decode cX0_letGo 2 = .ok (.invokevirtual 99, 3) := by decide +kernel
theorem dX0_letGo_5 : decode cX0_letGo 5 = .ok (.aload_n 0, 1) := by decide +kernel
theorem dX0_letGo_6 : decode cX0_letGo 6 = .ok (.iload_n 1, 1) := by decide +kernel
theorem dX0_letGo_7 : decode cX0_letGo 7 = .ok (.iconst 4, 1) := by decide +kernel
theorem dX0_letGo_8 : decode cX0_letGo 8 = .ok (.invokevirtual 112, 3) := by decide +kernel
theorem dX0_letGo_11 : decode cX0_letGo 11 = .ok (.aload_n 0, 1) := by decide +kernel
theorem dX0_letGo_12 : decode cX0_letGo 12 = .ok (.iload_n 1, 1) := by decide +kernel
theorem dX0_letGo_13 : decode cX0_letGo 13 = .ok (.invokevirtual 96, 3) := by decide +kernel
theorem dX0_letGo_16 : decode cX0_letGo 16 = .ok (.aload_n 0, 1) := by decide +kernel
theorem dX0_letGo_17 : decode cX0_letGo 17 = .ok (.getfield 29, 3) := by decide +kernel
theorem dX0_letGo_20 : decode cX0_letGo 20 = .ok (.iload_n 1, 1) := by decide +kernel
theorem dX0_letGo_21 : decode cX0_letGo 21 = .ok (.iaload, 1) := by decide +kernel
theorem dX0_letGo_22 : decode cX0_letGo 22 = .ok (.ireturn, 1) := by decide +kernel
set_option maxRecDepth 20000 in
theorem ggX0_load_X0_requireBag : GoodIn wsX0_load wsX0_requireBag := goodIn_ca (goodIn_r _ [6, 7, 8, 9, 41, 42, 43, 44, 45, 46, 47, 48, 49, 50, 51, 52, 53, 54, 55, 56, 57] (by decide +kernel) (by decide +kernel)) (goodIn_sub (fun _ h => List.mem_cons_of_mem _ (List.mem_append_left _ (List.mem_append_right _ h))) (by decide +kernel))
set_option maxRecDepth 20000 in
theorem gX0_load_X0_requireBag : GoodIn wsX0_load (wsV RX0 99 RX0 yX0_requireBag wsX0_requireBag) := goodIn_app (goodIn_of _ (by decide +kernel)) ggX0_load_X0_requireBag
set_option maxRecDepth 20000 in
theorem ggX0_load_X0_requirePlace : GoodIn wsX0_load wsX0_requirePlace := goodIn_ca (goodIn_r _ [13, 14, 15, 16, 41, 42, 43, 44, 45, 46, 47, 48, 49, 50, 51, 52, 53, 54, 55, 56, 57] (by decide +kernel) (by decide +kernel)) (goodIn_sub (fun _ h => List.mem_cons_of_mem _ (List.mem_append_right _ h)) (by decide +kernel))
set_option maxRecDepth 20000 in
theorem gX0_load_X0_requirePlace : GoodIn wsX0_load (wsV RX0 112 RX0 yX0_requirePlace wsX0_requirePlace) := goodIn_app (goodIn_of _ (by decide +kernel)) ggX0_load_X0_requirePlace
set_option maxRecDepth 20000 in
theorem ggX0_load_X0_bring : GoodIn wsX0_load wsX0_bring := goodIn_r _ [20, 21, 16, 22, 23, 24, 25, 26, 27, 28, 5, 29, 30, 31, 32, 41, 42, 43, 44, 45, 46, 47, 48, 49, 50, 51, 52, 53, 54, 55, 56, 57] (by decide +kernel) (by decide +kernel)
set_option maxRecDepth 20000 in
theorem gX0_load_X0_bring : GoodIn wsX0_load (wsV RX0 92 RX0 yX0_bring wsX0_bring) := goodIn_app (goodIn_of _ (by decide +kernel)) ggX0_load_X0_bring
set_option maxRecDepth 20000 in
theorem ggX0_load_X0_loadedBags : GoodIn wsX0_load wsX0_loadedBags := goodIn_r _ [36, 9, 37, 38, 39, 5, 40, 16, 1, 41, 42, 43, 44, 45, 46, 47, 48, 49, 50, 51, 52, 53, 54, 55, 56, 57] (by decide +kernel) (by decide +kernel)
set_option maxRecDepth 20000 in
theorem gX0_load_X0_loadedBags : GoodIn wsX0_load (wsV RX0 115 RX0 yX0_loadedBags wsX0_loadedBags) := goodIn_app (goodIn_of _ (by decide +kernel)) ggX0_load_X0_loadedBags
theorem dX0_load_0 : decode cX0_load 0 = .ok (.aload_n 0, 1) := by decide +kernel
theorem dX0_load_1 : decode cX0_load 1 = .ok (.iload_n 1, 1) := by decide +kernel
theorem dX0_load_2 : decode cX0_load 2 = .ok (.invokevirtual 99, 3) := by decide +kernel
theorem dX0_load_5 : decode cX0_load 5 = .ok (.aload_n 0, 1) := by decide +kernel
theorem dX0_load_6 : decode cX0_load 6 = .ok (.iload_n 1, 1) := by decide +kernel
theorem dX0_load_7 : decode cX0_load 7 = .ok (.bipush 7, 2) := by decide +kernel
theorem dX0_load_9 : decode cX0_load 9 = .ok (.invokevirtual 112, 3) := by decide +kernel
theorem dX0_load_12 : decode cX0_load 12 = .ok (.aload_n 0, 1) := by decide +kernel
theorem dX0_load_13 : decode cX0_load 13 = .ok (.iload_n 1, 1) := by decide +kernel
theorem dX0_load_14 : decode cX0_load 14 = .ok (.bipush 8, 2) := by decide +kernel
theorem dX0_load_16 : decode cX0_load 16 = .ok (.invokevirtual 92, 3) := by decide +kernel
theorem dX0_load_19 : decode cX0_load 19 = .ok (.aload_n 0, 1) := by decide +kernel
theorem dX0_load_20 : decode cX0_load 20 = .ok (.aload_n 0, 1) := by decide +kernel
theorem dX0_load_21 : decode cX0_load 21 = .ok (.getfield 20, 3) := by decide +kernel
theorem dX0_load_24 : decode cX0_load 24 = .ok (.iload_n 1, 1) := by decide +kernel
theorem dX0_load_25 : decode cX0_load 25 = .ok (.iaload, 1) := by decide +kernel
theorem dX0_load_26 : decode cX0_load 26 = .ok (.invokevirtual 115, 3) := by decide +kernel
theorem dX0_load_29 : decode cX0_load 29 = .ok (.ireturn, 1) := by decide +kernel
set_option maxRecDepth 20000 in
theorem ggX0_offload_X0_requireBag : GoodIn wsX0_offload wsX0_requireBag := goodIn_ca (goodIn_r _ [6, 7, 8, 9, 41, 42, 43, 44, 45, 46, 47, 48, 49, 50, 51, 52, 53, 54, 55, 56, 57] (by decide +kernel) (by decide +kernel)) (goodIn_sub (fun _ h => List.mem_cons_of_mem _ (List.mem_append_left _ (List.mem_append_right _ h))) (by decide +kernel))
set_option maxRecDepth 20000 in
theorem gX0_offload_X0_requireBag : GoodIn wsX0_offload (wsV RX0 99 RX0 yX0_requireBag wsX0_requireBag) := goodIn_app (goodIn_of _ (by decide +kernel)) ggX0_offload_X0_requireBag
set_option maxRecDepth 20000 in
theorem ggX0_offload_X0_requirePlace : GoodIn wsX0_offload wsX0_requirePlace := goodIn_ca (goodIn_r _ [13, 14, 15, 16, 41, 42, 43, 44, 45, 46, 47, 48, 49, 50, 51, 52, 53, 54, 55, 56, 57] (by decide +kernel) (by decide +kernel)) (goodIn_sub (fun _ h => List.mem_cons_of_mem _ (List.mem_append_right _ h)) (by decide +kernel))
set_option maxRecDepth 20000 in
theorem gX0_offload_X0_requirePlace : GoodIn wsX0_offload (wsV RX0 112 RX0 yX0_requirePlace wsX0_requirePlace) := goodIn_app (goodIn_of _ (by decide +kernel)) ggX0_offload_X0_requirePlace
set_option maxRecDepth 20000 in
theorem ggX0_offload_X0_bring : GoodIn wsX0_offload wsX0_bring := goodIn_r _ [20, 21, 16, 22, 23, 24, 25, 26, 27, 28, 5, 29, 30, 31, 32, 41, 42, 43, 44, 45, 46, 47, 48, 49, 50, 51, 52, 53, 54, 55, 56, 57] (by decide +kernel) (by decide +kernel)
set_option maxRecDepth 20000 in
theorem gX0_offload_X0_bring : GoodIn wsX0_offload (wsV RX0 92 RX0 yX0_bring wsX0_bring) := goodIn_app (goodIn_of _ (by decide +kernel)) ggX0_offload_X0_bring
set_option maxRecDepth 20000 in
theorem ggX0_offload_X0_loadedBags : GoodIn wsX0_offload wsX0_loadedBags := goodIn_r _ [36, 9, 37, 38, 39, 5, 40, 16, 1, 41, 42, 43, 44, 45, 46, 47, 48, 49, 50, 51, 52, 53, 54, 55, 56, 57] (by decide +kernel) (by decide +kernel)
set_option maxRecDepth 20000 in
theorem gX0_offload_X0_loadedBags : GoodIn wsX0_offload (wsV RX0 115 RX0 yX0_loadedBags wsX0_loadedBags) := goodIn_app (goodIn_of _ (by decide +kernel)) ggX0_offload_X0_loadedBags
theorem dX0_offload_0 : decode cX0_offload 0 = .ok (.aload_n 0, 1) := by decide +kernel
theorem dX0_offload_1 : decode cX0_offload 1 = .ok (.iload_n 1, 1) := by decide +kernel
theorem dX0_offload_2 : decode cX0_offload 2 = .ok (.invokevirtual 99, 3) := by decide +kernel
theorem dX0_offload_5 : decode cX0_offload 5 = .ok (.aload_n 0, 1) := by decide +kernel
theorem dX0_offload_6 : decode cX0_offload 6 = .ok (.iload_n 1, 1) := by decide +kernel
theorem dX0_offload_7 : decode cX0_offload 7 = .ok (.bipush 8, 2) := by decide +kernel
theorem dX0_offload_9 : decode cX0_offload 9 = .ok (.invokevirtual 112, 3) := by decide +kernel
theorem dX0_offload_12 : decode cX0_offload 12 = .ok (.aload_n 0, 1) := by decide +kernel
theorem dX0_offload_13 : decode cX0_offload 13 = .ok (.iload_n 1, 1) := by decide +kernel
theorem dX0_offload_14 : decode cX0_offload 14 = .ok (.bipush 10, 2) := by decide +kernel
theorem dX0_offload_16 : decode cX0_offload 16 = .ok (.invokevirtual 92, 3) := by decide +kernel
theorem dX0_offload_19 : decode cX0_offload 19 = .ok (.aload_n 0, 1) := by decide +kernel
theorem dX0_offload_20 : decode cX0_offload 20 = .ok (.aload_n 0, 1) := by decide +kernel
theorem dX0_offload_21 : decode cX0_offload 21 = .ok (.getfield 20, 3) := by decide +kernel
theorem dX0_offload_24 : decode cX0_offload 24 = .ok (.iload_n 1, 1) := by decide +kernel
theorem dX0_offload_25 : decode cX0_offload 25 = .ok (.iaload, 1) := by decide +kernel
theorem dX0_offload_26 : decode cX0_offload 26 = .ok (.invokevirtual 115, 3) := by decide +kernel
theorem dX0_offload_29 : decode cX0_offload 29 = .ok (.ireturn, 1) := by decide +kernel
set_option maxRecDepth 20000 in
theorem ggX0_sendOn_X0_requireBag : GoodIn wsX0_sendOn wsX0_requireBag := goodIn_ca (goodIn_r _ [10, 11, 12, 13, 61, 62, 63, 64, 65, 66, 67, 68, 69, 70, 71, 72, 73, 74, 75, 76, 77] (by decide +kernel) (by decide +kernel)) (goodIn_sub (fun _ h => List.mem_cons_of_mem _ (List.mem_append_right _ h)) (by decide +kernel))
set_option maxRecDepth 20000 in
theorem gX0_sendOn_X0_requireBag : GoodIn wsX0_sendOn (wsV RX0 99 RX0 yX0_requireBag wsX0_requireBag) := goodIn_app (goodIn_of _ (by decide +kernel)) ggX0_sendOn_X0_requireBag
set_option maxRecDepth 20000 in
theorem ggX0_sendOn_X0_requireFlight : GoodIn wsX0_sendOn wsX0_requireFlight := goodIn_ca (goodIn_r _ [17, 11, 12, 18, 61, 62, 63, 64, 65, 66, 67, 68, 69, 70, 71, 72, 73, 74, 75, 76, 77] (by decide +kernel) (by decide +kernel)) (goodIn_sub (fun _ h => List.mem_cons_of_mem _ (List.mem_append_right _ h)) (by decide +kernel))
set_option maxRecDepth 20000 in
theorem gX0_sendOn_X0_requireFlight : GoodIn wsX0_sendOn (wsV RX0 85 RX0 yX0_requireFlight wsX0_requireFlight) := goodIn_app (goodIn_of _ (by decide +kernel)) ggX0_sendOn_X0_requireFlight
set_option maxRecDepth 20000 in
theorem ggX0_sendOn_X0_requireNotDeparted : GoodIn wsX0_sendOn wsX0_requireNotDeparted := goodIn_ca (goodIn_r _ [22, 1, 2, 23, 24, 61, 62, 63, 64, 65, 66, 67, 68, 69, 70, 71, 72, 73, 74, 75, 76, 77] (by decide +kernel) (by decide +kernel)) (goodIn_sub (fun _ h => List.mem_cons_of_mem _ (List.mem_append_left _ (List.mem_append_right _ h))) (by decide +kernel))
set_option maxRecDepth 20000 in
theorem gX0_sendOn_X0_requireNotDeparted : GoodIn wsX0_sendOn (wsV RX0 120 RX0 yX0_requireNotDeparted wsX0_requireNotDeparted) := goodIn_app (goodIn_of _ (by decide +kernel)) ggX0_sendOn_X0_requireNotDeparted
set_option maxRecDepth 20000 in
theorem ggX0_sendOn_X0_route : GoodIn wsX0_sendOn wsX0_route := goodIn_r _ [28, 4, 3, 29, 30, 31, 9, 32, 33, 34, 35, 36, 37, 38, 23, 39, 40, 41, 42, 24, 43, 44, 45, 46, 47, 48, 49, 50, 51, 52, 53, 54, 55, 56, 57, 58, 59, 60, 61, 62, 63, 64, 65, 66, 67, 68, 69, 70, 71, 72, 73, 74, 75, 76, 77] (by decide +kernel) (by decide +kernel)
set_option maxRecDepth 20000 in
theorem gX0_sendOn_X0_route : GoodIn wsX0_sendOn (wsV RX0 96 RX0 yX0_route wsX0_route) := goodIn_app (goodIn_of _ (by decide +kernel)) ggX0_sendOn_X0_route
theorem dX0_sendOn_0 : decode cX0_sendOn 0 = .ok (.aload_n 0, 1) := by decide +kernel
theorem dX0_sendOn_1 : decode cX0_sendOn 1 = .ok (.iload_n 1, 1) := by decide +kernel
theorem dX0_sendOn_2 : decode cX0_sendOn 2 = .ok (.invokevirtual 99, 3) := by decide +kernel
theorem dX0_sendOn_5 : decode cX0_sendOn 5 = .ok (.aload_n 0, 1) := by decide +kernel
theorem dX0_sendOn_6 : decode cX0_sendOn 6 = .ok (.iload_n 2, 1) := by decide +kernel
theorem dX0_sendOn_7 : decode cX0_sendOn 7 = .ok (.invokevirtual 85, 3) := by decide +kernel
theorem dX0_sendOn_10 : decode cX0_sendOn 10 = .ok (.aload_n 0, 1) := by decide +kernel
theorem dX0_sendOn_11 : decode cX0_sendOn 11 = .ok (.getfield 29, 3) := by decide +kernel
theorem dX0_sendOn_14 : decode cX0_sendOn 14 = .ok (.iload_n 1, 1) := by decide +kernel
theorem dX0_sendOn_15 : decode cX0_sendOn 15 = .ok (.iaload, 1) := by decide +kernel
theorem dX0_sendOn_16 : decode cX0_sendOn 16 = .ok (.bipush 10, 2) := by decide +kernel
theorem dX0_sendOn_18 : decode cX0_sendOn 18 = .ok (.if_icmp .eq 24, 3) := by decide +kernel
theorem dX0_sendOn_21 : decode cX0_sendOn 21 = .ok (.aload_n 0, 1) := by decide +kernel
theorem dX0_sendOn_22 : decode cX0_sendOn 22 = .ok (.getfield 29, 3) := by decide +kernel
theorem dX0_sendOn_25 : decode cX0_sendOn 25 = .ok (.iload_n 1, 1) := by decide +kernel
theorem dX0_sendOn_26 : decode cX0_sendOn 26 = .ok (.iaload, 1) := by decide +kernel
theorem dX0_sendOn_27 : decode cX0_sendOn 27 = .ok (.bipush 11, 2) := by decide +kernel
theorem dX0_sendOn_29 : decode cX0_sendOn 29 = .ok (.if_icmp .eq 13, 3) := by decide +kernel
theorem dX0_sendOn_32 : decode cX0_sendOn 32 = .ok (.new 61, 3) := by decide +kernel
theorem dX0_sendOn_35 : decode cX0_sendOn 35 = .ok (.dup, 1) := by decide +kernel
theorem dX0_sendOn_36 : decode cX0_sendOn 36 = .ok (.ldc 118, 2) := by decide +kernel
theorem dX0_sendOn_38 : decode cX0_sendOn 38 = .ok (.invokespecial 65, 3) := by decide +kernel
theorem dX0_sendOn_41 : decode cX0_sendOn 41 = .ok (.athrow, 1) := by decide +kernel
theorem dX0_sendOn_42 : decode cX0_sendOn 42 = .ok (.aload_n 0, 1) := by decide +kernel
theorem dX0_sendOn_43 : decode cX0_sendOn 43 = .ok (.iload_n 2, 1) := by decide +kernel
theorem dX0_sendOn_44 : decode cX0_sendOn 44 = .ok (.invokevirtual 120, 3) := by decide +kernel
theorem dX0_sendOn_47 : decode cX0_sendOn 47 = .ok (.aload_n 0, 1) := by decide +kernel
theorem dX0_sendOn_48 : decode cX0_sendOn 48 = .ok (.getfield 20, 3) := by decide +kernel
theorem dX0_sendOn_51 : decode cX0_sendOn 51 = .ok (.iload_n 1, 1) := by decide +kernel
theorem dX0_sendOn_52 : decode cX0_sendOn 52 = .ok (.iload_n 2, 1) := by decide +kernel
theorem dX0_sendOn_53 : decode cX0_sendOn 53 = .ok (.iastore, 1) := by decide +kernel
theorem dX0_sendOn_54 : decode cX0_sendOn 54 = .ok (.aload_n 0, 1) := by decide +kernel
theorem dX0_sendOn_55 : decode cX0_sendOn 55 = .ok (.getfield 26, 3) := by decide +kernel
theorem dX0_sendOn_58 : decode cX0_sendOn 58 = .ok (.iload_n 1, 1) := by decide +kernel
theorem dX0_sendOn_59 : decode cX0_sendOn 59 = .ok (.iconst 1, 1) := by decide +kernel
theorem dX0_sendOn_60 : decode cX0_sendOn 60 = .ok (.bastore, 1) := by decide +kernel
theorem dX0_sendOn_61 : decode cX0_sendOn 61 = .ok (.aload_n 0, 1) := by decide +kernel
theorem dX0_sendOn_62 : decode cX0_sendOn 62 = .ok (.iload_n 1, 1) := by decide +kernel
theorem dX0_sendOn_63 : decode cX0_sendOn 63 = .ok (.invokevirtual 96, 3) := by decide +kernel
theorem dX0_sendOn_66 : decode cX0_sendOn 66 = .ok (.aload_n 0, 1) := by decide +kernel
theorem dX0_sendOn_67 : decode cX0_sendOn 67 = .ok (.getfield 29, 3) := by decide +kernel
theorem dX0_sendOn_70 : decode cX0_sendOn 70 = .ok (.iload_n 1, 1) := by decide +kernel
theorem dX0_sendOn_71 : decode cX0_sendOn 71 = .ok (.iaload, 1) := by decide +kernel
theorem dX0_sendOn_72 : decode cX0_sendOn 72 = .ok (.ireturn, 1) := by decide +kernel
theorem dX0_bags_0 : decode cX0_bags 0 = .ok (.aload_n 0, 1) := by decide +kernel
theorem dX0_bags_1 : decode cX0_bags 1 = .ok (.getfield 123, 3) := by decide +kernel
theorem dX0_bags_4 : decode cX0_bags 4 = .ok (.ireturn, 1) := by decide +kernel
set_option maxRecDepth 20000 in
theorem ggX0_placeOf_X0_requireBag : GoodIn wsX0_placeOf wsX0_requireBag := goodIn_ca (goodIn_r _ [6, 7, 8, 9, 10, 11, 12, 13, 14, 15, 16, 17, 18, 19, 20, 21, 22, 23, 24, 25, 26] (by decide +kernel) (by decide +kernel)) (goodIn_sub (fun _ h => List.mem_cons_of_mem _ (List.mem_append_right _ h)) (by decide +kernel))
set_option maxRecDepth 20000 in
theorem gX0_placeOf_X0_requireBag : GoodIn wsX0_placeOf (wsV RX0 99 RX0 yX0_requireBag wsX0_requireBag) := goodIn_app (goodIn_of _ (by decide +kernel)) ggX0_placeOf_X0_requireBag
theorem dX0_placeOf_0 : decode cX0_placeOf 0 = .ok (.aload_n 0, 1) := by decide +kernel
theorem dX0_placeOf_1 : decode cX0_placeOf 1 = .ok (.iload_n 1, 1) := by decide +kernel
theorem dX0_placeOf_2 : decode cX0_placeOf 2 = .ok (.invokevirtual 99, 3) := by decide +kernel
theorem dX0_placeOf_5 : decode cX0_placeOf 5 = .ok (.aload_n 0, 1) := by decide +kernel
theorem dX0_placeOf_6 : decode cX0_placeOf 6 = .ok (.getfield 29, 3) := by decide +kernel
theorem dX0_placeOf_9 : decode cX0_placeOf 9 = .ok (.iload_n 1, 1) := by decide +kernel
theorem dX0_placeOf_10 : decode cX0_placeOf 10 = .ok (.iaload, 1) := by decide +kernel
theorem dX0_placeOf_11 : decode cX0_placeOf 11 = .ok (.ireturn, 1) := by decide +kernel
set_option maxRecDepth 20000 in
theorem ggX0_placeByScans_X0_requireBag : GoodIn wsX0_placeByScans wsX0_requireBag := goodIn_ca (goodIn_r _ [12, 13, 14, 15, 16, 17, 18, 19, 20, 21, 22, 23, 24, 25, 26, 27, 28, 29, 30, 31, 32] (by decide +kernel) (by decide +kernel)) (goodIn_sub (fun _ h => List.mem_cons_of_mem _ (List.mem_append_right _ h)) (by decide +kernel))
set_option maxRecDepth 20000 in
theorem gX0_placeByScans_X0_requireBag : GoodIn wsX0_placeByScans (wsV RX0 99 RX0 yX0_requireBag wsX0_requireBag) := goodIn_app (goodIn_of _ (by decide +kernel)) ggX0_placeByScans_X0_requireBag
theorem dX0_placeByScans_0 : decode cX0_placeByScans 0 = .ok (.aload_n 0, 1) := by decide +kernel
theorem dX0_placeByScans_1 : decode cX0_placeByScans 1 = .ok (.iload_n 1, 1) := by decide +kernel
theorem dX0_placeByScans_2 : decode cX0_placeByScans 2 = .ok (.invokevirtual 99, 3) := by decide +kernel
theorem dX0_placeByScans_5 : decode cX0_placeByScans 5 = .ok (.iload_n 2, 1) := by decide +kernel
theorem dX0_placeByScans_6 : decode cX0_placeByScans 6 = .ok (.ifCond .lt 11, 3) := by decide +kernel
theorem dX0_placeByScans_9 : decode cX0_placeByScans 9 = .ok (.iload_n 2, 1) := by decide +kernel
theorem dX0_placeByScans_10 : decode cX0_placeByScans 10 = .ok (.aload_n 0, 1) := by decide +kernel
theorem dX0_placeByScans_11 : decode cX0_placeByScans 11 = .ok (.getfield 66, 3) := by decide +kernel
theorem dX0_placeByScans_14 : decode cX0_placeByScans 14 = .ok (.if_icmp .le 13, 3) := by decide +kernel
theorem dX0_placeByScans_17 : decode cX0_placeByScans 17 = .ok (.new 50, 3) := by decide +kernel
theorem dX0_placeByScans_20 : decode cX0_placeByScans 20 = .ok (.dup, 1) := by decide +kernel
theorem dX0_placeByScans_21 : decode cX0_placeByScans 21 = .ok (.ldc 126, 2) := by decide +kernel
theorem dX0_placeByScans_23 : decode cX0_placeByScans 23 = .ok (.invokespecial 54, 3) := by decide +kernel
theorem dX0_placeByScans_26 : decode cX0_placeByScans 26 = .ok (.athrow, 1) := by decide +kernel
theorem dX0_placeByScans_27 : decode cX0_placeByScans 27 = .ok (.aload_n 0, 1) := by decide +kernel
theorem dX0_placeByScans_28 : decode cX0_placeByScans 28 = .ok (.getfield 79, 3) := by decide +kernel
theorem dX0_placeByScans_31 : decode cX0_placeByScans 31 = .ok (.iconst 1, 1) := by decide +kernel
theorem dX0_placeByScans_32 : decode cX0_placeByScans 32 = .ok (.isub, 1) := by decide +kernel
theorem dX0_placeByScans_33 : decode cX0_placeByScans 33 = .ok (.istore_n 3, 1) := by decide +kernel
theorem dX0_placeByScans_34 : decode cX0_placeByScans 34 = .ok (.iload_n 3, 1) := by decide +kernel
theorem dX0_placeByScans_35 : decode cX0_placeByScans 35 = .ok (.ifCond .lt 36, 3) := by decide +kernel
theorem dX0_placeByScans_38 : decode cX0_placeByScans 38 = .ok (.aload_n 0, 1) := by decide +kernel
theorem dX0_placeByScans_39 : decode cX0_placeByScans 39 = .ok (.getfield 41, 3) := by decide +kernel
theorem dX0_placeByScans_42 : decode cX0_placeByScans 42 = .ok (.iload_n 3, 1) := by decide +kernel
theorem dX0_placeByScans_43 : decode cX0_placeByScans 43 = .ok (.iaload, 1) := by decide +kernel
theorem dX0_placeByScans_44 : decode cX0_placeByScans 44 = .ok (.iload_n 1, 1) := by decide +kernel
theorem dX0_placeByScans_45 : decode cX0_placeByScans 45 = .ok (.if_icmp .ne 20, 3) := by decide +kernel
theorem dX0_placeByScans_48 : decode cX0_placeByScans 48 = .ok (.aload_n 0, 1) := by decide +kernel
theorem dX0_placeByScans_49 : decode cX0_placeByScans 49 = .ok (.getfield 47, 3) := by decide +kernel
theorem dX0_placeByScans_52 : decode cX0_placeByScans 52 = .ok (.iload_n 3, 1) := by decide +kernel
theorem dX0_placeByScans_53 : decode cX0_placeByScans 53 = .ok (.iaload, 1) := by decide +kernel
theorem dX0_placeByScans_54 : decode cX0_placeByScans 54 = .ok (.iload_n 2, 1) := by decide +kernel
theorem dX0_placeByScans_55 : decode cX0_placeByScans 55 = .ok (.if_icmp .gt 10, 3) := by decide +kernel
theorem dX0_placeByScans_58 : decode cX0_placeByScans 58 = .ok (.aload_n 0, 1) := by decide +kernel
theorem dX0_placeByScans_59 : decode cX0_placeByScans 59 = .ok (.getfield 44, 3) := by decide +kernel
theorem dX0_placeByScans_62 : decode cX0_placeByScans 62 = .ok (.iload_n 3, 1) := by decide +kernel
theorem dX0_placeByScans_63 : decode cX0_placeByScans 63 = .ok (.iaload, 1) := by decide +kernel
theorem dX0_placeByScans_64 : decode cX0_placeByScans 64 = .ok (.ireturn, 1) := by decide +kernel
theorem dX0_placeByScans_65 : decode cX0_placeByScans 65 = .ok (.iinc 3 (-1), 3) := by decide +kernel
theorem dX0_placeByScans_68 : decode cX0_placeByScans 68 = .ok (.goto (-34), 3) := by decide +kernel
theorem dX0_placeByScans_71 : decode cX0_placeByScans 71 = .ok (.iconst (-1), 1) := by decide +kernel
theorem dX0_placeByScans_72 : decode cX0_placeByScans 72 = .ok (.ireturn, 1) := by decide +kernel
set_option maxRecDepth 20000 in
theorem ggX0_flightOf_X0_requireBag : GoodIn wsX0_flightOf wsX0_requireBag := goodIn_ca (goodIn_r _ [6, 7, 8, 9, 10, 11, 12, 13, 14, 15, 16, 17, 18, 19, 20, 21, 22, 23, 24, 25, 26] (by decide +kernel) (by decide +kernel)) (goodIn_sub (fun _ h => List.mem_cons_of_mem _ (List.mem_append_right _ h)) (by decide +kernel))
set_option maxRecDepth 20000 in
theorem gX0_flightOf_X0_requireBag : GoodIn wsX0_flightOf (wsV RX0 99 RX0 yX0_requireBag wsX0_requireBag) := goodIn_app (goodIn_of _ (by decide +kernel)) ggX0_flightOf_X0_requireBag
theorem dX0_flightOf_0 : decode cX0_flightOf 0 = .ok (.aload_n 0, 1) := by decide +kernel
theorem dX0_flightOf_1 : decode cX0_flightOf 1 = .ok (.iload_n 1, 1) := by decide +kernel
theorem dX0_flightOf_2 : decode cX0_flightOf 2 = .ok (.invokevirtual 99, 3) := by decide +kernel
theorem dX0_flightOf_5 : decode cX0_flightOf 5 = .ok (.aload_n 0, 1) := by decide +kernel
theorem dX0_flightOf_6 : decode cX0_flightOf 6 = .ok (.getfield 20, 3) := by decide +kernel
theorem dX0_flightOf_9 : decode cX0_flightOf 9 = .ok (.iload_n 1, 1) := by decide +kernel
theorem dX0_flightOf_10 : decode cX0_flightOf 10 = .ok (.iaload, 1) := by decide +kernel
theorem dX0_flightOf_11 : decode cX0_flightOf 11 = .ok (.ireturn, 1) := by decide +kernel
theorem dX0_count_0 : decode cX0_count 0 = .ok (.iload_n 1, 1) := by decide +kernel
theorem dX0_count_1 : decode cX0_count 1 = .ok (.iconst 1, 1) := by decide +kernel
theorem dX0_count_2 : decode cX0_count 2 = .ok (.if_icmp .lt 9, 3) := by decide +kernel
theorem dX0_count_5 : decode cX0_count 5 = .ok (.iload_n 1, 1) := by decide +kernel
theorem dX0_count_6 : decode cX0_count 6 = .ok (.bipush 11, 2) := by decide +kernel
theorem dX0_count_8 : decode cX0_count 8 = .ok (.if_icmp .le 13, 3) := by decide +kernel
theorem dX0_count_11 : decode cX0_count 11 = .ok (.new 50, 3) := by decide +kernel
theorem dX0_count_14 : decode cX0_count 14 = .ok (.dup, 1) := by decide +kernel
theorem dX0_count_15 : decode cX0_count 15 = .ok (.ldc 128, 2) := by decide +kernel
theorem dX0_count_17 : decode cX0_count 17 = .ok (.invokespecial 54, 3) := by decide +kernel
theorem dX0_count_20 : decode cX0_count 20 = .ok (.athrow, 1) := by decide +kernel
theorem dX0_count_21 : decode cX0_count 21 = .ok (.aload_n 0, 1) := by decide +kernel
theorem dX0_count_22 : decode cX0_count 22 = .ok (.getfield 38, 3) := by decide +kernel
theorem dX0_count_25 : decode cX0_count 25 = .ok (.iload_n 1, 1) := by decide +kernel
theorem dX0_count_26 : decode cX0_count 26 = .ok (.iaload, 1) := by decide +kernel
theorem dX0_count_27 : decode cX0_count 27 = .ok (.ireturn, 1) := by decide +kernel
theorem dX0_atLateral_0 : decode cX0_atLateral 0 = .ok (.iload_n 1, 1) := by decide +kernel
theorem dX0_atLateral_1 : decode cX0_atLateral 1 = .ok (.ifCond .lt 8, 3) := by decide +kernel
theorem dX0_atLateral_4 : decode cX0_atLateral 4 = .ok (.iload_n 1, 1) := by decide +kernel
theorem dX0_atLateral_5 : decode cX0_atLateral 5 = .ok (.iconst 4, 1) := by decide +kernel
theorem dX0_atLateral_6 : decode cX0_atLateral 6 = .ok (.if_icmp .lt 13, 3) := by decide +kernel
theorem dX0_atLateral_9 : decode cX0_atLateral 9 = .ok (.new 130, 3) := by decide +kernel
theorem dX0_atLateral_12 : decode cX0_atLateral 12 = .ok (.dup, 1) := by decide +kernel
theorem dX0_atLateral_13 : decode cX0_atLateral 13 = .ok (.ldc 132, 2) := by decide +kernel
theorem dX0_atLateral_15 : decode cX0_atLateral 15 = .ok (.invokespecial 134, 3) := by decide +kernel
theorem dX0_atLateral_18 : decode cX0_atLateral 18 = .ok (.athrow, 1) := by decide +kernel
theorem dX0_atLateral_19 : decode cX0_atLateral 19 = .ok (.iconst 0, 1) := by decide +kernel
theorem dX0_atLateral_20 : decode cX0_atLateral 20 = .ok (.istore_n 2, 1) := by decide +kernel
theorem dX0_atLateral_21 : decode cX0_atLateral 21 = .ok (.iconst 0, 1) := by decide +kernel
theorem dX0_atLateral_22 : decode cX0_atLateral 22 = .ok (.istore_n 3, 1) := by decide +kernel
theorem dX0_atLateral_23 : decode cX0_atLateral 23 = .ok (.iload_n 3, 1) := by decide +kernel
theorem dX0_atLateral_24 : decode cX0_atLateral 24 = .ok (.aload_n 0, 1) := by decide +kernel
theorem dX0_atLateral_25 : decode cX0_atLateral 25 = .ok (.getfield 123, 3) := by decide +kernel
theorem dX0_atLateral_28 : decode cX0_atLateral 28 = .ok (.if_icmp .ge 38, 3) := by decide +kernel
theorem dX0_atLateral_31 : decode cX0_atLateral 31 = .ok (.aload_n 0, 1) := by decide +kernel
theorem dX0_atLateral_32 : decode cX0_atLateral 32 = .ok (.getfield 29, 3) := by decide +kernel
theorem dX0_atLateral_35 : decode cX0_atLateral 35 = .ok (.iload_n 3, 1) := by decide +kernel
theorem dX0_atLateral_36 : decode cX0_atLateral 36 = .ok (.iaload, 1) := by decide +kernel
theorem dX0_atLateral_37 : decode cX0_atLateral 37 = .ok (.bipush 7, 2) := by decide +kernel
theorem dX0_atLateral_39 : decode cX0_atLateral 39 = .ok (.if_icmp .ne 21, 3) := by decide +kernel
theorem dX0_atLateral_42 : decode cX0_atLateral 42 = .ok (.aload_n 0, 1) := by decide +kernel
theorem dX0_atLateral_43 : decode cX0_atLateral 43 = .ok (.getfield 13, 3) := by decide +kernel
theorem dX0_atLateral_46 : decode cX0_atLateral 46 = .ok (.aload_n 0, 1) := by decide +kernel
theorem dX0_atLateral_47 : decode cX0_atLateral 47 = .ok (.getfield 20, 3) := by decide +kernel
theorem dX0_atLateral_50 : decode cX0_atLateral 50 = .ok (.iload_n 3, 1) := by decide +kernel
theorem dX0_atLateral_51 : decode cX0_atLateral 51 = .ok (.iaload, 1) := by decide +kernel
theorem dX0_atLateral_52 : decode cX0_atLateral 52 = .ok (.iaload, 1) := by decide +kernel
theorem dX0_atLateral_53 : decode cX0_atLateral 53 = .ok (.iload_n 1, 1) := by decide +kernel
theorem dX0_atLateral_54 : decode cX0_atLateral 54 = .ok (.if_icmp .ne 6, 3) := by decide +kernel
theorem dX0_atLateral_57 : decode cX0_atLateral 57 = .ok (.iinc 2 1, 3) := by decide +kernel
theorem dX0_atLateral_60 : decode cX0_atLateral 60 = .ok (.iinc 3 1, 3) := by decide +kernel
theorem dX0_atLateral_63 : decode cX0_atLateral 63 = .ok (.goto (-40), 3) := by decide +kernel
theorem dX0_atLateral_66 : decode cX0_atLateral 66 = .ok (.iload_n 2, 1) := by decide +kernel
theorem dX0_atLateral_67 : decode cX0_atLateral 67 = .ok (.ireturn, 1) := by decide +kernel
set_option maxRecDepth 20000 in
theorem ggX0_unmatched_X0_requireFlight : GoodIn wsX0_unmatched wsX0_requireFlight := goodIn_ca (goodIn_r _ [6, 7, 8, 9, 23, 24, 25, 26, 27, 28, 29, 30, 31, 32, 33, 34, 35, 36, 37, 38, 39] (by decide +kernel) (by decide +kernel)) (goodIn_sub (fun _ h => List.mem_cons_of_mem _ (List.mem_append_right _ h)) (by decide +kernel))
set_option maxRecDepth 20000 in
theorem gX0_unmatched_X0_requireFlight : GoodIn wsX0_unmatched (wsV RX0 85 RX0 yX0_requireFlight wsX0_requireFlight) := goodIn_app (goodIn_of _ (by decide +kernel)) ggX0_unmatched_X0_requireFlight
set_option maxRecDepth 20000 in
theorem ggX0_unmatched_X0_isLoadedFor : GoodIn wsX0_unmatched wsX0_isLoadedFor := goodIn_r _ [13, 14, 15, 23, 24, 25, 26, 27, 28, 29, 30, 31, 32, 33, 34, 35, 36, 37, 38, 39] (by decide +kernel) (by decide +kernel)
set_option maxRecDepth 20000 in
theorem gX0_unmatched_X0_isLoadedFor : GoodIn wsX0_unmatched (wsV RX0 135 RX0 yX0_isLoadedFor wsX0_isLoadedFor) := goodIn_app (goodIn_of _ (by decide +kernel)) ggX0_unmatched_X0_isLoadedFor
set_option maxRecDepth 20000 in
theorem ggX0_unmatched_X0_mayFly : GoodIn wsX0_unmatched wsX0_mayFly := goodIn_r _ [19, 20, 21, 22, 23, 24, 25, 26, 27, 28, 29, 30, 31, 32, 33, 34, 35, 36, 37, 38, 39] (by decide +kernel) (by decide +kernel)
set_option maxRecDepth 20000 in
theorem gX0_unmatched_X0_mayFly : GoodIn wsX0_unmatched (wsV RX0 139 RX0 yX0_mayFly wsX0_mayFly) := goodIn_app (goodIn_of _ (by decide +kernel)) ggX0_unmatched_X0_mayFly
theorem dX0_unmatched_0 : decode cX0_unmatched 0 = .ok (.aload_n 0, 1) := by decide +kernel
theorem dX0_unmatched_1 : decode cX0_unmatched 1 = .ok (.iload_n 1, 1) := by decide +kernel
theorem dX0_unmatched_2 : decode cX0_unmatched 2 = .ok (.invokevirtual 85, 3) := by decide +kernel
theorem dX0_unmatched_5 : decode cX0_unmatched 5 = .ok (.iconst 0, 1) := by decide +kernel
theorem dX0_unmatched_6 : decode cX0_unmatched 6 = .ok (.istore_n 2, 1) := by decide +kernel
theorem dX0_unmatched_7 : decode cX0_unmatched 7 = .ok (.iconst 0, 1) := by decide +kernel
theorem dX0_unmatched_8 : decode cX0_unmatched 8 = .ok (.istore_n 3, 1) := by decide +kernel
theorem dX0_unmatched_9 : decode cX0_unmatched 9 = .ok (.iload_n 3, 1) := by decide +kernel
theorem dX0_unmatched_10 : decode cX0_unmatched 10 = .ok (.aload_n 0, 1) := by decide +kernel
theorem dX0_unmatched_11 : decode cX0_unmatched 11 = .ok (.getfield 123, 3) := by decide +kernel
theorem dX0_unmatched_14 : decode cX0_unmatched 14 = .ok (.if_icmp .ge 29, 3) := by decide +kernel
theorem dX0_unmatched_17 : decode cX0_unmatched 17 = .ok (.aload_n 0, 1) := by decide +kernel
theorem dX0_unmatched_18 : decode cX0_unmatched 18 = .ok (.iload_n 3, 1) := by decide +kernel
theorem dX0_unmatched_19 : decode cX0_unmatched 19 = .ok (.iload_n 1, 1) := by decide +kernel
theorem dX0_unmatched_20 : decode cX0_unmatched 20 = .ok (.invokevirtual 135, 3) := by decide +kernel
theorem dX0_unmatched_23 : decode cX0_unmatched 23 = .ok (.ifCond .eq 14, 3) := by decide +kernel
theorem dX0_unmatched_26 : decode cX0_unmatched 26 = .ok (.aload_n 0, 1) := by decide +kernel
theorem dX0_unmatched_27 : decode cX0_unmatched 27 = .ok (.iload_n 3, 1) := by decide +kernel
theorem dX0_unmatched_28 : decode cX0_unmatched 28 = .ok (.invokevirtual 139, 3) := by decide +kernel
theorem dX0_unmatched_31 : decode cX0_unmatched 31 = .ok (.ifCond .ne 6, 3) := by decide +kernel
theorem dX0_unmatched_34 : decode cX0_unmatched 34 = .ok (.iinc 2 1, 3) := by decide +kernel
theorem dX0_unmatched_37 : decode cX0_unmatched 37 = .ok (.iinc 3 1, 3) := by decide +kernel
theorem dX0_unmatched_40 : decode cX0_unmatched 40 = .ok (.goto (-31), 3) := by decide +kernel
theorem dX0_unmatched_43 : decode cX0_unmatched 43 = .ok (.iload_n 2, 1) := by decide +kernel
theorem dX0_unmatched_44 : decode cX0_unmatched 44 = .ok (.ireturn, 1) := by decide +kernel
set_option maxRecDepth 20000 in
theorem ggX0_untilClose_X0_requireFlight : GoodIn wsX0_untilClose wsX0_requireFlight := goodIn_ca (goodIn_r _ [10, 11, 12, 13, 19, 20, 21, 22, 23, 24, 25, 26, 27, 28, 29, 30, 31, 32, 33, 34, 35] (by decide +kernel) (by decide +kernel)) (goodIn_sub (fun _ h => List.mem_cons_of_mem _ (List.mem_append_right _ h)) (by decide +kernel))
set_option maxRecDepth 20000 in
theorem gX0_untilClose_X0_requireFlight : GoodIn wsX0_untilClose (wsV RX0 85 RX0 yX0_requireFlight wsX0_requireFlight) := goodIn_app (goodIn_of _ (by decide +kernel)) ggX0_untilClose_X0_requireFlight
set_option maxRecDepth 20000 in
theorem ggX0_untilClose_X0_closing : GoodIn wsX0_untilClose wsX0_closing := goodIn_r _ [17, 18, 19, 20, 21, 22, 23, 24, 25, 26, 27, 28, 29, 30, 31, 32, 33, 34, 35] (by decide +kernel) (by decide +kernel)
set_option maxRecDepth 20000 in
theorem gX0_untilClose_X0_closing : GoodIn wsX0_untilClose (wsV RX0 143 RX0 yX0_closing wsX0_closing) := goodIn_app (goodIn_of _ (by decide +kernel)) ggX0_untilClose_X0_closing
theorem dX0_untilClose_0 : decode cX0_untilClose 0 = .ok (.aload_n 0, 1) := by decide +kernel
theorem dX0_untilClose_1 : decode cX0_untilClose 1 = .ok (.iload_n 1, 1) := by decide +kernel
theorem dX0_untilClose_2 : decode cX0_untilClose 2 = .ok (.invokevirtual 85, 3) := by decide +kernel
theorem dX0_untilClose_5 : decode cX0_untilClose 5 = .ok (.iconst 0, 1) := by decide +kernel
theorem dX0_untilClose_6 : decode cX0_untilClose 6 = .ok (.aload_n 0, 1) := by decide +kernel
theorem dX0_untilClose_7 : decode cX0_untilClose 7 = .ok (.iload_n 1, 1) := by decide +kernel
theorem dX0_untilClose_8 : decode cX0_untilClose 8 = .ok (.invokevirtual 143, 3) := by decide +kernel
theorem dX0_untilClose_11 : decode cX0_untilClose 11 = .ok (.aload_n 0, 1) := by decide +kernel
theorem dX0_untilClose_12 : decode cX0_untilClose 12 = .ok (.getfield 66, 3) := by decide +kernel
theorem dX0_untilClose_15 : decode cX0_untilClose 15 = .ok (.isub, 1) := by decide +kernel
theorem dX0_untilClose_16 : decode cX0_untilClose 16 = .ok (.invokestatic 146, 3) := by decide +kernel
theorem dX0_untilClose_19 : decode cX0_untilClose 19 = .ok (.ireturn, 1) := by decide +kernel
theorem dX0_scans_0 : decode cX0_scans 0 = .ok (.aload_n 0, 1) := by decide +kernel
theorem dX0_scans_1 : decode cX0_scans 1 = .ok (.getfield 79, 3) := by decide +kernel
theorem dX0_scans_4 : decode cX0_scans 4 = .ok (.ireturn, 1) := by decide +kernel
set_option maxRecDepth 20000 in
theorem ggX0_bagOfScan_X0_requireScan : GoodIn wsX0_bagOfScan wsX0_requireScan := goodIn_ca (goodIn_r _ [6, 7, 8, 9, 10, 11, 12, 13, 14, 15, 16, 17, 18, 19, 20, 21, 22, 23, 24, 25, 26] (by decide +kernel) (by decide +kernel)) (goodIn_sub (fun _ h => List.mem_cons_of_mem _ (List.mem_append_right _ h)) (by decide +kernel))
set_option maxRecDepth 20000 in
theorem gX0_bagOfScan_X0_requireScan : GoodIn wsX0_bagOfScan (wsV RX0 151 RX0 yX0_requireScan wsX0_requireScan) := goodIn_app (goodIn_of _ (by decide +kernel)) ggX0_bagOfScan_X0_requireScan
theorem dX0_bagOfScan_0 : decode cX0_bagOfScan 0 = .ok (.aload_n 0, 1) := by decide +kernel
theorem dX0_bagOfScan_1 : decode cX0_bagOfScan 1 = .ok (.iload_n 1, 1) := by decide +kernel
theorem dX0_bagOfScan_2 : decode cX0_bagOfScan 2 = .ok (.invokevirtual 151, 3) := by decide +kernel
theorem dX0_bagOfScan_5 : decode cX0_bagOfScan 5 = .ok (.aload_n 0, 1) := by decide +kernel
theorem dX0_bagOfScan_6 : decode cX0_bagOfScan 6 = .ok (.getfield 41, 3) := by decide +kernel
theorem dX0_bagOfScan_9 : decode cX0_bagOfScan 9 = .ok (.iload_n 1, 1) := by decide +kernel
theorem dX0_bagOfScan_10 : decode cX0_bagOfScan 10 = .ok (.iaload, 1) := by decide +kernel
theorem dX0_bagOfScan_11 : decode cX0_bagOfScan 11 = .ok (.ireturn, 1) := by decide +kernel
set_option maxRecDepth 20000 in
theorem ggX0_placeOfScan_X0_requireScan : GoodIn wsX0_placeOfScan wsX0_requireScan := goodIn_ca (goodIn_r _ [6, 7, 8, 9, 10, 11, 12, 13, 14, 15, 16, 17, 18, 19, 20, 21, 22, 23, 24, 25, 26] (by decide +kernel) (by decide +kernel)) (goodIn_sub (fun _ h => List.mem_cons_of_mem _ (List.mem_append_right _ h)) (by decide +kernel))
set_option maxRecDepth 20000 in
theorem gX0_placeOfScan_X0_requireScan : GoodIn wsX0_placeOfScan (wsV RX0 151 RX0 yX0_requireScan wsX0_requireScan) := goodIn_app (goodIn_of _ (by decide +kernel)) ggX0_placeOfScan_X0_requireScan
theorem dX0_placeOfScan_0 : decode cX0_placeOfScan 0 = .ok (.aload_n 0, 1) := by decide +kernel
theorem dX0_placeOfScan_1 : decode cX0_placeOfScan 1 = .ok (.iload_n 1, 1) := by decide +kernel
theorem dX0_placeOfScan_2 : decode cX0_placeOfScan 2 = .ok (.invokevirtual 151, 3) := by decide +kernel
theorem dX0_placeOfScan_5 : decode cX0_placeOfScan 5 = .ok (.aload_n 0, 1) := by decide +kernel
theorem dX0_placeOfScan_6 : decode cX0_placeOfScan 6 = .ok (.getfield 44, 3) := by decide +kernel
theorem dX0_placeOfScan_9 : decode cX0_placeOfScan 9 = .ok (.iload_n 1, 1) := by decide +kernel
theorem dX0_placeOfScan_10 : decode cX0_placeOfScan 10 = .ok (.iaload, 1) := by decide +kernel
theorem dX0_placeOfScan_11 : decode cX0_placeOfScan 11 = .ok (.ireturn, 1) := by decide +kernel
theorem dX0_requireFlight_0 : decode cX0_requireFlight 0 = .ok (.iload_n 1, 1) := by decide +kernel
theorem dX0_requireFlight_1 : decode cX0_requireFlight 1 = .ok (.ifCond .lt 11, 3) := by decide +kernel
theorem dX0_requireFlight_4 : decode cX0_requireFlight 4 = .ok (.iload_n 1, 1) := by decide +kernel
theorem dX0_requireFlight_5 : decode cX0_requireFlight 5 = .ok (.aload_n 0, 1) := by decide +kernel
theorem dX0_requireFlight_6 : decode cX0_requireFlight 6 = .ok (.getfield 57, 3) := by decide +kernel
theorem dX0_requireFlight_9 : decode cX0_requireFlight 9 = .ok (.if_icmp .lt 13, 3) := by decide +kernel
theorem dX0_requireFlight_12 : decode cX0_requireFlight 12 = .ok (.new 130, 3) := by decide +kernel
theorem dX0_requireFlight_15 : decode cX0_requireFlight 15 = .ok (.dup, 1) := by decide +kernel
theorem dX0_requireFlight_16 : decode cX0_requireFlight 16 = .ok (.ldc 154, 2) := by decide +kernel
theorem dX0_requireFlight_18 : decode cX0_requireFlight 18 = .ok (.invokespecial 134, 3) := by decide +kernel
theorem dX0_requireFlight_21 : decode cX0_requireFlight 21 = .ok (.athrow, 1) := by decide +kernel
theorem dX0_requireFlight_22 : decode cX0_requireFlight 22 = .ok (.return_, 1) := by decide +kernel
theorem dX0_requireRider_0 : decode cX0_requireRider 0 = .ok (.iload_n 1, 1) := by decide +kernel
theorem dX0_requireRider_1 : decode cX0_requireRider 1 = .ok (.ifCond .lt 9, 3) := by decide +kernel
theorem dX0_requireRider_4 : decode cX0_requireRider 4 = .ok (.iload_n 1, 1) := by decide +kernel
theorem dX0_requireRider_5 : decode cX0_requireRider 5 = .ok (.bipush 40, 2) := by decide +kernel
theorem dX0_requireRider_7 : decode cX0_requireRider 7 = .ok (.if_icmp .lt 13, 3) := by decide +kernel
theorem dX0_requireRider_10 : decode cX0_requireRider 10 = .ok (.new 130, 3) := by decide +kernel
theorem dX0_requireRider_13 : decode cX0_requireRider 13 = .ok (.dup, 1) := by decide +kernel
theorem dX0_requireRider_14 : decode cX0_requireRider 14 = .ok (.ldc 156, 2) := by decide +kernel
theorem dX0_requireRider_16 : decode cX0_requireRider 16 = .ok (.invokespecial 134, 3) := by decide +kernel
theorem dX0_requireRider_19 : decode cX0_requireRider 19 = .ok (.athrow, 1) := by decide +kernel
theorem dX0_requireRider_20 : decode cX0_requireRider 20 = .ok (.return_, 1) := by decide +kernel
theorem dX0_requireBag_0 : decode cX0_requireBag 0 = .ok (.iload_n 1, 1) := by decide +kernel
theorem dX0_requireBag_1 : decode cX0_requireBag 1 = .ok (.ifCond .lt 11, 3) := by decide +kernel
theorem dX0_requireBag_4 : decode cX0_requireBag 4 = .ok (.iload_n 1, 1) := by decide +kernel
theorem dX0_requireBag_5 : decode cX0_requireBag 5 = .ok (.aload_n 0, 1) := by decide +kernel
theorem dX0_requireBag_6 : decode cX0_requireBag 6 = .ok (.getfield 123, 3) := by decide +kernel
theorem dX0_requireBag_9 : decode cX0_requireBag 9 = .ok (.if_icmp .lt 13, 3) := by decide +kernel
theorem dX0_requireBag_12 : decode cX0_requireBag 12 = .ok (.new 130, 3) := by decide +kernel
theorem dX0_requireBag_15 : decode cX0_requireBag 15 = .ok (.dup, 1) := by decide +kernel
theorem dX0_requireBag_16 : decode cX0_requireBag 16 = .ok (.ldc 158, 2) := by decide +kernel
theorem dX0_requireBag_18 : decode cX0_requireBag 18 = .ok (.invokespecial 134, 3) := by decide +kernel
theorem dX0_requireBag_21 : decode cX0_requireBag 21 = .ok (.athrow, 1) := by decide +kernel
theorem dX0_requireBag_22 : decode cX0_requireBag 22 = .ok (.return_, 1) := by decide +kernel
theorem dX0_requireScan_0 : decode cX0_requireScan 0 = .ok (.iload_n 1, 1) := by decide +kernel
theorem dX0_requireScan_1 : decode cX0_requireScan 1 = .ok (.ifCond .lt 11, 3) := by decide +kernel
theorem dX0_requireScan_4 : decode cX0_requireScan 4 = .ok (.iload_n 1, 1) := by decide +kernel
theorem dX0_requireScan_5 : decode cX0_requireScan 5 = .ok (.aload_n 0, 1) := by decide +kernel
theorem dX0_requireScan_6 : decode cX0_requireScan 6 = .ok (.getfield 79, 3) := by decide +kernel
theorem dX0_requireScan_9 : decode cX0_requireScan 9 = .ok (.if_icmp .lt 13, 3) := by decide +kernel
theorem dX0_requireScan_12 : decode cX0_requireScan 12 = .ok (.new 130, 3) := by decide +kernel
theorem dX0_requireScan_15 : decode cX0_requireScan 15 = .ok (.dup, 1) := by decide +kernel
theorem dX0_requireScan_16 : decode cX0_requireScan 16 = .ok (.ldc 160, 2) := by decide +kernel
theorem dX0_requireScan_18 : decode cX0_requireScan 18 = .ok (.invokespecial 134, 3) := by decide +kernel
theorem dX0_requireScan_21 : decode cX0_requireScan 21 = .ok (.athrow, 1) := by decide +kernel
theorem dX0_requireScan_22 : decode cX0_requireScan 22 = .ok (.return_, 1) := by decide +kernel
theorem dX0_requirePlace_0 : decode cX0_requirePlace 0 = .ok (.aload_n 0, 1) := by decide +kernel
theorem dX0_requirePlace_1 : decode cX0_requirePlace 1 = .ok (.getfield 29, 3) := by decide +kernel
theorem dX0_requirePlace_4 : decode cX0_requirePlace 4 = .ok (.iload_n 1, 1) := by decide +kernel
theorem dX0_requirePlace_5 : decode cX0_requirePlace 5 = .ok (.iaload, 1) := by decide +kernel
theorem dX0_requirePlace_6 : decode cX0_requirePlace 6 = .ok (.iload_n 2, 1) := by decide +kernel
theorem dX0_requirePlace_7 : decode cX0_requirePlace 7 = .ok (.if_icmp .eq 13, 3) := by decide +kernel
theorem dX0_requirePlace_10 : decode cX0_requirePlace 10 = .ok (.new 61, 3) := by decide +kernel
theorem dX0_requirePlace_13 : decode cX0_requirePlace 13 = .ok (.dup, 1) := by decide +kernel
theorem dX0_requirePlace_14 : decode cX0_requirePlace 14 = .ok (.ldc 162, 2) := by decide +kernel
theorem dX0_requirePlace_16 : decode cX0_requirePlace 16 = .ok (.invokespecial 65, 3) := by decide +kernel
theorem dX0_requirePlace_19 : decode cX0_requirePlace 19 = .ok (.athrow, 1) := by decide +kernel
theorem dX0_requirePlace_20 : decode cX0_requirePlace 20 = .ok (.return_, 1) := by decide +kernel
theorem dX0_requireNotDeparted_0 : decode cX0_requireNotDeparted 0 = .ok (.aload_n 0, 1) := by decide +kernel
theorem dX0_requireNotDeparted_1 : decode cX0_requireNotDeparted 1 = .ok (.getfield 66, 3) := by decide +kernel
theorem dX0_requireNotDeparted_4 : decode cX0_requireNotDeparted 4 = .ok (.aload_n 0, 1) := by decide +kernel
theorem dX0_requireNotDeparted_5 : decode cX0_requireNotDeparted 5 = .ok (.getfield 9, 3) := by decide +kernel
theorem dX0_requireNotDeparted_8 : decode cX0_requireNotDeparted 8 = .ok (.iload_n 1, 1) := by decide +kernel
theorem dX0_requireNotDeparted_9 : decode cX0_requireNotDeparted 9 = .ok (.iaload, 1) := by decide +kernel
theorem dX0_requireNotDeparted_10 : decode cX0_requireNotDeparted 10 = .ok (.if_icmp .lt 13, 3) := by decide +kernel
theorem dX0_requireNotDeparted_13 : decode cX0_requireNotDeparted 13 = .ok (.new 61, 3) := by decide +kernel
theorem dX0_requireNotDeparted_16 : decode cX0_requireNotDeparted 16 = .ok (.dup, 1) := by decide +kernel
theorem dX0_requireNotDeparted_17 : decode cX0_requireNotDeparted 17 = .ok (.ldc 164, 2) := by decide +kernel
theorem dX0_requireNotDeparted_19 : decode cX0_requireNotDeparted 19 = .ok (.invokespecial 65, 3) := by decide +kernel
theorem dX0_requireNotDeparted_22 : decode cX0_requireNotDeparted 22 = .ok (.athrow, 1) := by decide +kernel
theorem dX0_requireNotDeparted_23 : decode cX0_requireNotDeparted 23 = .ok (.return_, 1) := by decide +kernel
set_option maxRecDepth 20000 in
theorem ggX0_lowestFreeLateral_X0_isFree : GoodIn wsX0_lowestFreeLateral wsX0_isFree := goodIn_r _ [5, 6, 7, 8, 9, 10, 11, 12, 13, 14, 15, 16, 17, 18, 19, 20, 21, 22, 23, 24, 25, 26, 27, 28, 29] (by decide +kernel) (by decide +kernel)
set_option maxRecDepth 20000 in
theorem gX0_lowestFreeLateral_X0_isFree : GoodIn wsX0_lowestFreeLateral (wsV RX0 166 RX0 yX0_isFree wsX0_isFree) := goodIn_app (goodIn_of _ (by decide +kernel)) ggX0_lowestFreeLateral_X0_isFree
theorem dX0_lowestFreeLateral_0 : decode cX0_lowestFreeLateral 0 = .ok (.iconst 0, 1) := by decide +kernel
theorem dX0_lowestFreeLateral_1 : decode cX0_lowestFreeLateral 1 = .ok (.istore_n 2, 1) := by decide +kernel
theorem dX0_lowestFreeLateral_2 : decode cX0_lowestFreeLateral 2 = .ok (.iload_n 2, 1) := by decide +kernel
theorem dX0_lowestFreeLateral_3 : decode cX0_lowestFreeLateral 3 = .ok (.iconst 4, 1) := by decide +kernel
theorem dX0_lowestFreeLateral_4 : decode cX0_lowestFreeLateral 4 = .ok (.if_icmp .ge 20, 3) := by decide +kernel
theorem dX0_lowestFreeLateral_7 : decode cX0_lowestFreeLateral 7 = .ok (.aload_n 0, 1) := by decide +kernel
theorem dX0_lowestFreeLateral_8 : decode cX0_lowestFreeLateral 8 = .ok (.iload_n 2, 1) := by decide +kernel
theorem dX0_lowestFreeLateral_9 : decode cX0_lowestFreeLateral 9 = .ok (.iload_n 1, 1) := by decide +kernel
theorem dX0_lowestFreeLateral_10 : decode cX0_lowestFreeLateral 10 = .ok (.invokevirtual 166, 3) := by decide +kernel
theorem dX0_lowestFreeLateral_13 : decode cX0_lowestFreeLateral 13 = .ok (.ifCond .eq 5, 3) := by decide +kernel
theorem dX0_lowestFreeLateral_16 : decode cX0_lowestFreeLateral 16 = .ok (.iload_n 2, 1) := by decide +kernel
theorem dX0_lowestFreeLateral_17 : decode cX0_lowestFreeLateral 17 = .ok (.ireturn, 1) := by decide +kernel
theorem dX0_lowestFreeLateral_18 : decode cX0_lowestFreeLateral 18 = .ok (.iinc 2 1, 3) := by decide +kernel
theorem dX0_lowestFreeLateral_21 : decode cX0_lowestFreeLateral 21 = .ok (.goto (-19), 3) := by decide +kernel
theorem dX0_lowestFreeLateral_24 : decode cX0_lowestFreeLateral 24 = .ok (.iconst (-1), 1) := by decide +kernel
theorem dX0_lowestFreeLateral_25 : decode cX0_lowestFreeLateral 25 = .ok (.ireturn, 1) := by decide +kernel
theorem dX0_isFree_0 : decode cX0_isFree 0 = .ok (.iconst 0, 1) := by decide +kernel
theorem dX0_isFree_1 : decode cX0_isFree 1 = .ok (.istore_n 3, 1) := by decide +kernel
theorem dX0_isFree_2 : decode cX0_isFree 2 = .ok (.iload_n 3, 1) := by decide +kernel
theorem dX0_isFree_3 : decode cX0_isFree 3 = .ok (.aload_n 0, 1) := by decide +kernel
theorem dX0_isFree_4 : decode cX0_isFree 4 = .ok (.getfield 57, 3) := by decide +kernel
theorem dX0_isFree_7 : decode cX0_isFree 7 = .ok (.if_icmp .ge 37, 3) := by decide +kernel
theorem dX0_isFree_10 : decode cX0_isFree 10 = .ok (.aload_n 0, 1) := by decide +kernel
theorem dX0_isFree_11 : decode cX0_isFree 11 = .ok (.getfield 13, 3) := by decide +kernel
theorem dX0_isFree_14 : decode cX0_isFree 14 = .ok (.iload_n 3, 1) := by decide +kernel
theorem dX0_isFree_15 : decode cX0_isFree 15 = .ok (.iaload, 1) := by decide +kernel
theorem dX0_isFree_16 : decode cX0_isFree 16 = .ok (.iload_n 1, 1) := by decide +kernel
theorem dX0_isFree_17 : decode cX0_isFree 17 = .ok (.if_icmp .ne 21, 3) := by decide +kernel
theorem dX0_isFree_20 : decode cX0_isFree 20 = .ok (.aload_n 0, 1) := by decide +kernel
theorem dX0_isFree_21 : decode cX0_isFree 21 = .ok (.getfield 9, 3) := by decide +kernel
theorem dX0_isFree_24 : decode cX0_isFree 24 = .ok (.iload_n 3, 1) := by decide +kernel
theorem dX0_isFree_25 : decode cX0_isFree 25 = .ok (.iaload, 1) := by decide +kernel
theorem dX0_isFree_26 : decode cX0_isFree 26 = .ok (.iload_n 2, 1) := by decide +kernel
theorem dX0_isFree_27 : decode cX0_isFree 27 = .ok (.isub, 1) := by decide +kernel
theorem dX0_isFree_28 : decode cX0_isFree 28 = .ok (.invokestatic 169, 3) := by decide +kernel
theorem dX0_isFree_31 : decode cX0_isFree 31 = .ok (.bipush 60, 2) := by decide +kernel
theorem dX0_isFree_33 : decode cX0_isFree 33 = .ok (.if_icmp .ge 5, 3) := by decide +kernel
theorem dX0_isFree_36 : decode cX0_isFree 36 = .ok (.iconst 0, 1) := by decide +kernel
theorem dX0_isFree_37 : decode cX0_isFree 37 = .ok (.ireturn, 1) := by decide +kernel
theorem dX0_isFree_38 : decode cX0_isFree 38 = .ok (.iinc 3 1, 3) := by decide +kernel
theorem dX0_isFree_41 : decode cX0_isFree 41 = .ok (.goto (-39), 3) := by decide +kernel
theorem dX0_isFree_44 : decode cX0_isFree 44 = .ok (.iconst 1, 1) := by decide +kernel
theorem dX0_isFree_45 : decode cX0_isFree 45 = .ok (.ireturn, 1) := by decide +kernel
theorem dX0_closing_0 : decode cX0_closing 0 = .ok (.aload_n 0, 1) := by decide +kernel
theorem dX0_closing_1 : decode cX0_closing 1 = .ok (.getfield 9, 3) := by decide +kernel
theorem dX0_closing_4 : decode cX0_closing 4 = .ok (.iload_n 1, 1) := by decide +kernel
theorem dX0_closing_5 : decode cX0_closing 5 = .ok (.iaload, 1) := by decide +kernel
theorem dX0_closing_6 : decode cX0_closing 6 = .ok (.bipush 10, 2) := by decide +kernel
theorem dX0_closing_8 : decode cX0_closing 8 = .ok (.isub, 1) := by decide +kernel
theorem dX0_closing_9 : decode cX0_closing 9 = .ok (.ireturn, 1) := by decide +kernel
set_option maxRecDepth 20000 in
theorem ggX0_hasClosed_X0_closing : GoodIn wsX0_hasClosed wsX0_closing := goodIn_r _ [6, 7, 8, 9, 10, 11, 12, 13, 14, 15, 16, 17, 18, 19, 20, 21, 22, 23, 24] (by decide +kernel) (by decide +kernel)
set_option maxRecDepth 20000 in
theorem gX0_hasClosed_X0_closing : GoodIn wsX0_hasClosed (wsV RX0 143 RX0 yX0_closing wsX0_closing) := goodIn_app (goodIn_of _ (by decide +kernel)) ggX0_hasClosed_X0_closing
theorem dX0_hasClosed_0 : decode cX0_hasClosed 0 = .ok (.aload_n 0, 1) := by decide +kernel
theorem dX0_hasClosed_1 : decode cX0_hasClosed 1 = .ok (.getfield 66, 3) := by decide +kernel
theorem dX0_hasClosed_4 : decode cX0_hasClosed 4 = .ok (.aload_n 0, 1) := by decide +kernel
theorem dX0_hasClosed_5 : decode cX0_hasClosed 5 = .ok (.iload_n 1, 1) := by decide +kernel
theorem dX0_hasClosed_6 : decode cX0_hasClosed 6 = .ok (.invokevirtual 143, 3) := by decide +kernel
theorem dX0_hasClosed_9 : decode cX0_hasClosed 9 = .ok (.if_icmp .lt 7, 3) := by decide +kernel
theorem dX0_hasClosed_12 : decode cX0_hasClosed 12 = .ok (.iconst 1, 1) := by decide +kernel
theorem dX0_hasClosed_13 : decode cX0_hasClosed 13 = .ok (.goto 4, 3) := by decide +kernel
theorem dX0_hasClosed_16 : decode cX0_hasClosed 16 = .ok (.iconst 0, 1) := by decide +kernel
theorem dX0_hasClosed_17 : decode cX0_hasClosed 17 = .ok (.ireturn, 1) := by decide +kernel
theorem dX0_hasOpened_0 : decode cX0_hasOpened 0 = .ok (.aload_n 0, 1) := by decide +kernel
theorem dX0_hasOpened_1 : decode cX0_hasOpened 1 = .ok (.getfield 66, 3) := by decide +kernel
theorem dX0_hasOpened_4 : decode cX0_hasOpened 4 = .ok (.aload_n 0, 1) := by decide +kernel
theorem dX0_hasOpened_5 : decode cX0_hasOpened 5 = .ok (.getfield 9, 3) := by decide +kernel
theorem dX0_hasOpened_8 : decode cX0_hasOpened 8 = .ok (.iload_n 1, 1) := by decide +kernel
theorem dX0_hasOpened_9 : decode cX0_hasOpened 9 = .ok (.iaload, 1) := by decide +kernel
theorem dX0_hasOpened_10 : decode cX0_hasOpened 10 = .ok (.bipush 60, 2) := by decide +kernel
theorem dX0_hasOpened_12 : decode cX0_hasOpened 12 = .ok (.isub, 1) := by decide +kernel
theorem dX0_hasOpened_13 : decode cX0_hasOpened 13 = .ok (.if_icmp .lt 7, 3) := by decide +kernel
theorem dX0_hasOpened_16 : decode cX0_hasOpened 16 = .ok (.iconst 1, 1) := by decide +kernel
theorem dX0_hasOpened_17 : decode cX0_hasOpened 17 = .ok (.goto 4, 3) := by decide +kernel
theorem dX0_hasOpened_20 : decode cX0_hasOpened 20 = .ok (.iconst 0, 1) := by decide +kernel
theorem dX0_hasOpened_21 : decode cX0_hasOpened 21 = .ok (.ireturn, 1) := by decide +kernel
set_option maxRecDepth 20000 in
theorem ggX0_loadedBags_X0_isLoadedFor : GoodIn wsX0_loadedBags wsX0_isLoadedFor := goodIn_r _ [6, 7, 8, 9, 10, 11, 12, 13, 14, 15, 16, 17, 18, 19, 20, 21, 22, 23, 24, 25] (by decide +kernel) (by decide +kernel)
set_option maxRecDepth 20000 in
theorem gX0_loadedBags_X0_isLoadedFor : GoodIn wsX0_loadedBags (wsV RX0 135 RX0 yX0_isLoadedFor wsX0_isLoadedFor) := goodIn_app (goodIn_of _ (by decide +kernel)) ggX0_loadedBags_X0_isLoadedFor
theorem dX0_loadedBags_0 : decode cX0_loadedBags 0 = .ok (.iconst 0, 1) := by decide +kernel
theorem dX0_loadedBags_1 : decode cX0_loadedBags 1 = .ok (.istore_n 2, 1) := by decide +kernel
theorem dX0_loadedBags_2 : decode cX0_loadedBags 2 = .ok (.iconst 0, 1) := by decide +kernel
theorem dX0_loadedBags_3 : decode cX0_loadedBags 3 = .ok (.istore_n 3, 1) := by decide +kernel
theorem dX0_loadedBags_4 : decode cX0_loadedBags 4 = .ok (.iload_n 3, 1) := by decide +kernel
theorem dX0_loadedBags_5 : decode cX0_loadedBags 5 = .ok (.aload_n 0, 1) := by decide +kernel
theorem dX0_loadedBags_6 : decode cX0_loadedBags 6 = .ok (.getfield 123, 3) := by decide +kernel
theorem dX0_loadedBags_9 : decode cX0_loadedBags 9 = .ok (.if_icmp .ge 21, 3) := by decide +kernel
theorem dX0_loadedBags_12 : decode cX0_loadedBags 12 = .ok (.aload_n 0, 1) := by decide +kernel
theorem dX0_loadedBags_13 : decode cX0_loadedBags 13 = .ok (.iload_n 3, 1) := by decide +kernel
theorem dX0_loadedBags_14 : decode cX0_loadedBags 14 = .ok (.iload_n 1, 1) := by decide +kernel
theorem dX0_loadedBags_15 : decode cX0_loadedBags 15 = .ok (.invokevirtual 135, 3) := by decide +kernel
theorem dX0_loadedBags_18 : decode cX0_loadedBags 18 = .ok (.ifCond .eq 6, 3) := by decide +kernel
theorem dX0_loadedBags_21 : decode cX0_loadedBags 21 = .ok (.iinc 2 1, 3) := by decide +kernel
theorem dX0_loadedBags_24 : decode cX0_loadedBags 24 = .ok (.iinc 3 1, 3) := by decide +kernel
theorem dX0_loadedBags_27 : decode cX0_loadedBags 27 = .ok (.goto (-23), 3) := by decide +kernel
theorem dX0_loadedBags_30 : decode cX0_loadedBags 30 = .ok (.iload_n 2, 1) := by decide +kernel
theorem dX0_loadedBags_31 : decode cX0_loadedBags 31 = .ok (.ireturn, 1) := by decide +kernel
theorem dX0_isLoadedFor_0 : decode cX0_isLoadedFor 0 = .ok (.aload_n 0, 1) := by decide +kernel
theorem dX0_isLoadedFor_1 : decode cX0_isLoadedFor 1 = .ok (.getfield 29, 3) := by decide +kernel
theorem dX0_isLoadedFor_4 : decode cX0_isLoadedFor 4 = .ok (.iload_n 1, 1) := by decide +kernel
theorem dX0_isLoadedFor_5 : decode cX0_isLoadedFor 5 = .ok (.iaload, 1) := by decide +kernel
theorem dX0_isLoadedFor_6 : decode cX0_isLoadedFor 6 = .ok (.bipush 8, 2) := by decide +kernel
theorem dX0_isLoadedFor_8 : decode cX0_isLoadedFor 8 = .ok (.if_icmp .ne 17, 3) := by decide +kernel
theorem dX0_isLoadedFor_11 : decode cX0_isLoadedFor 11 = .ok (.aload_n 0, 1) := by decide +kernel
theorem dX0_isLoadedFor_12 : decode cX0_isLoadedFor 12 = .ok (.getfield 20, 3) := by decide +kernel
theorem dX0_isLoadedFor_15 : decode cX0_isLoadedFor 15 = .ok (.iload_n 1, 1) := by decide +kernel
theorem dX0_isLoadedFor_16 : decode cX0_isLoadedFor 16 = .ok (.iaload, 1) := by decide +kernel
theorem dX0_isLoadedFor_17 : decode cX0_isLoadedFor 17 = .ok (.iload_n 2, 1) := by decide +kernel
theorem dX0_isLoadedFor_18 : decode cX0_isLoadedFor 18 = .ok (.if_icmp .ne 7, 3) := by decide +kernel
theorem dX0_isLoadedFor_21 : decode cX0_isLoadedFor 21 = .ok (.iconst 1, 1) := by decide +kernel
theorem dX0_isLoadedFor_22 : decode cX0_isLoadedFor 22 = .ok (.goto 4, 3) := by decide +kernel
theorem dX0_isLoadedFor_25 : decode cX0_isLoadedFor 25 = .ok (.iconst 0, 1) := by decide +kernel
theorem dX0_isLoadedFor_26 : decode cX0_isLoadedFor 26 = .ok (.ireturn, 1) := by decide +kernel
theorem dX0_mayFly_0 : decode cX0_mayFly 0 = .ok (.aload_n 0, 1) := by decide +kernel
theorem dX0_mayFly_1 : decode cX0_mayFly 1 = .ok (.getfield 26, 3) := by decide +kernel
theorem dX0_mayFly_4 : decode cX0_mayFly 4 = .ok (.iload_n 1, 1) := by decide +kernel
theorem dX0_mayFly_5 : decode cX0_mayFly 5 = .ok (.baload, 1) := by decide +kernel
theorem dX0_mayFly_6 : decode cX0_mayFly 6 = .ok (.ifCond .ne 17, 3) := by decide +kernel
theorem dX0_mayFly_9 : decode cX0_mayFly 9 = .ok (.aload_n 0, 1) := by decide +kernel
theorem dX0_mayFly_10 : decode cX0_mayFly 10 = .ok (.getfield 16, 3) := by decide +kernel
theorem dX0_mayFly_13 : decode cX0_mayFly 13 = .ok (.aload_n 0, 1) := by decide +kernel
theorem dX0_mayFly_14 : decode cX0_mayFly 14 = .ok (.getfield 23, 3) := by decide +kernel
theorem dX0_mayFly_17 : decode cX0_mayFly 17 = .ok (.iload_n 1, 1) := by decide +kernel
theorem dX0_mayFly_18 : decode cX0_mayFly 18 = .ok (.iaload, 1) := by decide +kernel
theorem dX0_mayFly_19 : decode cX0_mayFly 19 = .ok (.baload, 1) := by decide +kernel
theorem dX0_mayFly_20 : decode cX0_mayFly 20 = .ok (.ifCond .eq 7, 3) := by decide +kernel
theorem dX0_mayFly_23 : decode cX0_mayFly 23 = .ok (.iconst 1, 1) := by decide +kernel
theorem dX0_mayFly_24 : decode cX0_mayFly 24 = .ok (.goto 4, 3) := by decide +kernel
theorem dX0_mayFly_27 : decode cX0_mayFly 27 = .ok (.iconst 0, 1) := by decide +kernel
theorem dX0_mayFly_28 : decode cX0_mayFly 28 = .ok (.ireturn, 1) := by decide +kernel
theorem dX0_decisionTime_0 : decode cX0_decisionTime 0 = .ok (.iload_n 0, 1) := by decide +kernel
theorem dX0_decisionTime_1 : decode cX0_decisionTime 1 = .ok (.iconst 1, 1) := by decide +kernel
theorem dX0_decisionTime_2 : decode cX0_decisionTime 2 = .ok (.if_icmp .ne 5, 3) := by decide +kernel
theorem dX0_decisionTime_5 : decode cX0_decisionTime 5 = .ok (.iconst 2, 1) := by decide +kernel
theorem dX0_decisionTime_6 : decode cX0_decisionTime 6 = .ok (.ireturn, 1) := by decide +kernel
theorem dX0_decisionTime_7 : decode cX0_decisionTime 7 = .ok (.iload_n 0, 1) := by decide +kernel
theorem dX0_decisionTime_8 : decode cX0_decisionTime 8 = .ok (.iconst 2, 1) := by decide +kernel
theorem dX0_decisionTime_9 : decode cX0_decisionTime 9 = .ok (.if_icmp .ne 7, 3) := by decide +kernel
theorem dX0_decisionTime_12 : decode cX0_decisionTime 12 = .ok (.iconst 4, 1) := by decide +kernel
theorem dX0_decisionTime_13 : decode cX0_decisionTime 13 = .ok (.goto 5, 3) := by decide +kernel
theorem dX0_decisionTime_16 : decode cX0_decisionTime 16 = .ok (.bipush 10, 2) := by decide +kernel
theorem dX0_decisionTime_18 : decode cX0_decisionTime 18 = .ok (.ireturn, 1) := by decide +kernel
theorem dX0_nextLevel_0 : decode cX0_nextLevel 0 = .ok (.iload_n 0, 1) := by decide +kernel
theorem dX0_nextLevel_1 : decode cX0_nextLevel 1 = .ok (.iconst 1, 1) := by decide +kernel
theorem dX0_nextLevel_2 : decode cX0_nextLevel 2 = .ok (.if_icmp .ne 5, 3) := by decide +kernel
theorem dX0_nextLevel_5 : decode cX0_nextLevel 5 = .ok (.iconst 2, 1) := by decide +kernel
theorem dX0_nextLevel_6 : decode cX0_nextLevel 6 = .ok (.ireturn, 1) := by decide +kernel
theorem dX0_nextLevel_7 : decode cX0_nextLevel 7 = .ok (.iload_n 0, 1) := by decide +kernel
theorem dX0_nextLevel_8 : decode cX0_nextLevel 8 = .ok (.iconst 2, 1) := by decide +kernel
theorem dX0_nextLevel_9 : decode cX0_nextLevel 9 = .ok (.if_icmp .ne 7, 3) := by decide +kernel
theorem dX0_nextLevel_12 : decode cX0_nextLevel 12 = .ok (.iconst 3, 1) := by decide +kernel
theorem dX0_nextLevel_13 : decode cX0_nextLevel 13 = .ok (.goto 4, 3) := by decide +kernel
theorem dX0_nextLevel_16 : decode cX0_nextLevel 16 = .ok (.iconst 4, 1) := by decide +kernel
theorem dX0_nextLevel_17 : decode cX0_nextLevel 17 = .ok (.ireturn, 1) := by decide +kernel
set_option maxRecDepth 20000 in
theorem ggX0_takeIn_X0_requireFlight : GoodIn wsX0_takeIn wsX0_requireFlight := goodIn_ca (goodIn_r _ [11, 12, 13, 14, 25, 26, 27, 28, 29, 30, 31, 32, 33, 34, 35, 36, 37, 38, 39, 40, 41] (by decide +kernel) (by decide +kernel)) (goodIn_sub (fun _ h => List.mem_cons_of_mem _ (List.mem_append_right _ h)) (by decide +kernel))
set_option maxRecDepth 20000 in
theorem gX0_takeIn_X0_requireFlight : GoodIn wsX0_takeIn (wsV RX0 85 RX0 yX0_requireFlight wsX0_requireFlight) := goodIn_app (goodIn_of _ (by decide +kernel)) ggX0_takeIn_X0_requireFlight
set_option maxRecDepth 20000 in
theorem ggX0_takeIn_X0_requireRider : GoodIn wsX0_takeIn wsX0_requireRider := goodIn_ca (goodIn_r _ [18, 12, 13] (by decide +kernel) (by decide +kernel)) (goodIn_sub (fun _ h => List.mem_cons_of_mem _ (List.mem_append_right _ h)) (by decide +kernel))
set_option maxRecDepth 20000 in
theorem gX0_takeIn_X0_requireRider : GoodIn wsX0_takeIn (wsV RX0 73 RX0 yX0_requireRider wsX0_requireRider) := goodIn_app (goodIn_of _ (by decide +kernel)) ggX0_takeIn_X0_requireRider
set_option maxRecDepth 20000 in
theorem ggX0_takeIn_X0_requireNotDeparted : GoodIn wsX0_takeIn wsX0_requireNotDeparted := goodIn_ca (goodIn_r _ [22, 1, 2, 23, 24, 25, 26, 27, 28, 29, 30, 31, 32, 33, 34, 35, 36, 37, 38, 39, 40, 41] (by decide +kernel) (by decide +kernel)) (goodIn_sub (fun _ h => List.mem_cons_of_mem _ (List.mem_append_left _ (List.mem_append_right _ h))) (by decide +kernel))
set_option maxRecDepth 20000 in
theorem gX0_takeIn_X0_requireNotDeparted : GoodIn wsX0_takeIn (wsV RX0 120 RX0 yX0_requireNotDeparted wsX0_requireNotDeparted) := goodIn_app (goodIn_of _ (by decide +kernel)) ggX0_takeIn_X0_requireNotDeparted
theorem dX0_takeIn_0 : decode cX0_takeIn 0 = .ok (.aload_n 0, 1) := by decide +kernel
theorem dX0_takeIn_1 : decode cX0_takeIn 1 = .ok (.iload_n 1, 1) := by decide +kernel
theorem dX0_takeIn_2 : decode cX0_takeIn 2 = .ok (.invokevirtual 85, 3) := by decide +kernel
theorem dX0_takeIn_5 : decode cX0_takeIn 5 = .ok (.aload_n 0, 1) := by decide +kernel
theorem dX0_takeIn_6 : decode cX0_takeIn 6 = .ok (.iload_n 2, 1) := by decide +kernel
theorem dX0_takeIn_7 : decode cX0_takeIn 7 = .ok (.invokevirtual 73, 3) := by decide +kernel
theorem dX0_takeIn_10 : decode cX0_takeIn 10 = .ok (.aload_n 0, 1) := by decide +kernel
theorem dX0_takeIn_11 : decode cX0_takeIn 11 = .ok (.getfield 123, 3) := by decide +kernel
theorem dX0_takeIn_14 : decode cX0_takeIn 14 = .ok (.bipush 48, 2) := by decide +kernel
theorem dX0_takeIn_16 : decode cX0_takeIn 16 = .ok (.if_icmp .lt 13, 3) := by decide +kernel
theorem dX0_takeIn_19 : decode cX0_takeIn 19 = .ok (.new 61, 3) := by decide +kernel
theorem dX0_takeIn_22 : decode cX0_takeIn 22 = .ok (.dup, 1) := by decide +kernel
theorem dX0_takeIn_23 : decode cX0_takeIn 23 = .ok (.ldc 172, 2) := by decide +kernel
theorem dX0_takeIn_25 : decode cX0_takeIn 25 = .ok (.invokespecial 65, 3) := by decide +kernel
theorem dX0_takeIn_28 : decode cX0_takeIn 28 = .ok (.athrow, 1) := by decide +kernel
theorem dX0_takeIn_29 : decode cX0_takeIn 29 = .ok (.aload_n 0, 1) := by decide +kernel
theorem dX0_takeIn_30 : decode cX0_takeIn 30 = .ok (.iload_n 1, 1) := by decide +kernel
theorem dX0_takeIn_31 : decode cX0_takeIn 31 = .ok (.invokevirtual 120, 3) := by decide +kernel
theorem dX0_takeIn_34 : decode cX0_takeIn 34 = .ok (.aload_n 0, 1) := by decide +kernel
theorem dX0_takeIn_35 : decode cX0_takeIn 35 = .ok (.getfield 123, 3) := by decide +kernel
theorem dX0_takeIn_38 : decode cX0_takeIn 38 = .ok (.istore_n 3, 1) := by decide +kernel
theorem dX0_takeIn_39 : decode cX0_takeIn 39 = .ok (.aload_n 0, 1) := by decide +kernel
theorem dX0_takeIn_40 : decode cX0_takeIn 40 = .ok (.getfield 20, 3) := by decide +kernel
theorem dX0_takeIn_43 : decode cX0_takeIn 43 = .ok (.iload_n 3, 1) := by decide +kernel
theorem dX0_takeIn_44 : decode cX0_takeIn 44 = .ok (.iload_n 1, 1) := by decide +kernel
theorem dX0_takeIn_45 : decode cX0_takeIn 45 = .ok (.iastore, 1) := by decide +kernel
theorem dX0_takeIn_46 : decode cX0_takeIn 46 = .ok (.aload_n 0, 1) := by decide +kernel
theorem dX0_takeIn_47 : decode cX0_takeIn 47 = .ok (.getfield 23, 3) := by decide +kernel
theorem dX0_takeIn_50 : decode cX0_takeIn 50 = .ok (.iload_n 3, 1) := by decide +kernel
theorem dX0_takeIn_51 : decode cX0_takeIn 51 = .ok (.iload_n 2, 1) := by decide +kernel
theorem dX0_takeIn_52 : decode cX0_takeIn 52 = .ok (.iastore, 1) := by decide +kernel
theorem dX0_takeIn_53 : decode cX0_takeIn 53 = .ok (.aload_n 0, 1) := by decide +kernel
theorem dX0_takeIn_54 : decode cX0_takeIn 54 = .ok (.getfield 29, 3) := by decide +kernel
theorem dX0_takeIn_57 : decode cX0_takeIn 57 = .ok (.iload_n 3, 1) := by decide +kernel
theorem dX0_takeIn_58 : decode cX0_takeIn 58 = .ok (.iconst 0, 1) := by decide +kernel
theorem dX0_takeIn_59 : decode cX0_takeIn 59 = .ok (.iastore, 1) := by decide +kernel
theorem dX0_takeIn_60 : decode cX0_takeIn 60 = .ok (.aload_n 0, 1) := by decide +kernel
theorem dX0_takeIn_61 : decode cX0_takeIn 61 = .ok (.dup, 1) := by decide +kernel
theorem dX0_takeIn_62 : decode cX0_takeIn 62 = .ok (.getfield 123, 3) := by decide +kernel
theorem dX0_takeIn_65 : decode cX0_takeIn 65 = .ok (.iconst 1, 1) := by decide +kernel
theorem dX0_takeIn_66 : decode cX0_takeIn 66 = .ok (.iadd, 1) := by decide +kernel
theorem dX0_takeIn_67 : decode cX0_takeIn 67 = .ok (.putfield 123, 3) := by decide +kernel
theorem dX0_takeIn_70 : decode cX0_takeIn 70 = .ok (.iload_n 3, 1) := by decide +kernel
theorem dX0_takeIn_71 : decode cX0_takeIn 71 = .ok (.ireturn, 1) := by decide +kernel
set_option maxRecDepth 20000 in
theorem ggX0_route_X0_routeTo : GoodIn wsX0_route wsX0_routeTo := goodIn_r _ [7, 8, 9, 10, 11, 12, 6, 13, 14, 15, 16, 17, 18, 19, 20, 21, 22, 23, 38, 39, 40, 41, 42, 43, 44, 45, 46, 47, 48, 49, 50, 51, 52, 53, 54] (by decide +kernel) (by decide +kernel)
set_option maxRecDepth 20000 in
theorem gX0_route_X0_routeTo : GoodIn wsX0_route (wsV RX0 174 RX0 yX0_routeTo wsX0_routeTo) := goodIn_app (goodIn_of _ (by decide +kernel)) ggX0_route_X0_routeTo
set_option maxRecDepth 20000 in
theorem ggX0_route_X0_bring : GoodIn wsX0_route wsX0_bring := goodIn_r _ [27, 9, 2, 28, 14, 29, 30, 31, 32, 33, 6, 34, 35, 36, 37, 38, 39, 40, 41, 42, 43, 44, 45, 46, 47, 48, 49, 50, 51, 52, 53, 54] (by decide +kernel) (by decide +kernel)
set_option maxRecDepth 20000 in
theorem gX0_route_X0_bring : GoodIn wsX0_route (wsV RX0 92 RX0 yX0_bring wsX0_bring) := goodIn_app (goodIn_of _ (by decide +kernel)) ggX0_route_X0_bring
theorem dX0_route_0 : decode cX0_route 0 = .ok (.aload_n 0, 1) := by decide +kernel
theorem dX0_route_1 : decode cX0_route 1 = .ok (.aload_n 0, 1) := by decide +kernel
theorem dX0_route_2 : decode cX0_route 2 = .ok (.getfield 20, 3) := by decide +kernel
theorem dX0_route_5 : decode cX0_route 5 = .ok (.iload_n 1, 1) := by decide +kernel
theorem dX0_route_6 : decode cX0_route 6 = .ok (.iaload, 1) := by decide +kernel
theorem dX0_route_7 : decode cX0_route 7 = .ok (.invokevirtual 174, 3) := by decide +kernel
theorem dX0_route_10 : decode cX0_route 10 = .ok (.istore_n 2, 1) := by decide +kernel
theorem dX0_route_11 : decode cX0_route 11 = .ok (.iload_n 2, 1) := by decide +kernel
theorem dX0_route_12 : decode cX0_route 12 = .ok (.bipush 6, 2) := by decide +kernel
theorem dX0_route_14 : decode cX0_route 14 = .ok (.if_icmp .ne 15, 3) := by decide +kernel
theorem dX0_route_17 : decode cX0_route 17 = .ok (.aload_n 0, 1) := by decide +kernel
theorem dX0_route_18 : decode cX0_route 18 = .ok (.getfield 29, 3) := by decide +kernel
theorem dX0_route_21 : decode cX0_route 21 = .ok (.iload_n 1, 1) := by decide +kernel
theorem dX0_route_22 : decode cX0_route 22 = .ok (.iaload, 1) := by decide +kernel
theorem dX0_route_23 : decode cX0_route 23 = .ok (.bipush 6, 2) := by decide +kernel
theorem dX0_route_25 : decode cX0_route 25 = .ok (.if_icmp .ne 4, 3) := by decide +kernel
theorem dX0_route_28 : decode cX0_route 28 = .ok (.return_, 1) := by decide +kernel
theorem dX0_route_29 : decode cX0_route 29 = .ok (.aload_n 0, 1) := by decide +kernel
theorem dX0_route_30 : decode cX0_route 30 = .ok (.iload_n 1, 1) := by decide +kernel
theorem dX0_route_31 : decode cX0_route 31 = .ok (.iload_n 2, 1) := by decide +kernel
theorem dX0_route_32 : decode cX0_route 32 = .ok (.invokevirtual 92, 3) := by decide +kernel
theorem dX0_route_35 : decode cX0_route 35 = .ok (.return_, 1) := by decide +kernel
set_option maxRecDepth 20000 in
theorem ggX0_routeTo_X0_hasClosed : GoodIn wsX0_routeTo wsX0_hasClosed := goodIn_r _ [7, 8, 9, 10, 11, 6, 12, 13, 18, 19, 20, 21, 22, 23, 24, 25, 26, 27, 28, 29, 30, 31, 32, 33, 34] (by decide +kernel) (by decide +kernel)
set_option maxRecDepth 20000 in
theorem gX0_routeTo_X0_hasClosed : GoodIn wsX0_routeTo (wsV RX0 177 RX0 yX0_hasClosed wsX0_hasClosed) := goodIn_app (goodIn_of _ (by decide +kernel)) ggX0_routeTo_X0_hasClosed
set_option maxRecDepth 20000 in
theorem ggX0_routeTo_X0_hasOpened : GoodIn wsX0_routeTo wsX0_hasOpened := goodIn_r _ [17, 8, 13, 18, 19, 20, 21, 22, 23, 24, 25, 26, 27, 28, 29, 30, 31, 32, 33, 34] (by decide +kernel) (by decide +kernel)
set_option maxRecDepth 20000 in
theorem gX0_routeTo_X0_hasOpened : GoodIn wsX0_routeTo (wsV RX0 180 RX0 yX0_hasOpened wsX0_hasOpened) := goodIn_app (goodIn_of _ (by decide +kernel)) ggX0_routeTo_X0_hasOpened
theorem dX0_routeTo_0 : decode cX0_routeTo 0 = .ok (.aload_n 0, 1) := by decide +kernel
theorem dX0_routeTo_1 : decode cX0_routeTo 1 = .ok (.iload_n 1, 1) := by decide +kernel
theorem dX0_routeTo_2 : decode cX0_routeTo 2 = .ok (.invokevirtual 177, 3) := by decide +kernel
theorem dX0_routeTo_5 : decode cX0_routeTo 5 = .ok (.ifCond .ne 13, 3) := by decide +kernel
theorem dX0_routeTo_8 : decode cX0_routeTo 8 = .ok (.aload_n 0, 1) := by decide +kernel
theorem dX0_routeTo_9 : decode cX0_routeTo 9 = .ok (.getfield 13, 3) := by decide +kernel
theorem dX0_routeTo_12 : decode cX0_routeTo 12 = .ok (.iload_n 1, 1) := by decide +kernel
theorem dX0_routeTo_13 : decode cX0_routeTo 13 = .ok (.iaload, 1) := by decide +kernel
theorem dX0_routeTo_14 : decode cX0_routeTo 14 = .ok (.iconst (-1), 1) := by decide +kernel
theorem dX0_routeTo_15 : decode cX0_routeTo 15 = .ok (.if_icmp .ne 6, 3) := by decide +kernel
theorem dX0_routeTo_18 : decode cX0_routeTo 18 = .ok (.bipush 11, 2) := by decide +kernel
theorem dX0_routeTo_20 : decode cX0_routeTo 20 = .ok (.ireturn, 1) := by decide +kernel
theorem dX0_routeTo_21 : decode cX0_routeTo 21 = .ok (.aload_n 0, 1) := by decide +kernel
theorem dX0_routeTo_22 : decode cX0_routeTo 22 = .ok (.iload_n 1, 1) := by decide +kernel
theorem dX0_routeTo_23 : decode cX0_routeTo 23 = .ok (.invokevirtual 180, 3) := by decide +kernel
theorem dX0_routeTo_26 : decode cX0_routeTo 26 = .ok (.ifCond .eq 6, 3) := by decide +kernel
theorem dX0_routeTo_29 : decode cX0_routeTo 29 = .ok (.bipush 7, 2) := by decide +kernel
theorem dX0_routeTo_31 : decode cX0_routeTo 31 = .ok (.ireturn, 1) := by decide +kernel
theorem dX0_routeTo_32 : decode cX0_routeTo 32 = .ok (.aload_n 0, 1) := by decide +kernel
theorem dX0_routeTo_33 : decode cX0_routeTo 33 = .ok (.getfield 38, 3) := by decide +kernel
theorem dX0_routeTo_36 : decode cX0_routeTo 36 = .ok (.iconst 5, 1) := by decide +kernel
theorem dX0_routeTo_37 : decode cX0_routeTo 37 = .ok (.iaload, 1) := by decide +kernel
theorem dX0_routeTo_38 : decode cX0_routeTo 38 = .ok (.bipush 8, 2) := by decide +kernel
theorem dX0_routeTo_40 : decode cX0_routeTo 40 = .ok (.if_icmp .ge 7, 3) := by decide +kernel
theorem dX0_routeTo_43 : decode cX0_routeTo 43 = .ok (.iconst 5, 1) := by decide +kernel
theorem dX0_routeTo_44 : decode cX0_routeTo 44 = .ok (.goto 5, 3) := by decide +kernel
theorem dX0_routeTo_47 : decode cX0_routeTo 47 = .ok (.bipush 6, 2) := by decide +kernel
theorem dX0_routeTo_49 : decode cX0_routeTo 49 = .ok (.ireturn, 1) := by decide +kernel
set_option maxRecDepth 20000 in
theorem ggX0_bring_X0_scan : GoodIn wsX0_bring wsX0_scan := goodIn_r _ [11, 6, 12, 13, 14, 4, 15, 16, 17, 18, 19, 20, 21, 22, 23, 24, 25, 26, 27, 28, 29, 30, 31] (by decide +kernel) (by decide +kernel)
set_option maxRecDepth 20000 in
theorem gX0_bring_X0_scan : GoodIn wsX0_bring (wsV RX0 183 RX0 yX0_scan wsX0_scan) := goodIn_app (goodIn_of _ (by decide +kernel)) ggX0_bring_X0_scan
theorem dX0_bring_0 : decode cX0_bring 0 = .ok (.aload_n 0, 1) := by decide +kernel
theorem dX0_bring_1 : decode cX0_bring 1 = .ok (.getfield 38, 3) := by decide +kernel
theorem dX0_bring_4 : decode cX0_bring 4 = .ok (.aload_n 0, 1) := by decide +kernel
theorem dX0_bring_5 : decode cX0_bring 5 = .ok (.getfield 29, 3) := by decide +kernel
theorem dX0_bring_8 : decode cX0_bring 8 = .ok (.iload_n 1, 1) := by decide +kernel
theorem dX0_bring_9 : decode cX0_bring 9 = .ok (.iaload, 1) := by decide +kernel
theorem dX0_bring_10 : decode cX0_bring 10 = .ok (.dup2, 1) := by decide +kernel
theorem dX0_bring_11 : decode cX0_bring 11 = .ok (.iaload, 1) := by decide +kernel
theorem dX0_bring_12 : decode cX0_bring 12 = .ok (.iconst 1, 1) := by decide +kernel
theorem dX0_bring_13 : decode cX0_bring 13 = .ok (.isub, 1) := by decide +kernel
theorem dX0_bring_14 : decode cX0_bring 14 = .ok (.iastore, 1) := by decide +kernel
theorem dX0_bring_15 : decode cX0_bring 15 = .ok (.aload_n 0, 1) := by decide +kernel
theorem dX0_bring_16 : decode cX0_bring 16 = .ok (.getfield 38, 3) := by decide +kernel
theorem dX0_bring_19 : decode cX0_bring 19 = .ok (.iload_n 2, 1) := by decide +kernel
theorem dX0_bring_20 : decode cX0_bring 20 = .ok (.dup2, 1) := by decide +kernel
theorem dX0_bring_21 : decode cX0_bring 21 = .ok (.iaload, 1) := by decide +kernel
theorem dX0_bring_22 : decode cX0_bring 22 = .ok (.iconst 1, 1) := by decide +kernel
theorem dX0_bring_23 : decode cX0_bring 23 = .ok (.iadd, 1) := by decide +kernel
theorem dX0_bring_24 : decode cX0_bring 24 = .ok (.iastore, 1) := by decide +kernel
theorem dX0_bring_25 : decode cX0_bring 25 = .ok (.aload_n 0, 1) := by decide +kernel
theorem dX0_bring_26 : decode cX0_bring 26 = .ok (.getfield 29, 3) := by decide +kernel
theorem dX0_bring_29 : decode cX0_bring 29 = .ok (.iload_n 1, 1) := by decide +kernel
theorem dX0_bring_30 : decode cX0_bring 30 = .ok (.iload_n 2, 1) := by decide +kernel
theorem dX0_bring_31 : decode cX0_bring 31 = .ok (.iastore, 1) := by decide +kernel
theorem dX0_bring_32 : decode cX0_bring 32 = .ok (.aload_n 0, 1) := by decide +kernel
theorem dX0_bring_33 : decode cX0_bring 33 = .ok (.getfield 35, 3) := by decide +kernel
theorem dX0_bring_36 : decode cX0_bring 36 = .ok (.iload_n 1, 1) := by decide +kernel
theorem dX0_bring_37 : decode cX0_bring 37 = .ok (.aload_n 0, 1) := by decide +kernel
theorem dX0_bring_38 : decode cX0_bring 38 = .ok (.getfield 66, 3) := by decide +kernel
theorem dX0_bring_41 : decode cX0_bring 41 = .ok (.iastore, 1) := by decide +kernel
theorem dX0_bring_42 : decode cX0_bring 42 = .ok (.aload_n 0, 1) := by decide +kernel
theorem dX0_bring_43 : decode cX0_bring 43 = .ok (.getfield 32, 3) := by decide +kernel
theorem dX0_bring_46 : decode cX0_bring 46 = .ok (.iload_n 1, 1) := by decide +kernel
theorem dX0_bring_47 : decode cX0_bring 47 = .ok (.aload_n 0, 1) := by decide +kernel
theorem dX0_bring_48 : decode cX0_bring 48 = .ok (.getfield 79, 3) := by decide +kernel
theorem dX0_bring_51 : decode cX0_bring 51 = .ok (.iastore, 1) := by decide +kernel
theorem dX0_bring_52 : decode cX0_bring 52 = .ok (.aload_n 0, 1) := by decide +kernel
theorem dX0_bring_53 : decode cX0_bring 53 = .ok (.iload_n 1, 1) := by decide +kernel
theorem dX0_bring_54 : decode cX0_bring 54 = .ok (.iload_n 2, 1) := by decide +kernel
theorem dX0_bring_55 : decode cX0_bring 55 = .ok (.invokevirtual 183, 3) := by decide +kernel
theorem dX0_bring_58 : decode cX0_bring 58 = .ok (.return_, 1) := by decide +kernel
theorem dX0_scan_0 : decode cX0_scan 0 = .ok (.aload_n 0, 1) := by decide +kernel
theorem dX0_scan_1 : decode cX0_scan 1 = .ok (.getfield 79, 3) := by decide +kernel
theorem dX0_scan_4 : decode cX0_scan 4 = .ok (.sipush 2048, 3) := by decide +kernel
theorem dX0_scan_7 : decode cX0_scan 7 = .ok (.if_icmp .lt 4, 3) := by decide +kernel
theorem dX0_scan_10 : decode cX0_scan 10 = .ok (.return_, 1) := by decide +kernel
theorem dX0_scan_11 : decode cX0_scan 11 = .ok (.aload_n 0, 1) := by decide +kernel
theorem dX0_scan_12 : decode cX0_scan 12 = .ok (.getfield 41, 3) := by decide +kernel
theorem dX0_scan_15 : decode cX0_scan 15 = .ok (.aload_n 0, 1) := by decide +kernel
theorem dX0_scan_16 : decode cX0_scan 16 = .ok (.getfield 79, 3) := by decide +kernel
theorem dX0_scan_19 : decode cX0_scan 19 = .ok (.iload_n 1, 1) := by decide +kernel
theorem dX0_scan_20 : decode cX0_scan 20 = .ok (.iastore, 1) := by decide +kernel
theorem dX0_scan_21 : decode cX0_scan 21 = .ok (.aload_n 0, 1) := by decide +kernel
theorem dX0_scan_22 : decode cX0_scan 22 = .ok (.getfield 44, 3) := by decide +kernel
theorem dX0_scan_25 : decode cX0_scan 25 = .ok (.aload_n 0, 1) := by decide +kernel
theorem dX0_scan_26 : decode cX0_scan 26 = .ok (.getfield 79, 3) := by decide +kernel
theorem dX0_scan_29 : decode cX0_scan 29 = .ok (.iload_n 2, 1) := by decide +kernel
theorem dX0_scan_30 : decode cX0_scan 30 = .ok (.iastore, 1) := by decide +kernel
theorem dX0_scan_31 : decode cX0_scan 31 = .ok (.aload_n 0, 1) := by decide +kernel
theorem dX0_scan_32 : decode cX0_scan 32 = .ok (.getfield 47, 3) := by decide +kernel
theorem dX0_scan_35 : decode cX0_scan 35 = .ok (.aload_n 0, 1) := by decide +kernel
theorem dX0_scan_36 : decode cX0_scan 36 = .ok (.getfield 79, 3) := by decide +kernel
theorem dX0_scan_39 : decode cX0_scan 39 = .ok (.aload_n 0, 1) := by decide +kernel
theorem dX0_scan_40 : decode cX0_scan 40 = .ok (.getfield 66, 3) := by decide +kernel
theorem dX0_scan_43 : decode cX0_scan 43 = .ok (.iastore, 1) := by decide +kernel
theorem dX0_scan_44 : decode cX0_scan 44 = .ok (.aload_n 0, 1) := by decide +kernel
theorem dX0_scan_45 : decode cX0_scan 45 = .ok (.dup, 1) := by decide +kernel
theorem dX0_scan_46 : decode cX0_scan 46 = .ok (.getfield 79, 3) := by decide +kernel
theorem dX0_scan_49 : decode cX0_scan 49 = .ok (.iconst 1, 1) := by decide +kernel
theorem dX0_scan_50 : decode cX0_scan 50 = .ok (.iadd, 1) := by decide +kernel
theorem dX0_scan_51 : decode cX0_scan 51 = .ok (.putfield 79, 3) := by decide +kernel
theorem dX0_scan_54 : decode cX0_scan 54 = .ok (.return_, 1) := by decide +kernel
set_option maxRecDepth 20000 in
theorem ggX0_passOneMinute_X0_emptyStore : GoodIn wsX0_passOneMinute wsX0_emptyStore := goodIn_r _ [6, 7, 8, 9, 5, 10, 11, 12, 13, 14, 15, 16, 17, 18, 19, 1, 20, 21, 22, 23, 24, 25, 26, 27, 28, 29, 30, 31, 32, 33, 75, 76, 77, 78, 79, 80, 81, 82, 83, 84, 85, 86, 87, 88, 89, 90, 91] (by decide +kernel) (by decide +kernel)
set_option maxRecDepth 20000 in
theorem gX0_passOneMinute_X0_emptyStore : GoodIn wsX0_passOneMinute (wsV RX0 186 RX0 yX0_emptyStore wsX0_emptyStore) := goodIn_app (goodIn_of _ (by decide +kernel)) ggX0_passOneMinute_X0_emptyStore
set_option maxRecDepth 20000 in
theorem ggX0_passOneMinute_X0_routeLoop : GoodIn wsX0_passOneMinute wsX0_routeLoop := goodIn_r _ [37, 11, 12, 13, 38, 39, 40, 5, 41, 14, 42, 43, 44, 45, 46, 47, 48, 49, 50, 1, 51, 52, 53, 54, 20, 16, 17, 18, 19, 21, 22, 23, 24, 25, 15, 26, 27, 28, 29, 30, 31, 32, 33, 75, 76, 77, 78, 79, 80, 81, 82, 83, 84, 85, 86, 87, 88, 89, 90, 91] (by decide +kernel) (by decide +kernel)
set_option maxRecDepth 20000 in
theorem gX0_passOneMinute_X0_routeLoop : GoodIn wsX0_passOneMinute (wsV RX0 189 RX0 yX0_routeLoop wsX0_routeLoop) := goodIn_app (goodIn_of _ (by decide +kernel)) ggX0_passOneMinute_X0_routeLoop
set_option maxRecDepth 20000 in
theorem ggX0_passOneMinute_X0_depart : GoodIn wsX0_passOneMinute wsX0_depart := goodIn_r _ [58, 59, 20, 1, 60, 61, 62, 5, 63, 12, 14, 64, 65, 66, 67, 13, 68, 69, 70, 71, 72, 73, 74, 21, 22, 23, 24, 11, 25, 15, 26, 27, 28, 29, 30, 31, 32, 33, 75, 76, 77, 78, 79, 80, 81, 82, 83, 84, 85, 86, 87, 88, 89, 90, 91] (by decide +kernel) (by decide +kernel)
set_option maxRecDepth 20000 in
theorem gX0_passOneMinute_X0_depart : GoodIn wsX0_passOneMinute (wsV RX0 192 RX0 yX0_depart wsX0_depart) := goodIn_app (goodIn_of _ (by decide +kernel)) ggX0_passOneMinute_X0_depart
theorem dX0_passOneMinute_0 : decode cX0_passOneMinute 0 = .ok (.aload_n 0, 1) := by decide +kernel
theorem dX0_passOneMinute_1 : decode cX0_passOneMinute 1 = .ok (.dup, 1) := by decide +kernel
theorem dX0_passOneMinute_2 : decode cX0_passOneMinute 2 = .ok (.getfield 66, 3) := by decide +kernel
theorem dX0_passOneMinute_5 : decode cX0_passOneMinute 5 = .ok (.iconst 1, 1) := by decide +kernel
theorem dX0_passOneMinute_6 : decode cX0_passOneMinute 6 = .ok (.iadd, 1) := by decide +kernel
theorem dX0_passOneMinute_7 : decode cX0_passOneMinute 7 = .ok (.putfield 66, 3) := by decide +kernel
theorem dX0_passOneMinute_10 : decode cX0_passOneMinute 10 = .ok (.aload_n 0, 1) := by decide +kernel
theorem dX0_passOneMinute_11 : decode cX0_passOneMinute 11 = .ok (.invokevirtual 186, 3) := by decide +kernel
theorem dX0_passOneMinute_14 : decode cX0_passOneMinute 14 = .ok (.aload_n 0, 1) := by decide +kernel
theorem dX0_passOneMinute_15 : decode cX0_passOneMinute 15 = .ok (.invokevirtual 189, 3) := by decide +kernel
theorem dX0_passOneMinute_18 : decode cX0_passOneMinute 18 = .ok (.aload_n 0, 1) := by decide +kernel
theorem dX0_passOneMinute_19 : decode cX0_passOneMinute 19 = .ok (.invokevirtual 192, 3) := by decide +kernel
theorem dX0_passOneMinute_22 : decode cX0_passOneMinute 22 = .ok (.return_, 1) := by decide +kernel
set_option maxRecDepth 20000 in
theorem ggX0_emptyStore_X0_firstToLeaveStore : GoodIn wsX0_emptyStore wsX0_firstToLeaveStore := goodIn_r _ [5, 6, 7, 8, 9, 10, 11, 12, 13, 4, 14, 15, 16, 30, 31, 32, 33, 34, 35, 36, 37, 38, 39, 40, 41, 42, 43, 44, 45, 46] (by decide +kernel) (by decide +kernel)
set_option maxRecDepth 20000 in
theorem gX0_emptyStore_X0_firstToLeaveStore : GoodIn wsX0_emptyStore (wsV RX0 195 RX0 yX0_firstToLeaveStore wsX0_firstToLeaveStore) := goodIn_app (goodIn_of _ (by decide +kernel)) ggX0_emptyStore_X0_firstToLeaveStore
set_option maxRecDepth 20000 in
theorem ggX0_emptyStore_X0_bring : GoodIn wsX0_emptyStore wsX0_bring := goodIn_r _ [20, 6, 8, 21, 15, 10, 22, 23, 24, 25, 4, 26, 27, 28, 29, 30, 31, 32, 33, 34, 35, 36, 37, 38, 39, 40, 41, 42, 43, 44, 45, 46] (by decide +kernel) (by decide +kernel)
set_option maxRecDepth 20000 in
theorem gX0_emptyStore_X0_bring : GoodIn wsX0_emptyStore (wsV RX0 92 RX0 yX0_bring wsX0_bring) := goodIn_app (goodIn_of _ (by decide +kernel)) ggX0_emptyStore_X0_bring
theorem dX0_emptyStore_0 : decode cX0_emptyStore 0 = .ok (.iconst 0, 1) := by decide +kernel
theorem dX0_emptyStore_1 : decode cX0_emptyStore 1 = .ok (.istore_n 1, 1) := by decide +kernel
theorem dX0_emptyStore_2 : decode cX0_emptyStore 2 = .ok (.iload_n 1, 1) := by decide +kernel
theorem dX0_emptyStore_3 : decode cX0_emptyStore 3 = .ok (.iconst 3, 1) := by decide +kernel
theorem dX0_emptyStore_4 : decode cX0_emptyStore 4 = .ok (.if_icmp .ge 27, 3) := by decide +kernel
theorem dX0_emptyStore_7 : decode cX0_emptyStore 7 = .ok (.aload_n 0, 1) := by decide +kernel
theorem dX0_emptyStore_8 : decode cX0_emptyStore 8 = .ok (.invokevirtual 195, 3) := by decide +kernel
theorem dX0_emptyStore_11 : decode cX0_emptyStore 11 = .ok (.istore_n 2, 1) := by decide +kernel
theorem dX0_emptyStore_12 : decode cX0_emptyStore 12 = .ok (.iload_n 2, 1) := by decide +kernel
theorem dX0_emptyStore_13 : decode cX0_emptyStore 13 = .ok (.iconst (-1), 1) := by decide +kernel
theorem dX0_emptyStore_14 : decode cX0_emptyStore 14 = .ok (.if_icmp .ne 4, 3) := by decide +kernel
theorem dX0_emptyStore_17 : decode cX0_emptyStore 17 = .ok (.return_, 1) := by decide +kernel
theorem dX0_emptyStore_18 : decode cX0_emptyStore 18 = .ok (.aload_n 0, 1) := by decide +kernel
theorem dX0_emptyStore_19 : decode cX0_emptyStore 19 = .ok (.iload_n 2, 1) := by decide +kernel
theorem dX0_emptyStore_20 : decode cX0_emptyStore 20 = .ok (.bipush 7, 2) := by decide +kernel
theorem dX0_emptyStore_22 : decode cX0_emptyStore 22 = .ok (.invokevirtual 92, 3) := by decide +kernel
theorem dX0_emptyStore_25 : decode cX0_emptyStore 25 = .ok (.iinc 1 1, 3) := by decide +kernel
theorem dX0_emptyStore_28 : decode cX0_emptyStore 28 = .ok (.goto (-26), 3) := by decide +kernel
theorem dX0_emptyStore_31 : decode cX0_emptyStore 31 = .ok (.return_, 1) := by decide +kernel
set_option maxRecDepth 20000 in
theorem ggX0_firstToLeaveStore_X0_hasOpened : GoodIn wsX0_firstToLeaveStore wsX0_hasOpened := goodIn_r _ [10, 11, 12, 13, 14, 15, 16, 17, 18, 19, 20, 21, 22, 23, 24, 25, 26, 27, 28, 29] (by decide +kernel) (by decide +kernel)
set_option maxRecDepth 20000 in
theorem gX0_firstToLeaveStore_X0_hasOpened : GoodIn wsX0_firstToLeaveStore (wsV RX0 180 RX0 yX0_hasOpened wsX0_hasOpened) := goodIn_app (goodIn_of _ (by decide +kernel)) ggX0_firstToLeaveStore_X0_hasOpened
theorem dX0_firstToLeaveStore_0 : decode cX0_firstToLeaveStore 0 = .ok (.aload_n 0, 1) := by decide +kernel
theorem dX0_firstToLeaveStore_1 : decode cX0_firstToLeaveStore 1 = .ok (.getfield 38, 3) := by decide +kernel
theorem dX0_firstToLeaveStore_4 : decode cX0_firstToLeaveStore 4 = .ok (.iconst 5, 1) := by decide +kernel
theorem dX0_firstToLeaveStore_5 : decode cX0_firstToLeaveStore 5 = .ok (.iaload, 1) := by decide +kernel
theorem dX0_firstToLeaveStore_6 : decode cX0_firstToLeaveStore 6 = .ok (.ifCond .ne 5, 3) := by decide +kernel
theorem dX0_firstToLeaveStore_9 : decode cX0_firstToLeaveStore 9 = .ok (.iconst (-1), 1) := by decide +kernel
theorem dX0_firstToLeaveStore_10 : decode cX0_firstToLeaveStore 10 = .ok (.ireturn, 1) := by decide +kernel
theorem dX0_firstToLeaveStore_11 : decode cX0_firstToLeaveStore 11 = .ok (.iconst (-1), 1) := by decide +kernel
theorem dX0_firstToLeaveStore_12 : decode cX0_firstToLeaveStore 12 = .ok (.istore_n 1, 1) := by decide +kernel
theorem dX0_firstToLeaveStore_13 : decode cX0_firstToLeaveStore 13 = .ok (.iconst 0, 1) := by decide +kernel
theorem dX0_firstToLeaveStore_14 : decode cX0_firstToLeaveStore 14 = .ok (.istore_n 2, 1) := by decide +kernel
theorem dX0_firstToLeaveStore_15 : decode cX0_firstToLeaveStore 15 = .ok (.iload_n 2, 1) := by decide +kernel
theorem dX0_firstToLeaveStore_16 : decode cX0_firstToLeaveStore 16 = .ok (.aload_n 0, 1) := by decide +kernel
theorem dX0_firstToLeaveStore_17 : decode cX0_firstToLeaveStore 17 = .ok (.getfield 123, 3) := by decide +kernel
theorem dX0_firstToLeaveStore_20 : decode cX0_firstToLeaveStore 20 = .ok (.if_icmp .ge 54, 3) := by decide +kernel
theorem dX0_firstToLeaveStore_23 : decode cX0_firstToLeaveStore 23 = .ok (.aload_n 0, 1) := by decide +kernel
theorem dX0_firstToLeaveStore_24 : decode cX0_firstToLeaveStore 24 = .ok (.getfield 29, 3) := by decide +kernel
theorem dX0_firstToLeaveStore_27 : decode cX0_firstToLeaveStore 27 = .ok (.iload_n 2, 1) := by decide +kernel
theorem dX0_firstToLeaveStore_28 : decode cX0_firstToLeaveStore 28 = .ok (.iaload, 1) := by decide +kernel
theorem dX0_firstToLeaveStore_29 : decode cX0_firstToLeaveStore 29 = .ok (.iconst 5, 1) := by decide +kernel
theorem dX0_firstToLeaveStore_30 : decode cX0_firstToLeaveStore 30 = .ok (.if_icmp .ne 38, 3) := by decide +kernel
theorem dX0_firstToLeaveStore_33 : decode cX0_firstToLeaveStore 33 = .ok (.aload_n 0, 1) := by decide +kernel
theorem dX0_firstToLeaveStore_34 : decode cX0_firstToLeaveStore 34 = .ok (.aload_n 0, 1) := by decide +kernel
theorem dX0_firstToLeaveStore_35 : decode cX0_firstToLeaveStore 35 = .ok (.getfield 20, 3) := by decide +kernel
theorem dX0_firstToLeaveStore_38 : decode cX0_firstToLeaveStore 38 = .ok (.iload_n 2, 1) := by decide +kernel
theorem dX0_firstToLeaveStore_39 : decode cX0_firstToLeaveStore 39 = .ok (.iaload, 1) := by decide +kernel
theorem dX0_firstToLeaveStore_40 : decode cX0_firstToLeaveStore 40 = .ok (.invokevirtual 180, 3) := by decide +kernel
theorem dX0_firstToLeaveStore_43 : decode cX0_firstToLeaveStore 43 = .ok (.ifCond .eq 25, 3) := by decide +kernel
theorem dX0_firstToLeaveStore_46 : decode cX0_firstToLeaveStore 46 = .ok (.iload_n 1, 1) := by decide +kernel
theorem dX0_firstToLeaveStore_47 : decode cX0_firstToLeaveStore 47 = .ok (.iconst (-1), 1) := by decide +kernel
theorem dX0_firstToLeaveStore_48 : decode cX0_firstToLeaveStore 48 = .ok (.if_icmp .eq 18, 3) := by decide +kernel
theorem dX0_firstToLeaveStore_51 : decode cX0_firstToLeaveStore 51 = .ok (.aload_n 0, 1) := by decide +kernel
theorem dX0_firstToLeaveStore_52 : decode cX0_firstToLeaveStore 52 = .ok (.getfield 32, 3) := by decide +kernel
theorem dX0_firstToLeaveStore_55 : decode cX0_firstToLeaveStore 55 = .ok (.iload_n 2, 1) := by decide +kernel
theorem dX0_firstToLeaveStore_56 : decode cX0_firstToLeaveStore 56 = .ok (.iaload, 1) := by decide +kernel
theorem dX0_firstToLeaveStore_57 : decode cX0_firstToLeaveStore 57 = .ok (.aload_n 0, 1) := by decide +kernel
theorem dX0_firstToLeaveStore_58 : decode cX0_firstToLeaveStore 58 = .ok (.getfield 32, 3) := by decide +kernel
theorem dX0_firstToLeaveStore_61 : decode cX0_firstToLeaveStore 61 = .ok (.iload_n 1, 1) := by decide +kernel
theorem dX0_firstToLeaveStore_62 : decode cX0_firstToLeaveStore 62 = .ok (.iaload, 1) := by decide +kernel
theorem dX0_firstToLeaveStore_63 : decode cX0_firstToLeaveStore 63 = .ok (.if_icmp .ge 5, 3) := by decide +kernel
theorem dX0_firstToLeaveStore_66 : decode cX0_firstToLeaveStore 66 = .ok (.iload_n 2, 1) := by decide +kernel
theorem dX0_firstToLeaveStore_67 : decode cX0_firstToLeaveStore 67 = .ok (.istore_n 1, 1) := by decide +kernel
theorem dX0_firstToLeaveStore_68 : decode cX0_firstToLeaveStore 68 = .ok (.iinc 2 1, 3) := by decide +kernel
theorem dX0_firstToLeaveStore_71 : decode cX0_firstToLeaveStore 71 = .ok (.goto (-56), 3) := by decide +kernel
theorem dX0_firstToLeaveStore_74 : decode cX0_firstToLeaveStore 74 = .ok (.iload_n 1, 1) := by decide +kernel
theorem dX0_firstToLeaveStore_75 : decode cX0_firstToLeaveStore 75 = .ok (.ireturn, 1) := by decide +kernel
set_option maxRecDepth 20000 in
theorem ggX0_routeLoop_X0_route : GoodIn wsX0_routeLoop wsX0_route := goodIn_r _ [8, 9, 3, 10, 11, 12, 7, 13, 14, 1, 15, 16, 17, 18, 19, 20, 21, 22, 23, 24, 25, 26, 27, 28, 29, 30, 31, 32, 33, 34, 35, 36, 37, 38, 39, 40, 41, 42, 43, 44, 45, 46, 47, 48, 49, 50, 51, 52, 53, 54, 55, 56, 57, 58, 59] (by decide +kernel) (by decide +kernel)
set_option maxRecDepth 20000 in
theorem gX0_routeLoop_X0_route : GoodIn wsX0_routeLoop (wsV RX0 96 RX0 yX0_route wsX0_route) := goodIn_app (goodIn_of _ (by decide +kernel)) ggX0_routeLoop_X0_route
theorem dX0_routeLoop_0 : decode cX0_routeLoop 0 = .ok (.aload_n 0, 1) := by decide +kernel
theorem dX0_routeLoop_1 : decode cX0_routeLoop 1 = .ok (.getfield 38, 3) := by decide +kernel
theorem dX0_routeLoop_4 : decode cX0_routeLoop 4 = .ok (.bipush 6, 2) := by decide +kernel
theorem dX0_routeLoop_6 : decode cX0_routeLoop 6 = .ok (.iaload, 1) := by decide +kernel
theorem dX0_routeLoop_7 : decode cX0_routeLoop 7 = .ok (.ifCond .ne 4, 3) := by decide +kernel
theorem dX0_routeLoop_10 : decode cX0_routeLoop 10 = .ok (.return_, 1) := by decide +kernel
theorem dX0_routeLoop_11 : decode cX0_routeLoop 11 = .ok (.iconst 0, 1) := by decide +kernel
theorem dX0_routeLoop_12 : decode cX0_routeLoop 12 = .ok (.istore_n 1, 1) := by decide +kernel
theorem dX0_routeLoop_13 : decode cX0_routeLoop 13 = .ok (.iload_n 1, 1) := by decide +kernel
theorem dX0_routeLoop_14 : decode cX0_routeLoop 14 = .ok (.aload_n 0, 1) := by decide +kernel
theorem dX0_routeLoop_15 : decode cX0_routeLoop 15 = .ok (.getfield 123, 3) := by decide +kernel
theorem dX0_routeLoop_18 : decode cX0_routeLoop 18 = .ok (.if_icmp .ge 25, 3) := by decide +kernel
theorem dX0_routeLoop_21 : decode cX0_routeLoop 21 = .ok (.aload_n 0, 1) := by decide +kernel
theorem dX0_routeLoop_22 : decode cX0_routeLoop 22 = .ok (.getfield 29, 3) := by decide +kernel
theorem dX0_routeLoop_25 : decode cX0_routeLoop 25 = .ok (.iload_n 1, 1) := by decide +kernel
theorem dX0_routeLoop_26 : decode cX0_routeLoop 26 = .ok (.iaload, 1) := by decide +kernel
theorem dX0_routeLoop_27 : decode cX0_routeLoop 27 = .ok (.bipush 6, 2) := by decide +kernel
theorem dX0_routeLoop_29 : decode cX0_routeLoop 29 = .ok (.if_icmp .ne 8, 3) := by decide +kernel
theorem dX0_routeLoop_32 : decode cX0_routeLoop 32 = .ok (.aload_n 0, 1) := by decide +kernel
theorem dX0_routeLoop_33 : decode cX0_routeLoop 33 = .ok (.iload_n 1, 1) := by decide +kernel
theorem dX0_routeLoop_34 : decode cX0_routeLoop 34 = .ok (.invokevirtual 96, 3) := by decide +kernel
theorem dX0_routeLoop_37 : decode cX0_routeLoop 37 = .ok (.iinc 1 1, 3) := by decide +kernel
theorem dX0_routeLoop_40 : decode cX0_routeLoop 40 = .ok (.goto (-27), 3) := by decide +kernel
theorem dX0_routeLoop_43 : decode cX0_routeLoop 43 = .ok (.return_, 1) := by decide +kernel
set_option maxRecDepth 20000 in
theorem ggX0_depart_X0_settleBags : GoodIn wsX0_depart wsX0_settleBags := goodIn_r _ [8, 9, 10, 11, 12, 13, 7, 14, 15, 16, 17, 18, 19, 20, 21, 22, 23, 24, 25, 26, 27, 28, 3, 29, 30, 31, 32, 33, 34, 35, 36, 37, 38, 39, 40, 41, 42, 43, 44, 45, 46, 47, 48, 49, 50, 51, 52, 53, 54] (by decide +kernel) (by decide +kernel)
set_option maxRecDepth 20000 in
theorem gX0_depart_X0_settleBags : GoodIn wsX0_depart (wsV RX0 199 RX0 yX0_settleBags wsX0_settleBags) := goodIn_app (goodIn_of _ (by decide +kernel)) ggX0_depart_X0_settleBags
theorem dX0_depart_0 : decode cX0_depart 0 = .ok (.iconst 0, 1) := by decide +kernel
theorem dX0_depart_1 : decode cX0_depart 1 = .ok (.istore_n 1, 1) := by decide +kernel
theorem dX0_depart_2 : decode cX0_depart 2 = .ok (.iload_n 1, 1) := by decide +kernel
theorem dX0_depart_3 : decode cX0_depart 3 = .ok (.aload_n 0, 1) := by decide +kernel
theorem dX0_depart_4 : decode cX0_depart 4 = .ok (.getfield 57, 3) := by decide +kernel
theorem dX0_depart_7 : decode cX0_depart 7 = .ok (.if_icmp .ge 27, 3) := by decide +kernel
theorem dX0_depart_10 : decode cX0_depart 10 = .ok (.aload_n 0, 1) := by decide +kernel
theorem dX0_depart_11 : decode cX0_depart 11 = .ok (.getfield 9, 3) := by decide +kernel
theorem dX0_depart_14 : decode cX0_depart 14 = .ok (.iload_n 1, 1) := by decide +kernel
theorem dX0_depart_15 : decode cX0_depart 15 = .ok (.iaload, 1) := by decide +kernel
theorem dX0_depart_16 : decode cX0_depart 16 = .ok (.aload_n 0, 1) := by decide +kernel
theorem dX0_depart_17 : decode cX0_depart 17 = .ok (.getfield 66, 3) := by decide +kernel
theorem dX0_depart_20 : decode cX0_depart 20 = .ok (.if_icmp .ne 8, 3) := by decide +kernel
theorem dX0_depart_23 : decode cX0_depart 23 = .ok (.aload_n 0, 1) := by decide +kernel
theorem dX0_depart_24 : decode cX0_depart 24 = .ok (.iload_n 1, 1) := by decide +kernel
theorem dX0_depart_25 : decode cX0_depart 25 = .ok (.invokevirtual 199, 3) := by decide +kernel
theorem dX0_depart_28 : decode cX0_depart 28 = .ok (.iinc 1 1, 3) := by decide +kernel
theorem dX0_depart_31 : decode cX0_depart 31 = .ok (.goto (-29), 3) := by decide +kernel
theorem dX0_depart_34 : decode cX0_depart 34 = .ok (.return_, 1) := by decide +kernel
set_option maxRecDepth 20000 in
theorem ggX0_settleBags_X0_settle : GoodIn wsX0_settleBags wsX0_settle := goodIn_r _ [7, 8, 9, 10, 11, 6, 12, 13, 14, 15, 16, 17, 18, 19, 20, 21, 22, 23, 24, 25, 26, 27, 28, 29, 30, 31, 32, 33, 34, 35, 36, 37, 38, 39, 40, 41, 42, 43, 44, 45, 46, 47, 48] (by decide +kernel) (by decide +kernel)
set_option maxRecDepth 20000 in
theorem gX0_settleBags_X0_settle : GoodIn wsX0_settleBags (wsV RX0 202 RX0 yX0_settle wsX0_settle) := goodIn_app (goodIn_of _ (by decide +kernel)) ggX0_settleBags_X0_settle
theorem dX0_settleBags_0 : decode cX0_settleBags 0 = .ok (.iconst 0, 1) := by decide +kernel
theorem dX0_settleBags_1 : decode cX0_settleBags 1 = .ok (.istore_n 2, 1) := by decide +kernel
theorem dX0_settleBags_2 : decode cX0_settleBags 2 = .ok (.iload_n 2, 1) := by decide +kernel
theorem dX0_settleBags_3 : decode cX0_settleBags 3 = .ok (.aload_n 0, 1) := by decide +kernel
theorem dX0_settleBags_4 : decode cX0_settleBags 4 = .ok (.getfield 123, 3) := by decide +kernel
theorem dX0_settleBags_7 : decode cX0_settleBags 7 = .ok (.if_icmp .ge 24, 3) := by decide +kernel
theorem dX0_settleBags_10 : decode cX0_settleBags 10 = .ok (.aload_n 0, 1) := by decide +kernel
theorem dX0_settleBags_11 : decode cX0_settleBags 11 = .ok (.getfield 20, 3) := by decide +kernel
theorem dX0_settleBags_14 : decode cX0_settleBags 14 = .ok (.iload_n 2, 1) := by decide +kernel
theorem dX0_settleBags_15 : decode cX0_settleBags 15 = .ok (.iaload, 1) := by decide +kernel
theorem dX0_settleBags_16 : decode cX0_settleBags 16 = .ok (.iload_n 1, 1) := by decide +kernel
theorem dX0_settleBags_17 : decode cX0_settleBags 17 = .ok (.if_icmp .ne 8, 3) := by decide +kernel
theorem dX0_settleBags_20 : decode cX0_settleBags 20 = .ok (.aload_n 0, 1) := by decide +kernel
theorem dX0_settleBags_21 : decode cX0_settleBags 21 = .ok (.iload_n 2, 1) := by decide +kernel
theorem dX0_settleBags_22 : decode cX0_settleBags 22 = .ok (.invokevirtual 202, 3) := by decide +kernel
theorem dX0_settleBags_25 : decode cX0_settleBags 25 = .ok (.iinc 2 1, 3) := by decide +kernel
theorem dX0_settleBags_28 : decode cX0_settleBags 28 = .ok (.goto (-26), 3) := by decide +kernel
theorem dX0_settleBags_31 : decode cX0_settleBags 31 = .ok (.return_, 1) := by decide +kernel
set_option maxRecDepth 20000 in
theorem ggX0_settle_X0_mayFly : GoodIn wsX0_settle wsX0_mayFly := goodIn_r _ [6, 7, 8, 9, 26, 27, 28, 29, 30, 31, 32, 33, 34, 35, 36, 37, 38, 39, 40, 41, 42] (by decide +kernel) (by decide +kernel)
set_option maxRecDepth 20000 in
theorem gX0_settle_X0_mayFly : GoodIn wsX0_settle (wsV RX0 139 RX0 yX0_mayFly wsX0_mayFly) := goodIn_app (goodIn_of _ (by decide +kernel)) ggX0_settle_X0_mayFly
set_option maxRecDepth 20000 in
theorem ggX0_settle_X0_bring : GoodIn wsX0_settle wsX0_bring := goodIn_r _ [13, 14, 1, 15, 16, 17, 18, 19, 20, 21, 5, 22, 23, 24, 25, 26, 27, 28, 29, 30, 31, 32, 33, 34, 35, 36, 37, 38, 39, 40, 41, 42] (by decide +kernel) (by decide +kernel)
set_option maxRecDepth 20000 in
theorem gX0_settle_X0_bring : GoodIn wsX0_settle (wsV RX0 92 RX0 yX0_bring wsX0_bring) := goodIn_app (goodIn_of _ (by decide +kernel)) ggX0_settle_X0_bring
theorem dX0_settle_0 : decode cX0_settle 0 = .ok (.aload_n 0, 1) := by decide +kernel
theorem dX0_settle_1 : decode cX0_settle 1 = .ok (.getfield 29, 3) := by decide +kernel
theorem dX0_settle_4 : decode cX0_settle 4 = .ok (.iload_n 1, 1) := by decide +kernel
theorem dX0_settle_5 : decode cX0_settle 5 = .ok (.iaload, 1) := by decide +kernel
theorem dX0_settle_6 : decode cX0_settle 6 = .ok (.istore_n 2, 1) := by decide +kernel
theorem dX0_settle_7 : decode cX0_settle 7 = .ok (.iload_n 2, 1) := by decide +kernel
theorem dX0_settle_8 : decode cX0_settle 8 = .ok (.bipush 8, 2) := by decide +kernel
theorem dX0_settle_10 : decode cX0_settle 10 = .ok (.if_icmp .ne 26, 3) := by decide +kernel
theorem dX0_settle_13 : decode cX0_settle 13 = .ok (.aload_n 0, 1) := by decide +kernel
theorem dX0_settle_14 : decode cX0_settle 14 = .ok (.iload_n 1, 1) := by decide +kernel
theorem dX0_settle_15 : decode cX0_settle 15 = .ok (.aload_n 0, 1) := by decide +kernel
theorem dX0_settle_16 : decode cX0_settle 16 = .ok (.iload_n 1, 1) := by decide +kernel
theorem dX0_settle_17 : decode cX0_settle 17 = .ok (.invokevirtual 139, 3) := by decide +kernel
theorem dX0_settle_20 : decode cX0_settle 20 = .ok (.ifCond .eq 8, 3) := by decide +kernel
theorem dX0_settle_23 : decode cX0_settle 23 = .ok (.bipush 9, 2) := by decide +kernel
theorem dX0_settle_25 : decode cX0_settle 25 = .ok (.goto 5, 3) := by decide +kernel
theorem dX0_settle_28 : decode cX0_settle 28 = .ok (.bipush 10, 2) := by decide +kernel
theorem dX0_settle_30 : decode cX0_settle 30 = .ok (.invokevirtual 92, 3) := by decide +kernel
theorem dX0_settle_33 : decode cX0_settle 33 = .ok (.goto 27, 3) := by decide +kernel
theorem dX0_settle_36 : decode cX0_settle 36 = .ok (.iload_n 2, 1) := by decide +kernel
theorem dX0_settle_37 : decode cX0_settle 37 = .ok (.iconst 5, 1) := by decide +kernel
theorem dX0_settle_38 : decode cX0_settle 38 = .ok (.if_icmp .eq 15, 3) := by decide +kernel
theorem dX0_settle_41 : decode cX0_settle 41 = .ok (.iload_n 2, 1) := by decide +kernel
theorem dX0_settle_42 : decode cX0_settle 42 = .ok (.bipush 6, 2) := by decide +kernel
theorem dX0_settle_44 : decode cX0_settle 44 = .ok (.if_icmp .eq 9, 3) := by decide +kernel
theorem dX0_settle_47 : decode cX0_settle 47 = .ok (.iload_n 2, 1) := by decide +kernel
theorem dX0_settle_48 : decode cX0_settle 48 = .ok (.bipush 7, 2) := by decide +kernel
theorem dX0_settle_50 : decode cX0_settle 50 = .ok (.if_icmp .ne 10, 3) := by decide +kernel
theorem dX0_settle_53 : decode cX0_settle 53 = .ok (.aload_n 0, 1) := by decide +kernel
theorem dX0_settle_54 : decode cX0_settle 54 = .ok (.iload_n 1, 1) := by decide +kernel
theorem dX0_settle_55 : decode cX0_settle 55 = .ok (.bipush 11, 2) := by decide +kernel
theorem dX0_settle_57 : decode cX0_settle 57 = .ok (.invokevirtual 92, 3) := by decide +kernel
theorem dX0_settle_60 : decode cX0_settle 60 = .ok (.return_, 1) := by decide +kernel
theorem dX1_init_0 : decode cX1_init 0 = .ok (.aload_n 0, 1) := by decide +kernel
theorem dX1_init_1 : decode cX1_init 1 = .ok (.invokespecial 1, 3) := by decide +kernel
theorem dX1_init_4 : decode cX1_init 4 = .ok (.aload_n 0, 1) := by decide +kernel
theorem dX1_init_5 : decode cX1_init 5 = .ok (.bipush 10, 2) := by decide +kernel
theorem dX1_init_7 : decode cX1_init 7 = .ok (.newarray .int, 2) := by decide +kernel
theorem dX1_init_9 : decode cX1_init 9 = .ok (.putfield 7, 3) := by decide +kernel
theorem dX1_init_12 : decode cX1_init 12 = .ok (.aload_n 0, 1) := by decide +kernel
theorem dX1_init_13 : decode cX1_init 13 = .ok (.bipush 10, 2) := by decide +kernel
theorem dX1_init_15 : decode cX1_init 15 = .ok (.newarray .int, 2) := by decide +kernel
theorem dX1_init_17 : decode cX1_init 17 = .ok (.putfield 13, 3) := by decide +kernel
theorem dX1_init_20 : decode cX1_init 20 = .ok (.aload_n 0, 1) := by decide +kernel
theorem dX1_init_21 : decode cX1_init 21 = .ok (.bipush 40, 2) := by decide +kernel
theorem dX1_init_23 : decode cX1_init 23 = .ok (.newarray .int, 2) := by decide +kernel
theorem dX1_init_25 : decode cX1_init 25 = .ok (.putfield 16, 3) := by decide +kernel
theorem dX1_init_28 : decode cX1_init 28 = .ok (.aload_n 0, 1) := by decide +kernel
theorem dX1_init_29 : decode cX1_init 29 = .ok (.bipush 48, 2) := by decide +kernel
theorem dX1_init_31 : decode cX1_init 31 = .ok (.newarray .int, 2) := by decide +kernel
theorem dX1_init_33 : decode cX1_init 33 = .ok (.putfield 19, 3) := by decide +kernel
theorem dX1_init_36 : decode cX1_init 36 = .ok (.aload_n 0, 1) := by decide +kernel
theorem dX1_init_37 : decode cX1_init 37 = .ok (.bipush 48, 2) := by decide +kernel
theorem dX1_init_39 : decode cX1_init 39 = .ok (.newarray .int, 2) := by decide +kernel
theorem dX1_init_41 : decode cX1_init 41 = .ok (.putfield 22, 3) := by decide +kernel
theorem dX1_init_44 : decode cX1_init 44 = .ok (.aload_n 0, 1) := by decide +kernel
theorem dX1_init_45 : decode cX1_init 45 = .ok (.bipush 48, 2) := by decide +kernel
theorem dX1_init_47 : decode cX1_init 47 = .ok (.newarray .int, 2) := by decide +kernel
theorem dX1_init_49 : decode cX1_init 49 = .ok (.putfield 25, 3) := by decide +kernel
theorem dX1_init_52 : decode cX1_init 52 = .ok (.aload_n 0, 1) := by decide +kernel
theorem dX1_init_53 : decode cX1_init 53 = .ok (.bipush 48, 2) := by decide +kernel
theorem dX1_init_55 : decode cX1_init 55 = .ok (.newarray .int, 2) := by decide +kernel
theorem dX1_init_57 : decode cX1_init 57 = .ok (.putfield 28, 3) := by decide +kernel
theorem dX1_init_60 : decode cX1_init 60 = .ok (.aload_n 0, 1) := by decide +kernel
theorem dX1_init_61 : decode cX1_init 61 = .ok (.bipush 48, 2) := by decide +kernel
theorem dX1_init_63 : decode cX1_init 63 = .ok (.newarray .int, 2) := by decide +kernel
theorem dX1_init_65 : decode cX1_init 65 = .ok (.putfield 31, 3) := by decide +kernel
theorem dX1_init_68 : decode cX1_init 68 = .ok (.aload_n 0, 1) := by decide +kernel
theorem dX1_init_69 : decode cX1_init 69 = .ok (.sipush 6000, 3) := by decide +kernel
theorem dX1_init_72 : decode cX1_init 72 = .ok (.newarray .int, 2) := by decide +kernel
theorem dX1_init_74 : decode cX1_init 74 = .ok (.putfield 34, 3) := by decide +kernel
theorem dX1_init_77 : decode cX1_init 77 = .ok (.return_, 1) := by decide +kernel
theorem dX1_thrown_0 : decode cX1_thrown 0 = .ok (.aload_n 0, 1) := by decide +kernel
theorem dX1_thrown_1 : decode cX1_thrown 1 = .ok (.getfield 37, 3) := by decide +kernel
theorem dX1_thrown_4 : decode cX1_thrown 4 = .ok (.ireturn, 1) := by decide +kernel
theorem dX1_fails_0 : decode cX1_fails 0 = .ok (.aload_n 0, 1) := by decide +kernel
theorem dX1_fails_1 : decode cX1_fails 1 = .ok (.iload_n 1, 1) := by decide +kernel
theorem dX1_fails_2 : decode cX1_fails 2 = .ok (.putfield 37, 3) := by decide +kernel
theorem dX1_fails_5 : decode cX1_fails 5 = .ok (.iconst 0, 1) := by decide +kernel
theorem dX1_fails_6 : decode cX1_fails 6 = .ok (.ireturn, 1) := by decide +kernel
theorem dX1_in_0 : decode cX1_in 0 = .ok (.iload_n 0, 1) := by decide +kernel
theorem dX1_in_1 : decode cX1_in 1 = .ok (.iload_n 1, 1) := by decide +kernel
theorem dX1_in_2 : decode cX1_in 2 = .ok (.if_icmp .lt 12, 3) := by decide +kernel
theorem dX1_in_5 : decode cX1_in 5 = .ok (.iload_n 0, 1) := by decide +kernel
theorem dX1_in_6 : decode cX1_in 6 = .ok (.iload_n 2, 1) := by decide +kernel
theorem dX1_in_7 : decode cX1_in 7 = .ok (.if_icmp .gt 7, 3) := by decide +kernel
theorem dX1_in_10 : decode cX1_in 10 = .ok (.iconst 1, 1) := by decide +kernel
theorem dX1_in_11 : decode cX1_in 11 = .ok (.goto 4, 3) := by decide +kernel
theorem dX1_in_14 : decode cX1_in 14 = .ok (.iconst 0, 1) := by decide +kernel
theorem dX1_in_15 : decode cX1_in 15 = .ok (.ireturn, 1) := by decide +kernel
set_option maxRecDepth 20000 in
theorem ggX1_isFlight_X1_in : GoodIn wsX1_isFlight wsX1_in := goodIn_r _ [6] (by decide +kernel) (by decide +kernel)
set_option maxRecDepth 20000 in
theorem gX1_isFlight_X1_in : GoodIn wsX1_isFlight (va_wsS RX1 44 yX1_in wsX1_in) := goodIn_app (goodIn_of _ (by decide +kernel)) ggX1_isFlight_X1_in
theorem dX1_isFlight_0 : decode cX1_isFlight 0 = .ok (.aload_n 0, 1) := by decide +kernel
theorem dX1_isFlight_1 : decode cX1_isFlight 1 = .ok (.iload_n 1, 1) := by decide +kernel
theorem dX1_isFlight_2 : decode cX1_isFlight 2 = .ok (.iconst 0, 1) := by decide +kernel
theorem dX1_isFlight_3 : decode cX1_isFlight 3 = .ok (.aload_n 0, 1) := by decide +kernel
theorem dX1_isFlight_4 : decode cX1_isFlight 4 = .ok (.getfield 41, 3) := by decide +kernel
theorem dX1_isFlight_7 : decode cX1_isFlight 7 = .ok (.iconst 1, 1) := by decide +kernel
theorem dX1_isFlight_8 : decode cX1_isFlight 8 = .ok (.isub, 1) := by decide +kernel
theorem dX1_isFlight_9 : decode cX1_isFlight 9 = .ok (.invokestatic 44, 3) := by decide +kernel
theorem dX1_isFlight_12 : decode cX1_isFlight 12 = .ok (.ifCond .eq 7, 3) := by decide +kernel
theorem dX1_isFlight_15 : decode cX1_isFlight 15 = .ok (.iconst 0, 1) := by decide +kernel
theorem dX1_isFlight_16 : decode cX1_isFlight 16 = .ok (.goto 4, 3) := by decide +kernel
theorem dX1_isFlight_19 : decode cX1_isFlight 19 = .ok (.iconst 1, 1) := by decide +kernel
theorem dX1_isFlight_20 : decode cX1_isFlight 20 = .ok (.putfield 37, 3) := by decide +kernel
theorem dX1_isFlight_23 : decode cX1_isFlight 23 = .ok (.aload_n 0, 1) := by decide +kernel
theorem dX1_isFlight_24 : decode cX1_isFlight 24 = .ok (.getfield 37, 3) := by decide +kernel
theorem dX1_isFlight_27 : decode cX1_isFlight 27 = .ok (.ifCond .ne 7, 3) := by decide +kernel
theorem dX1_isFlight_30 : decode cX1_isFlight 30 = .ok (.iconst 1, 1) := by decide +kernel
theorem dX1_isFlight_31 : decode cX1_isFlight 31 = .ok (.goto 4, 3) := by decide +kernel
theorem dX1_isFlight_34 : decode cX1_isFlight 34 = .ok (.iconst 0, 1) := by decide +kernel
theorem dX1_isFlight_35 : decode cX1_isFlight 35 = .ok (.ireturn, 1) := by decide +kernel
set_option maxRecDepth 20000 in
theorem ggX1_isBag_X1_in : GoodIn wsX1_isBag wsX1_in := goodIn_r _ [6] (by decide +kernel) (by decide +kernel)
set_option maxRecDepth 20000 in
theorem gX1_isBag_X1_in : GoodIn wsX1_isBag (va_wsS RX1 44 yX1_in wsX1_in) := goodIn_app (goodIn_of _ (by decide +kernel)) ggX1_isBag_X1_in
theorem dX1_isBag_0 : decode cX1_isBag 0 = .ok (.aload_n 0, 1) := by decide +kernel
theorem dX1_isBag_1 : decode cX1_isBag 1 = .ok (.iload_n 1, 1) := by decide +kernel
theorem dX1_isBag_2 : decode cX1_isBag 2 = .ok (.iconst 0, 1) := by decide +kernel
theorem dX1_isBag_3 : decode cX1_isBag 3 = .ok (.aload_n 0, 1) := by decide +kernel
theorem dX1_isBag_4 : decode cX1_isBag 4 = .ok (.getfield 48, 3) := by decide +kernel
theorem dX1_isBag_7 : decode cX1_isBag 7 = .ok (.iconst 1, 1) := by decide +kernel
theorem dX1_isBag_8 : decode cX1_isBag 8 = .ok (.isub, 1) := by decide +kernel
theorem dX1_isBag_9 : decode cX1_isBag 9 = .ok (.invokestatic 44, 3) := by decide +kernel
theorem dX1_isBag_12 : decode cX1_isBag 12 = .ok (.ifCond .eq 7, 3) := by decide +kernel
theorem dX1_isBag_15 : decode cX1_isBag 15 = .ok (.iconst 0, 1) := by decide +kernel
theorem dX1_isBag_16 : decode cX1_isBag 16 = .ok (.goto 4, 3) := by decide +kernel
theorem dX1_isBag_19 : decode cX1_isBag 19 = .ok (.iconst 1, 1) := by decide +kernel
theorem dX1_isBag_20 : decode cX1_isBag 20 = .ok (.putfield 37, 3) := by decide +kernel
theorem dX1_isBag_23 : decode cX1_isBag 23 = .ok (.aload_n 0, 1) := by decide +kernel
theorem dX1_isBag_24 : decode cX1_isBag 24 = .ok (.getfield 37, 3) := by decide +kernel
theorem dX1_isBag_27 : decode cX1_isBag 27 = .ok (.ifCond .ne 7, 3) := by decide +kernel
theorem dX1_isBag_30 : decode cX1_isBag 30 = .ok (.iconst 1, 1) := by decide +kernel
theorem dX1_isBag_31 : decode cX1_isBag 31 = .ok (.goto 4, 3) := by decide +kernel
theorem dX1_isBag_34 : decode cX1_isBag 34 = .ok (.iconst 0, 1) := by decide +kernel
theorem dX1_isBag_35 : decode cX1_isBag 35 = .ok (.ireturn, 1) := by decide +kernel
theorem dX1_comes_0 : decode cX1_comes 0 = .ok (.aload_n 0, 1) := by decide +kernel
theorem dX1_comes_1 : decode cX1_comes 1 = .ok (.getfield 19, 3) := by decide +kernel
theorem dX1_comes_4 : decode cX1_comes 4 = .ok (.iload_n 1, 1) := by decide +kernel
theorem dX1_comes_5 : decode cX1_comes 5 = .ok (.iload_n 2, 1) := by decide +kernel
theorem dX1_comes_6 : decode cX1_comes 6 = .ok (.iastore, 1) := by decide +kernel
theorem dX1_comes_7 : decode cX1_comes 7 = .ok (.aload_n 0, 1) := by decide +kernel
theorem dX1_comes_8 : decode cX1_comes 8 = .ok (.getfield 31, 3) := by decide +kernel
theorem dX1_comes_11 : decode cX1_comes 11 = .ok (.iload_n 1, 1) := by decide +kernel
theorem dX1_comes_12 : decode cX1_comes 12 = .ok (.aload_n 0, 1) := by decide +kernel
theorem dX1_comes_13 : decode cX1_comes 13 = .ok (.getfield 51, 3) := by decide +kernel
theorem dX1_comes_16 : decode cX1_comes 16 = .ok (.iastore, 1) := by decide +kernel
theorem dX1_comes_17 : decode cX1_comes 17 = .ok (.aload_n 0, 1) := by decide +kernel
theorem dX1_comes_18 : decode cX1_comes 18 = .ok (.getfield 34, 3) := by decide +kernel
theorem dX1_comes_21 : decode cX1_comes 21 = .ok (.aload_n 0, 1) := by decide +kernel
theorem dX1_comes_22 : decode cX1_comes 22 = .ok (.getfield 51, 3) := by decide +kernel
theorem dX1_comes_25 : decode cX1_comes 25 = .ok (.iload_n 1, 1) := by decide +kernel
theorem dX1_comes_26 : decode cX1_comes 26 = .ok (.bipush 64, 2) := by decide +kernel
theorem dX1_comes_28 : decode cX1_comes 28 = .ok (.iload_n 2, 1) := by decide +kernel
theorem dX1_comes_29 : decode cX1_comes 29 = .ok (.imul, 1) := by decide +kernel
theorem dX1_comes_30 : decode cX1_comes 30 = .ok (.iadd, 1) := by decide +kernel
theorem dX1_comes_31 : decode cX1_comes 31 = .ok (.sipush 1024, 3) := by decide +kernel
theorem dX1_comes_34 : decode cX1_comes 34 = .ok (.aload_n 0, 1) := by decide +kernel
theorem dX1_comes_35 : decode cX1_comes 35 = .ok (.getfield 54, 3) := by decide +kernel
theorem dX1_comes_38 : decode cX1_comes 38 = .ok (.imul, 1) := by decide +kernel
theorem dX1_comes_39 : decode cX1_comes 39 = .ok (.iadd, 1) := by decide +kernel
theorem dX1_comes_40 : decode cX1_comes 40 = .ok (.iastore, 1) := by decide +kernel
theorem dX1_comes_41 : decode cX1_comes 41 = .ok (.aload_n 0, 1) := by decide +kernel
theorem dX1_comes_42 : decode cX1_comes 42 = .ok (.dup, 1) := by decide +kernel
theorem dX1_comes_43 : decode cX1_comes 43 = .ok (.getfield 51, 3) := by decide +kernel
theorem dX1_comes_46 : decode cX1_comes 46 = .ok (.iconst 1, 1) := by decide +kernel
theorem dX1_comes_47 : decode cX1_comes 47 = .ok (.iadd, 1) := by decide +kernel
theorem dX1_comes_48 : decode cX1_comes 48 = .ok (.putfield 51, 3) := by decide +kernel
theorem dX1_comes_51 : decode cX1_comes 51 = .ok (.return_, 1) := by decide +kernel
theorem dX1_at_0 : decode cX1_at 0 = .ok (.iconst 0, 1) := by decide +kernel
theorem dX1_at_1 : decode cX1_at 1 = .ok (.istore_n 2, 1) := by decide +kernel
theorem dX1_at_2 : decode cX1_at 2 = .ok (.iconst 0, 1) := by decide +kernel
theorem dX1_at_3 : decode cX1_at 3 = .ok (.istore_n 3, 1) := by decide +kernel
theorem dX1_at_4 : decode cX1_at 4 = .ok (.iload_n 3, 1) := by decide +kernel
theorem dX1_at_5 : decode cX1_at 5 = .ok (.aload_n 0, 1) := by decide +kernel
theorem dX1_at_6 : decode cX1_at 6 = .ok (.getfield 48, 3) := by decide +kernel
theorem dX1_at_9 : decode cX1_at 9 = .ok (.if_icmp .ge 27, 3) := by decide +kernel
theorem dX1_at_12 : decode cX1_at 12 = .ok (.iload_n 2, 1) := by decide +kernel
theorem dX1_at_13 : decode cX1_at 13 = .ok (.aload_n 0, 1) := by decide +kernel
theorem dX1_at_14 : decode cX1_at 14 = .ok (.getfield 19, 3) := by decide +kernel
theorem dX1_at_17 : decode cX1_at 17 = .ok (.iload_n 3, 1) := by decide +kernel
theorem dX1_at_18 : decode cX1_at 18 = .ok (.iaload, 1) := by decide +kernel
theorem dX1_at_19 : decode cX1_at 19 = .ok (.iload_n 1, 1) := by decide +kernel
theorem dX1_at_20 : decode cX1_at 20 = .ok (.if_icmp .ne 7, 3) := by decide +kernel
theorem dX1_at_23 : decode cX1_at 23 = .ok (.iconst 1, 1) := by decide +kernel
theorem dX1_at_24 : decode cX1_at 24 = .ok (.goto 4, 3) := by decide +kernel
theorem dX1_at_27 : decode cX1_at 27 = .ok (.iconst 0, 1) := by decide +kernel
theorem dX1_at_28 : decode cX1_at 28 = .ok (.iadd, 1) := by decide +kernel
theorem dX1_at_29 : decode cX1_at 29 = .ok (.istore_n 2, 1) := by decide +kernel
theorem dX1_at_30 : decode cX1_at 30 = .ok (.iinc 3 1, 3) := by decide +kernel
theorem dX1_at_33 : decode cX1_at 33 = .ok (.goto (-29), 3) := by decide +kernel
theorem dX1_at_36 : decode cX1_at 36 = .ok (.iload_n 2, 1) := by decide +kernel
theorem dX1_at_37 : decode cX1_at 37 = .ok (.ireturn, 1) := by decide +kernel
set_option maxRecDepth 20000 in
theorem ggX1_way_X1_at : GoodIn wsX1_way wsX1_at := goodIn_r _ [9, 10, 11, 12, 13, 14, 15, 16, 17, 18, 19, 20, 21, 22, 23, 24, 25] (by decide +kernel) (by decide +kernel)
set_option maxRecDepth 20000 in
theorem gX1_way_X1_at : GoodIn wsX1_way (wsV RX1 57 RX1 yX1_at wsX1_at) := goodIn_app (goodIn_of _ (by decide +kernel)) ggX1_way_X1_at
theorem dX1_way_0 : decode cX1_way 0 = .ok (.aload_n 0, 1) := by decide +kernel
theorem dX1_way_1 : decode cX1_way 1 = .ok (.getfield 22, 3) := by decide +kernel
theorem dX1_way_4 : decode cX1_way 4 = .ok (.iload_n 1, 1) := by decide +kernel
theorem dX1_way_5 : decode cX1_way 5 = .ok (.iaload, 1) := by decide +kernel
theorem dX1_way_6 : decode cX1_way 6 = .ok (.istore_n 2, 1) := by decide +kernel
theorem dX1_way_7 : decode cX1_way 7 = .ok (.aload_n 0, 1) := by decide +kernel
theorem dX1_way_8 : decode cX1_way 8 = .ok (.getfield 54, 3) := by decide +kernel
theorem dX1_way_11 : decode cX1_way 11 = .ok (.aload_n 0, 1) := by decide +kernel
theorem dX1_way_12 : decode cX1_way 12 = .ok (.getfield 7, 3) := by decide +kernel
theorem dX1_way_15 : decode cX1_way 15 = .ok (.iload_n 2, 1) := by decide +kernel
theorem dX1_way_16 : decode cX1_way 16 = .ok (.iaload, 1) := by decide +kernel
theorem dX1_way_17 : decode cX1_way 17 = .ok (.bipush 10, 2) := by decide +kernel
theorem dX1_way_19 : decode cX1_way 19 = .ok (.isub, 1) := by decide +kernel
theorem dX1_way_20 : decode cX1_way 20 = .ok (.if_icmp .ge 13, 3) := by decide +kernel
theorem dX1_way_23 : decode cX1_way 23 = .ok (.aload_n 0, 1) := by decide +kernel
theorem dX1_way_24 : decode cX1_way 24 = .ok (.getfield 13, 3) := by decide +kernel
theorem dX1_way_27 : decode cX1_way 27 = .ok (.iload_n 2, 1) := by decide +kernel
theorem dX1_way_28 : decode cX1_way 28 = .ok (.iaload, 1) := by decide +kernel
theorem dX1_way_29 : decode cX1_way 29 = .ok (.iconst (-1), 1) := by decide +kernel
theorem dX1_way_30 : decode cX1_way 30 = .ok (.if_icmp .ne 6, 3) := by decide +kernel
theorem dX1_way_33 : decode cX1_way 33 = .ok (.bipush 11, 2) := by decide +kernel
theorem dX1_way_35 : decode cX1_way 35 = .ok (.ireturn, 1) := by decide +kernel
theorem dX1_way_36 : decode cX1_way 36 = .ok (.aload_n 0, 1) := by decide +kernel
theorem dX1_way_37 : decode cX1_way 37 = .ok (.getfield 54, 3) := by decide +kernel
theorem dX1_way_40 : decode cX1_way 40 = .ok (.aload_n 0, 1) := by decide +kernel
theorem dX1_way_41 : decode cX1_way 41 = .ok (.getfield 7, 3) := by decide +kernel
theorem dX1_way_44 : decode cX1_way 44 = .ok (.iload_n 2, 1) := by decide +kernel
theorem dX1_way_45 : decode cX1_way 45 = .ok (.iaload, 1) := by decide +kernel
theorem dX1_way_46 : decode cX1_way 46 = .ok (.bipush 60, 2) := by decide +kernel
theorem dX1_way_48 : decode cX1_way 48 = .ok (.isub, 1) := by decide +kernel
theorem dX1_way_49 : decode cX1_way 49 = .ok (.if_icmp .lt 8, 3) := by decide +kernel
theorem dX1_way_52 : decode cX1_way 52 = .ok (.bipush 7, 2) := by decide +kernel
theorem dX1_way_54 : decode cX1_way 54 = .ok (.goto 19, 3) := by decide +kernel
theorem dX1_way_57 : decode cX1_way 57 = .ok (.aload_n 0, 1) := by decide +kernel
theorem dX1_way_58 : decode cX1_way 58 = .ok (.iconst 5, 1) := by decide +kernel
theorem dX1_way_59 : decode cX1_way 59 = .ok (.invokevirtual 57, 3) := by decide +kernel
theorem dX1_way_62 : decode cX1_way 62 = .ok (.bipush 8, 2) := by decide +kernel
theorem dX1_way_64 : decode cX1_way 64 = .ok (.if_icmp .ge 7, 3) := by decide +kernel
theorem dX1_way_67 : decode cX1_way 67 = .ok (.iconst 5, 1) := by decide +kernel
theorem dX1_way_68 : decode cX1_way 68 = .ok (.goto 5, 3) := by decide +kernel
theorem dX1_way_71 : decode cX1_way 71 = .ok (.bipush 6, 2) := by decide +kernel
theorem dX1_way_73 : decode cX1_way 73 = .ok (.ireturn, 1) := by decide +kernel
set_option maxRecDepth 20000 in
theorem ggX1_routes_X1_way : GoodIn wsX1_routes wsX1_way := goodIn_r _ [6, 7, 8, 9, 10, 11, 12, 13, 5, 14, 15, 1, 23, 24, 25, 26, 27, 28, 29, 30, 31, 32, 33, 34, 35, 36] (by decide +kernel) (by decide +kernel)
set_option maxRecDepth 20000 in
theorem gX1_routes_X1_way : GoodIn wsX1_routes (wsV RX1 61 RX1 yX1_way wsX1_way) := goodIn_app (goodIn_of _ (by decide +kernel)) ggX1_routes_X1_way
set_option maxRecDepth 20000 in
theorem ggX1_routes_X1_comes : GoodIn wsX1_routes wsX1_comes := goodIn_r _ [19, 1, 20, 21, 22, 8, 23, 24, 25, 26, 27, 28, 29, 30, 31, 32, 33, 34, 35, 36] (by decide +kernel) (by decide +kernel)
set_option maxRecDepth 20000 in
theorem gX1_routes_X1_comes : GoodIn wsX1_routes (wsV RX1 64 RX1 yX1_comes wsX1_comes) := goodIn_app (goodIn_of _ (by decide +kernel)) ggX1_routes_X1_comes
theorem dX1_routes_0 : decode cX1_routes 0 = .ok (.aload_n 0, 1) := by decide +kernel
theorem dX1_routes_1 : decode cX1_routes 1 = .ok (.iload_n 1, 1) := by decide +kernel
theorem dX1_routes_2 : decode cX1_routes 2 = .ok (.invokevirtual 61, 3) := by decide +kernel
theorem dX1_routes_5 : decode cX1_routes 5 = .ok (.istore_n 2, 1) := by decide +kernel
theorem dX1_routes_6 : decode cX1_routes 6 = .ok (.iload_n 2, 1) := by decide +kernel
theorem dX1_routes_7 : decode cX1_routes 7 = .ok (.bipush 6, 2) := by decide +kernel
theorem dX1_routes_9 : decode cX1_routes 9 = .ok (.if_icmp .ne 14, 3) := by decide +kernel
theorem dX1_routes_12 : decode cX1_routes 12 = .ok (.aload_n 0, 1) := by decide +kernel
theorem dX1_routes_13 : decode cX1_routes 13 = .ok (.getfield 19, 3) := by decide +kernel
theorem dX1_routes_16 : decode cX1_routes 16 = .ok (.iload_n 1, 1) := by decide +kernel
theorem dX1_routes_17 : decode cX1_routes 17 = .ok (.iaload, 1) := by decide +kernel
theorem dX1_routes_18 : decode cX1_routes 18 = .ok (.bipush 6, 2) := by decide +kernel
theorem dX1_routes_20 : decode cX1_routes 20 = .ok (.if_icmp .eq 9, 3) := by decide +kernel
theorem dX1_routes_23 : decode cX1_routes 23 = .ok (.aload_n 0, 1) := by decide +kernel
theorem dX1_routes_24 : decode cX1_routes 24 = .ok (.iload_n 1, 1) := by decide +kernel
theorem dX1_routes_25 : decode cX1_routes 25 = .ok (.iload_n 2, 1) := by decide +kernel
theorem dX1_routes_26 : decode cX1_routes 26 = .ok (.invokevirtual 64, 3) := by decide +kernel
theorem dX1_routes_29 : decode cX1_routes 29 = .ok (.aload_n 0, 1) := by decide +kernel
theorem dX1_routes_30 : decode cX1_routes 30 = .ok (.getfield 19, 3) := by decide +kernel
theorem dX1_routes_33 : decode cX1_routes 33 = .ok (.iload_n 1, 1) := by decide +kernel
theorem dX1_routes_34 : decode cX1_routes 34 = .ok (.iaload, 1) := by decide +kernel
theorem dX1_routes_35 : decode cX1_routes 35 = .ok (.ireturn, 1) := by decide +kernel
theorem dX1_firstOfStore_0 : decode cX1_firstOfStore 0 = .ok (.iconst (-1), 1) := by decide +kernel
theorem dX1_firstOfStore_1 : decode cX1_firstOfStore 1 = .ok (.istore_n 1, 1) := by decide +kernel
theorem dX1_firstOfStore_2 : decode cX1_firstOfStore 2 = .ok (.iconst 0, 1) := by decide +kernel
theorem dX1_firstOfStore_3 : decode cX1_firstOfStore 3 = .ok (.istore_n 2, 1) := by decide +kernel
theorem dX1_firstOfStore_4 : decode cX1_firstOfStore 4 = .ok (.iload_n 2, 1) := by decide +kernel
theorem dX1_firstOfStore_5 : decode cX1_firstOfStore 5 = .ok (.aload_n 0, 1) := by decide +kernel
theorem dX1_firstOfStore_6 : decode cX1_firstOfStore 6 = .ok (.getfield 48, 3) := by decide +kernel
theorem dX1_firstOfStore_9 : decode cX1_firstOfStore 9 = .ok (.if_icmp .ge 75, 3) := by decide +kernel
theorem dX1_firstOfStore_12 : decode cX1_firstOfStore 12 = .ok (.aload_n 0, 1) := by decide +kernel
theorem dX1_firstOfStore_13 : decode cX1_firstOfStore 13 = .ok (.getfield 19, 3) := by decide +kernel
theorem dX1_firstOfStore_16 : decode cX1_firstOfStore 16 = .ok (.iload_n 2, 1) := by decide +kernel
theorem dX1_firstOfStore_17 : decode cX1_firstOfStore 17 = .ok (.iaload, 1) := by decide +kernel
theorem dX1_firstOfStore_18 : decode cX1_firstOfStore 18 = .ok (.iconst 5, 1) := by decide +kernel
theorem dX1_firstOfStore_19 : decode cX1_firstOfStore 19 = .ok (.if_icmp .ne 28, 3) := by decide +kernel
theorem dX1_firstOfStore_22 : decode cX1_firstOfStore 22 = .ok (.aload_n 0, 1) := by decide +kernel
theorem dX1_firstOfStore_23 : decode cX1_firstOfStore 23 = .ok (.getfield 54, 3) := by decide +kernel
theorem dX1_firstOfStore_26 : decode cX1_firstOfStore 26 = .ok (.aload_n 0, 1) := by decide +kernel
theorem dX1_firstOfStore_27 : decode cX1_firstOfStore 27 = .ok (.getfield 7, 3) := by decide +kernel
theorem dX1_firstOfStore_30 : decode cX1_firstOfStore 30 = .ok (.aload_n 0, 1) := by decide +kernel
theorem dX1_firstOfStore_31 : decode cX1_firstOfStore 31 = .ok (.getfield 22, 3) := by decide +kernel
theorem dX1_firstOfStore_34 : decode cX1_firstOfStore 34 = .ok (.iload_n 2, 1) := by decide +kernel
theorem dX1_firstOfStore_35 : decode cX1_firstOfStore 35 = .ok (.iaload, 1) := by decide +kernel
theorem dX1_firstOfStore_36 : decode cX1_firstOfStore 36 = .ok (.iaload, 1) := by decide +kernel
theorem dX1_firstOfStore_37 : decode cX1_firstOfStore 37 = .ok (.bipush 60, 2) := by decide +kernel
theorem dX1_firstOfStore_39 : decode cX1_firstOfStore 39 = .ok (.isub, 1) := by decide +kernel
theorem dX1_firstOfStore_40 : decode cX1_firstOfStore 40 = .ok (.if_icmp .lt 7, 3) := by decide +kernel
theorem dX1_firstOfStore_43 : decode cX1_firstOfStore 43 = .ok (.iconst 1, 1) := by decide +kernel
theorem dX1_firstOfStore_44 : decode cX1_firstOfStore 44 = .ok (.goto 4, 3) := by decide +kernel
theorem dX1_firstOfStore_47 : decode cX1_firstOfStore 47 = .ok (.iconst 0, 1) := by decide +kernel
theorem dX1_firstOfStore_48 : decode cX1_firstOfStore 48 = .ok (.istore_n 3, 1) := by decide +kernel
theorem dX1_firstOfStore_49 : decode cX1_firstOfStore 49 = .ok (.iload_n 3, 1) := by decide +kernel
theorem dX1_firstOfStore_50 : decode cX1_firstOfStore 50 = .ok (.ifCond .eq 26, 3) := by decide +kernel
theorem dX1_firstOfStore_53 : decode cX1_firstOfStore 53 = .ok (.iload_n 1, 1) := by decide +kernel
theorem dX1_firstOfStore_54 : decode cX1_firstOfStore 54 = .ok (.ifCond .lt 18, 3) := by decide +kernel
theorem dX1_firstOfStore_57 : decode cX1_firstOfStore 57 = .ok (.aload_n 0, 1) := by decide +kernel
theorem dX1_firstOfStore_58 : decode cX1_firstOfStore 58 = .ok (.getfield 31, 3) := by decide +kernel
theorem dX1_firstOfStore_61 : decode cX1_firstOfStore 61 = .ok (.iload_n 2, 1) := by decide +kernel
theorem dX1_firstOfStore_62 : decode cX1_firstOfStore 62 = .ok (.iaload, 1) := by decide +kernel
theorem dX1_firstOfStore_63 : decode cX1_firstOfStore 63 = .ok (.aload_n 0, 1) := by decide +kernel
theorem dX1_firstOfStore_64 : decode cX1_firstOfStore 64 = .ok (.getfield 31, 3) := by decide +kernel
theorem dX1_firstOfStore_67 : decode cX1_firstOfStore 67 = .ok (.iload_n 1, 1) := by decide +kernel
theorem dX1_firstOfStore_68 : decode cX1_firstOfStore 68 = .ok (.iaload, 1) := by decide +kernel
theorem dX1_firstOfStore_69 : decode cX1_firstOfStore 69 = .ok (.if_icmp .ge 7, 3) := by decide +kernel
theorem dX1_firstOfStore_72 : decode cX1_firstOfStore 72 = .ok (.iload_n 2, 1) := by decide +kernel
theorem dX1_firstOfStore_73 : decode cX1_firstOfStore 73 = .ok (.goto 4, 3) := by decide +kernel
theorem dX1_firstOfStore_76 : decode cX1_firstOfStore 76 = .ok (.iload_n 1, 1) := by decide +kernel
theorem dX1_firstOfStore_77 : decode cX1_firstOfStore 77 = .ok (.istore_n 1, 1) := by decide +kernel
theorem dX1_firstOfStore_78 : decode cX1_firstOfStore 78 = .ok (.iinc 2 1, 3) := by decide +kernel
theorem dX1_firstOfStore_81 : decode cX1_firstOfStore 81 = .ok (.goto (-77), 3) := by decide +kernel
theorem dX1_firstOfStore_84 : decode cX1_firstOfStore 84 = .ok (.iload_n 1, 1) := by decide +kernel
theorem dX1_firstOfStore_85 : decode cX1_firstOfStore 85 = .ok (.ireturn, 1) := by decide +kernel
theorem dX1_isMatched_0 : decode cX1_isMatched 0 = .ok (.aload_n 0, 1) := by decide +kernel
theorem dX1_isMatched_1 : decode cX1_isMatched 1 = .ok (.getfield 28, 3) := by decide +kernel
theorem dX1_isMatched_4 : decode cX1_isMatched 4 = .ok (.iload_n 1, 1) := by decide +kernel
theorem dX1_isMatched_5 : decode cX1_isMatched 5 = .ok (.iaload, 1) := by decide +kernel
theorem dX1_isMatched_6 : decode cX1_isMatched 6 = .ok (.iconst 1, 1) := by decide +kernel
theorem dX1_isMatched_7 : decode cX1_isMatched 7 = .ok (.if_icmp .eq 18, 3) := by decide +kernel
theorem dX1_isMatched_10 : decode cX1_isMatched 10 = .ok (.aload_n 0, 1) := by decide +kernel
theorem dX1_isMatched_11 : decode cX1_isMatched 11 = .ok (.getfield 16, 3) := by decide +kernel
theorem dX1_isMatched_14 : decode cX1_isMatched 14 = .ok (.aload_n 0, 1) := by decide +kernel
theorem dX1_isMatched_15 : decode cX1_isMatched 15 = .ok (.getfield 25, 3) := by decide +kernel
theorem dX1_isMatched_18 : decode cX1_isMatched 18 = .ok (.iload_n 1, 1) := by decide +kernel
theorem dX1_isMatched_19 : decode cX1_isMatched 19 = .ok (.iaload, 1) := by decide +kernel
theorem dX1_isMatched_20 : decode cX1_isMatched 20 = .ok (.iaload, 1) := by decide +kernel
theorem dX1_isMatched_21 : decode cX1_isMatched 21 = .ok (.iconst 1, 1) := by decide +kernel
theorem dX1_isMatched_22 : decode cX1_isMatched 22 = .ok (.if_icmp .ne 7, 3) := by decide +kernel
theorem dX1_isMatched_25 : decode cX1_isMatched 25 = .ok (.iconst 1, 1) := by decide +kernel
theorem dX1_isMatched_26 : decode cX1_isMatched 26 = .ok (.goto 4, 3) := by decide +kernel
theorem dX1_isMatched_29 : decode cX1_isMatched 29 = .ok (.iconst 0, 1) := by decide +kernel
theorem dX1_isMatched_30 : decode cX1_isMatched 30 = .ok (.ireturn, 1) := by decide +kernel
set_option maxRecDepth 20000 in
theorem ggX1_departs_X1_isMatched : GoodIn wsX1_departs wsX1_isMatched := goodIn_r _ [8, 9, 10, 11, 20, 21, 22, 23, 24, 25, 26, 27, 28, 29, 30, 31, 32, 33] (by decide +kernel) (by decide +kernel)
set_option maxRecDepth 20000 in
theorem gX1_departs_X1_isMatched : GoodIn wsX1_departs (wsV RX1 68 RX1 yX1_isMatched wsX1_isMatched) := goodIn_app (goodIn_of _ (by decide +kernel)) ggX1_departs_X1_isMatched
set_option maxRecDepth 20000 in
theorem ggX1_departs_X1_comes : GoodIn wsX1_departs wsX1_comes := goodIn_r _ [15, 3, 16, 17, 18, 19, 20, 21, 22, 23, 24, 25, 26, 27, 28, 29, 30, 31, 32, 33] (by decide +kernel) (by decide +kernel)
set_option maxRecDepth 20000 in
theorem gX1_departs_X1_comes : GoodIn wsX1_departs (wsV RX1 64 RX1 yX1_comes wsX1_comes) := goodIn_app (goodIn_of _ (by decide +kernel)) ggX1_departs_X1_comes
theorem dX1_departs_0 : decode cX1_departs 0 = .ok (.iconst 0, 1) := by decide +kernel
theorem dX1_departs_1 : decode cX1_departs 1 = .ok (.istore_n 2, 1) := by decide +kernel
theorem dX1_departs_2 : decode cX1_departs 2 = .ok (.iload_n 2, 1) := by decide +kernel
theorem dX1_departs_3 : decode cX1_departs 3 = .ok (.aload_n 0, 1) := by decide +kernel
theorem dX1_departs_4 : decode cX1_departs 4 = .ok (.getfield 48, 3) := by decide +kernel
theorem dX1_departs_7 : decode cX1_departs 7 = .ok (.if_icmp .ge 83, 3) := by decide +kernel
theorem dX1_departs_10 : decode cX1_departs 10 = .ok (.aload_n 0, 1) := by decide +kernel
theorem dX1_departs_11 : decode cX1_departs 11 = .ok (.getfield 22, 3) := by decide +kernel
theorem dX1_departs_14 : decode cX1_departs 14 = .ok (.iload_n 2, 1) := by decide +kernel
theorem dX1_departs_15 : decode cX1_departs 15 = .ok (.iaload, 1) := by decide +kernel
theorem dX1_departs_16 : decode cX1_departs 16 = .ok (.iload_n 1, 1) := by decide +kernel
theorem dX1_departs_17 : decode cX1_departs 17 = .ok (.if_icmp .ne 12, 3) := by decide +kernel
theorem dX1_departs_20 : decode cX1_departs 20 = .ok (.aload_n 0, 1) := by decide +kernel
theorem dX1_departs_21 : decode cX1_departs 21 = .ok (.getfield 19, 3) := by decide +kernel
theorem dX1_departs_24 : decode cX1_departs 24 = .ok (.iload_n 2, 1) := by decide +kernel
theorem dX1_departs_25 : decode cX1_departs 25 = .ok (.iaload, 1) := by decide +kernel
theorem dX1_departs_26 : decode cX1_departs 26 = .ok (.goto 4, 3) := by decide +kernel
theorem dX1_departs_29 : decode cX1_departs 29 = .ok (.iconst 0, 1) := by decide +kernel
theorem dX1_departs_30 : decode cX1_departs 30 = .ok (.istore_n 3, 1) := by decide +kernel
theorem dX1_departs_31 : decode cX1_departs 31 = .ok (.iload_n 3, 1) := by decide +kernel
theorem dX1_departs_32 : decode cX1_departs 32 = .ok (.bipush 8, 2) := by decide +kernel
theorem dX1_departs_34 : decode cX1_departs 34 = .ok (.if_icmp .ne 26, 3) := by decide +kernel
theorem dX1_departs_37 : decode cX1_departs 37 = .ok (.aload_n 0, 1) := by decide +kernel
theorem dX1_departs_38 : decode cX1_departs 38 = .ok (.iload_n 2, 1) := by decide +kernel
theorem dX1_departs_39 : decode cX1_departs 39 = .ok (.aload_n 0, 1) := by decide +kernel
theorem dX1_departs_40 : decode cX1_departs 40 = .ok (.iload_n 2, 1) := by decide +kernel
theorem dX1_departs_41 : decode cX1_departs 41 = .ok (.invokevirtual 68, 3) := by decide +kernel
theorem dX1_departs_44 : decode cX1_departs 44 = .ok (.ifCond .eq 8, 3) := by decide +kernel
theorem dX1_departs_47 : decode cX1_departs 47 = .ok (.bipush 9, 2) := by decide +kernel
theorem dX1_departs_49 : decode cX1_departs 49 = .ok (.goto 5, 3) := by decide +kernel
theorem dX1_departs_52 : decode cX1_departs 52 = .ok (.bipush 10, 2) := by decide +kernel
theorem dX1_departs_54 : decode cX1_departs 54 = .ok (.invokevirtual 64, 3) := by decide +kernel
theorem dX1_departs_57 : decode cX1_departs 57 = .ok (.goto 27, 3) := by decide +kernel
theorem dX1_departs_60 : decode cX1_departs 60 = .ok (.iload_n 3, 1) := by decide +kernel
theorem dX1_departs_61 : decode cX1_departs 61 = .ok (.iconst 5, 1) := by decide +kernel
theorem dX1_departs_62 : decode cX1_departs 62 = .ok (.if_icmp .eq 15, 3) := by decide +kernel
theorem dX1_departs_65 : decode cX1_departs 65 = .ok (.iload_n 3, 1) := by decide +kernel
theorem dX1_departs_66 : decode cX1_departs 66 = .ok (.bipush 6, 2) := by decide +kernel
theorem dX1_departs_68 : decode cX1_departs 68 = .ok (.if_icmp .eq 9, 3) := by decide +kernel
theorem dX1_departs_71 : decode cX1_departs 71 = .ok (.iload_n 3, 1) := by decide +kernel
theorem dX1_departs_72 : decode cX1_departs 72 = .ok (.bipush 7, 2) := by decide +kernel
theorem dX1_departs_74 : decode cX1_departs 74 = .ok (.if_icmp .ne 10, 3) := by decide +kernel
theorem dX1_departs_77 : decode cX1_departs 77 = .ok (.aload_n 0, 1) := by decide +kernel
theorem dX1_departs_78 : decode cX1_departs 78 = .ok (.iload_n 2, 1) := by decide +kernel
theorem dX1_departs_79 : decode cX1_departs 79 = .ok (.bipush 11, 2) := by decide +kernel
theorem dX1_departs_81 : decode cX1_departs 81 = .ok (.invokevirtual 64, 3) := by decide +kernel
theorem dX1_departs_84 : decode cX1_departs 84 = .ok (.iinc 2 1, 3) := by decide +kernel
theorem dX1_departs_87 : decode cX1_departs 87 = .ok (.goto (-85), 3) := by decide +kernel
theorem dX1_departs_90 : decode cX1_departs 90 = .ok (.return_, 1) := by decide +kernel
set_option maxRecDepth 20000 in
theorem ggX1_minute_X1_firstOfStore : GoodIn wsX1_minute wsX1_firstOfStore := goodIn_r _ [10, 2, 3, 1, 5, 11, 12, 43, 44, 45, 46, 47, 48, 49, 50, 51, 52, 53, 54, 55, 56] (by decide +kernel) (by decide +kernel)
set_option maxRecDepth 20000 in
theorem gX1_minute_X1_firstOfStore : GoodIn wsX1_minute (wsV RX1 72 RX1 yX1_firstOfStore wsX1_firstOfStore) := goodIn_app (goodIn_of _ (by decide +kernel)) ggX1_minute_X1_firstOfStore
set_option maxRecDepth 20000 in
theorem ggX1_minute_X1_comes : GoodIn wsX1_minute wsX1_comes := goodIn_r _ [16, 3, 12, 17, 18, 1, 43, 44, 45, 46, 47, 48, 49, 50, 51, 52, 53, 54, 55, 56] (by decide +kernel) (by decide +kernel)
set_option maxRecDepth 20000 in
theorem gX1_minute_X1_comes : GoodIn wsX1_minute (wsV RX1 64 RX1 yX1_comes wsX1_comes) := goodIn_app (goodIn_of _ (by decide +kernel)) ggX1_minute_X1_comes
set_option maxRecDepth 20000 in
theorem ggX1_minute_X1_routes : GoodIn wsX1_minute wsX1_routes := goodIn_r _ [22, 3, 23, 24, 25, 9, 26, 11, 1, 5, 27, 28, 29, 30, 31, 2, 13, 14, 15, 16, 12, 17, 18, 43, 44, 45, 46, 47, 48, 49, 50, 51, 52, 53, 54, 55, 56] (by decide +kernel) (by decide +kernel)
set_option maxRecDepth 20000 in
theorem gX1_minute_X1_routes : GoodIn wsX1_minute (wsV RX1 76 RX1 yX1_routes wsX1_routes) := goodIn_app (goodIn_of _ (by decide +kernel)) ggX1_minute_X1_routes
set_option maxRecDepth 20000 in
theorem ggX1_minute_X1_departs : GoodIn wsX1_minute wsX1_departs := goodIn_r _ [35, 2, 11, 3, 36, 37, 38, 9, 39, 40, 41, 42, 13, 14, 15, 16, 12, 17, 18, 1, 43, 44, 45, 46, 47, 48, 49, 50, 51, 52, 53, 54, 55, 56] (by decide +kernel) (by decide +kernel)
set_option maxRecDepth 20000 in
theorem gX1_minute_X1_departs : GoodIn wsX1_minute (wsV RX1 79 RX1 yX1_departs wsX1_departs) := goodIn_app (goodIn_of _ (by decide +kernel)) ggX1_minute_X1_departs
theorem dX1_minute_0 : decode cX1_minute 0 = .ok (.aload_n 0, 1) := by decide +kernel
theorem dX1_minute_1 : decode cX1_minute 1 = .ok (.dup, 1) := by decide +kernel
theorem dX1_minute_2 : decode cX1_minute 2 = .ok (.getfield 54, 3) := by decide +kernel
theorem dX1_minute_5 : decode cX1_minute 5 = .ok (.iconst 1, 1) := by decide +kernel
theorem dX1_minute_6 : decode cX1_minute 6 = .ok (.iadd, 1) := by decide +kernel
theorem dX1_minute_7 : decode cX1_minute 7 = .ok (.putfield 54, 3) := by decide +kernel
theorem dX1_minute_10 : decode cX1_minute 10 = .ok (.aload_n 0, 1) := by decide +kernel
theorem dX1_minute_11 : decode cX1_minute 11 = .ok (.invokevirtual 72, 3) := by decide +kernel
theorem dX1_minute_14 : decode cX1_minute 14 = .ok (.istore_n 1, 1) := by decide +kernel
theorem dX1_minute_15 : decode cX1_minute 15 = .ok (.iconst 0, 1) := by decide +kernel
theorem dX1_minute_16 : decode cX1_minute 16 = .ok (.istore_n 2, 1) := by decide +kernel
theorem dX1_minute_17 : decode cX1_minute 17 = .ok (.iload_n 2, 1) := by decide +kernel
theorem dX1_minute_18 : decode cX1_minute 18 = .ok (.iconst 3, 1) := by decide +kernel
theorem dX1_minute_19 : decode cX1_minute 19 = .ok (.if_icmp .ge 25, 3) := by decide +kernel
theorem dX1_minute_22 : decode cX1_minute 22 = .ok (.iload_n 1, 1) := by decide +kernel
theorem dX1_minute_23 : decode cX1_minute 23 = .ok (.ifCond .lt 21, 3) := by decide +kernel
theorem dX1_minute_26 : decode cX1_minute 26 = .ok (.aload_n 0, 1) := by decide +kernel
theorem dX1_minute_27 : decode cX1_minute 27 = .ok (.iload_n 1, 1) := by decide +kernel
theorem dX1_minute_28 : decode cX1_minute 28 = .ok (.bipush 7, 2) := by decide +kernel
theorem dX1_minute_30 : decode cX1_minute 30 = .ok (.invokevirtual 64, 3) := by decide +kernel
theorem dX1_minute_33 : decode cX1_minute 33 = .ok (.aload_n 0, 1) := by decide +kernel
theorem dX1_minute_34 : decode cX1_minute 34 = .ok (.invokevirtual 72, 3) := by decide +kernel
theorem dX1_minute_37 : decode cX1_minute 37 = .ok (.istore_n 1, 1) := by decide +kernel
theorem dX1_minute_38 : decode cX1_minute 38 = .ok (.iinc 2 1, 3) := by decide +kernel
theorem dX1_minute_41 : decode cX1_minute 41 = .ok (.goto (-24), 3) := by decide +kernel
theorem dX1_minute_44 : decode cX1_minute 44 = .ok (.iconst 0, 1) := by decide +kernel
theorem dX1_minute_45 : decode cX1_minute 45 = .ok (.istore_n 1, 1) := by decide +kernel
theorem dX1_minute_46 : decode cX1_minute 46 = .ok (.iload_n 1, 1) := by decide +kernel
theorem dX1_minute_47 : decode cX1_minute 47 = .ok (.aload_n 0, 1) := by decide +kernel
theorem dX1_minute_48 : decode cX1_minute 48 = .ok (.getfield 48, 3) := by decide +kernel
theorem dX1_minute_51 : decode cX1_minute 51 = .ok (.if_icmp .ge 26, 3) := by decide +kernel
theorem dX1_minute_54 : decode cX1_minute 54 = .ok (.aload_n 0, 1) := by decide +kernel
theorem dX1_minute_55 : decode cX1_minute 55 = .ok (.getfield 19, 3) := by decide +kernel
theorem dX1_minute_58 : decode cX1_minute 58 = .ok (.iload_n 1, 1) := by decide +kernel
theorem dX1_minute_59 : decode cX1_minute 59 = .ok (.iaload, 1) := by decide +kernel
theorem dX1_minute_60 : decode cX1_minute 60 = .ok (.bipush 6, 2) := by decide +kernel
theorem dX1_minute_62 : decode cX1_minute 62 = .ok (.if_icmp .ne 9, 3) := by decide +kernel
theorem dX1_minute_65 : decode cX1_minute 65 = .ok (.aload_n 0, 1) := by decide +kernel
theorem dX1_minute_66 : decode cX1_minute 66 = .ok (.iload_n 1, 1) := by decide +kernel
theorem dX1_minute_67 : decode cX1_minute 67 = .ok (.invokevirtual 76, 3) := by decide +kernel
theorem dX1_minute_70 : decode cX1_minute 70 = .ok (.pop, 1) := by decide +kernel
theorem dX1_minute_71 : decode cX1_minute 71 = .ok (.iinc 1 1, 3) := by decide +kernel
theorem dX1_minute_74 : decode cX1_minute 74 = .ok (.goto (-28), 3) := by decide +kernel
theorem dX1_minute_77 : decode cX1_minute 77 = .ok (.iconst 0, 1) := by decide +kernel
theorem dX1_minute_78 : decode cX1_minute 78 = .ok (.istore_n 2, 1) := by decide +kernel
theorem dX1_minute_79 : decode cX1_minute 79 = .ok (.iload_n 2, 1) := by decide +kernel
theorem dX1_minute_80 : decode cX1_minute 80 = .ok (.aload_n 0, 1) := by decide +kernel
theorem dX1_minute_81 : decode cX1_minute 81 = .ok (.getfield 41, 3) := by decide +kernel
theorem dX1_minute_84 : decode cX1_minute 84 = .ok (.if_icmp .ge 27, 3) := by decide +kernel
theorem dX1_minute_87 : decode cX1_minute 87 = .ok (.aload_n 0, 1) := by decide +kernel
theorem dX1_minute_88 : decode cX1_minute 88 = .ok (.getfield 7, 3) := by decide +kernel
theorem dX1_minute_91 : decode cX1_minute 91 = .ok (.iload_n 2, 1) := by decide +kernel
theorem dX1_minute_92 : decode cX1_minute 92 = .ok (.iaload, 1) := by decide +kernel
theorem dX1_minute_93 : decode cX1_minute 93 = .ok (.aload_n 0, 1) := by decide +kernel
theorem dX1_minute_94 : decode cX1_minute 94 = .ok (.getfield 54, 3) := by decide +kernel
theorem dX1_minute_97 : decode cX1_minute 97 = .ok (.if_icmp .ne 8, 3) := by decide +kernel
theorem dX1_minute_100 : decode cX1_minute 100 = .ok (.aload_n 0, 1) := by decide +kernel
theorem dX1_minute_101 : decode cX1_minute 101 = .ok (.iload_n 2, 1) := by decide +kernel
theorem dX1_minute_102 : decode cX1_minute 102 = .ok (.invokevirtual 79, 3) := by decide +kernel
theorem dX1_minute_105 : decode cX1_minute 105 = .ok (.iinc 2 1, 3) := by decide +kernel
theorem dX1_minute_108 : decode cX1_minute 108 = .ok (.goto (-29), 3) := by decide +kernel
theorem dX1_minute_111 : decode cX1_minute 111 = .ok (.return_, 1) := by decide +kernel
set_option maxRecDepth 20000 in
theorem ggX1_addFlight_X1_in : GoodIn wsX1_addFlight wsX1_in := goodIn_r _ [9] (by decide +kernel) (by decide +kernel)
set_option maxRecDepth 20000 in
theorem gX1_addFlight_X1_in : GoodIn wsX1_addFlight (va_wsS RX1 44 yX1_in wsX1_in) := goodIn_app (goodIn_of _ (by decide +kernel)) ggX1_addFlight_X1_in
set_option maxRecDepth 20000 in
theorem ggX1_addFlight_X1_fails : GoodIn wsX1_addFlight wsX1_fails := goodIn_r _ [13, 1, 14, 15, 16, 17, 18, 19, 20, 21, 22, 23, 24, 25, 26, 27] (by decide +kernel) (by decide +kernel)
set_option maxRecDepth 20000 in
theorem gX1_addFlight_X1_fails : GoodIn wsX1_addFlight (wsV RX1 83 RX1 yX1_fails wsX1_fails) := goodIn_app (goodIn_of _ (by decide +kernel)) ggX1_addFlight_X1_fails
theorem dX1_addFlight_0 : decode cX1_addFlight 0 = .ok (.aload_n 0, 1) := by decide +kernel
theorem dX1_addFlight_1 : decode cX1_addFlight 1 = .ok (.iconst 0, 1) := by decide +kernel
theorem dX1_addFlight_2 : decode cX1_addFlight 2 = .ok (.putfield 37, 3) := by decide +kernel
theorem dX1_addFlight_5 : decode cX1_addFlight 5 = .ok (.iload_n 1, 1) := by decide +kernel
theorem dX1_addFlight_6 : decode cX1_addFlight 6 = .ok (.iconst 1, 1) := by decide +kernel
theorem dX1_addFlight_7 : decode cX1_addFlight 7 = .ok (.sipush 1000, 3) := by decide +kernel
theorem dX1_addFlight_10 : decode cX1_addFlight 10 = .ok (.invokestatic 44, 3) := by decide +kernel
theorem dX1_addFlight_13 : decode cX1_addFlight 13 = .ok (.ifCond .ne 9, 3) := by decide +kernel
theorem dX1_addFlight_16 : decode cX1_addFlight 16 = .ok (.aload_n 0, 1) := by decide +kernel
theorem dX1_addFlight_17 : decode cX1_addFlight 17 = .ok (.iconst 1, 1) := by decide +kernel
theorem dX1_addFlight_18 : decode cX1_addFlight 18 = .ok (.invokevirtual 83, 3) := by decide +kernel
theorem dX1_addFlight_21 : decode cX1_addFlight 21 = .ok (.ireturn, 1) := by decide +kernel
theorem dX1_addFlight_22 : decode cX1_addFlight 22 = .ok (.aload_n 0, 1) := by decide +kernel
theorem dX1_addFlight_23 : decode cX1_addFlight 23 = .ok (.getfield 41, 3) := by decide +kernel
theorem dX1_addFlight_26 : decode cX1_addFlight 26 = .ok (.bipush 10, 2) := by decide +kernel
theorem dX1_addFlight_28 : decode cX1_addFlight 28 = .ok (.if_icmp .ne 9, 3) := by decide +kernel
theorem dX1_addFlight_31 : decode cX1_addFlight 31 = .ok (.aload_n 0, 1) := by decide +kernel
theorem dX1_addFlight_32 : decode cX1_addFlight 32 = .ok (.iconst 2, 1) := by decide +kernel
theorem dX1_addFlight_33 : decode cX1_addFlight 33 = .ok (.invokevirtual 83, 3) := by decide +kernel
theorem dX1_addFlight_36 : decode cX1_addFlight 36 = .ok (.ireturn, 1) := by decide +kernel
theorem dX1_addFlight_37 : decode cX1_addFlight 37 = .ok (.aload_n 0, 1) := by decide +kernel
theorem dX1_addFlight_38 : decode cX1_addFlight 38 = .ok (.getfield 7, 3) := by decide +kernel
theorem dX1_addFlight_41 : decode cX1_addFlight 41 = .ok (.aload_n 0, 1) := by decide +kernel
theorem dX1_addFlight_42 : decode cX1_addFlight 42 = .ok (.getfield 41, 3) := by decide +kernel
theorem dX1_addFlight_45 : decode cX1_addFlight 45 = .ok (.aload_n 0, 1) := by decide +kernel
theorem dX1_addFlight_46 : decode cX1_addFlight 46 = .ok (.getfield 54, 3) := by decide +kernel
theorem dX1_addFlight_49 : decode cX1_addFlight 49 = .ok (.iload_n 1, 1) := by decide +kernel
theorem dX1_addFlight_50 : decode cX1_addFlight 50 = .ok (.iadd, 1) := by decide +kernel
theorem dX1_addFlight_51 : decode cX1_addFlight 51 = .ok (.iastore, 1) := by decide +kernel
theorem dX1_addFlight_52 : decode cX1_addFlight 52 = .ok (.iconst 0, 1) := by decide +kernel
theorem dX1_addFlight_53 : decode cX1_addFlight 53 = .ok (.istore_n 2, 1) := by decide +kernel
theorem dX1_addFlight_54 : decode cX1_addFlight 54 = .ok (.iconst 0, 1) := by decide +kernel
theorem dX1_addFlight_55 : decode cX1_addFlight 55 = .ok (.istore_n 3, 1) := by decide +kernel
theorem dX1_addFlight_56 : decode cX1_addFlight 56 = .ok (.iload_n 3, 1) := by decide +kernel
