theorem dX0_untilClose_12 : decode cX0_untilClose 12 = .ok (.getfield 66, 3) := by decide +kernel
theorem dX0_untilClose_15 : decode cX0_untilClose 15 = .ok (.isub, 1) := by decide +kernel
theorem dX0_untilClose_16 : decode cX0_untilClose 16 = .ok (.invokestatic 146, 3) := by decide +kernel
theorem dX0_untilClose_19 : decode cX0_untilClose 19 = .ok (.ireturn, 1) := by decide +kernel
theorem dX0_scans_0 : decode cX0_scans 0 = .ok (.aload_n 0, 1) := by decide +kernel
theorem dX0_scans_1 : decode cX0_scans 1 = .ok (.getfield 79, 3) := by decide +kernel
theorem dX0_scans_4 : decode cX0_scans 4 = .ok (.ireturn, 1) := by decide +kernel
set_option maxRecDepth 20000 in
theorem ggX0_bagOfScan_X0_requireScan : GoodIn wsX0_bagOfScan wsX0_requireScan := goodIn_ca (goodIn_r _ [6, 7, 8, 9, 10, 11, 12, 13, 14, 15, 16, 17, 18, 19, 20, 21, 22, 23, 24, 25, 26] (by decide +kernel) (by decide +kernel)) (goodIn_sub (fun _ h => List.mem_cons_of_mem _ (List.mem_append_right _ h)) (by decide +kernel))
set_option maxRecDepth 20000 in
theorem gX0_bagOfScan_X0_requireScan : GoodIn wsX0_bagOfScan (wsV RX0 151 RX0 yX0_requireScan wsX0_requireScan) := goodIn_app (goodIn_of _ (by decide +kernel)) ggX0_bagOfScan_X0_requireScan
theorem dX0_bagOfScan_0 : decode cX0_bagOfScan 0 = .ok (.aload_n 0, 1) := by decide +kernel
theorem dX0_bagOfScan_1 : decode cX0_bagOfScan 1 = .ok (.iload_n 1, 1) := by decide +kernel
theorem dX0_bagOfScan_2 : decode cX0_bagOfScan 2 = .ok (.invokevirtual 151, 3) := by decide +kernel
theorem dX0_bagOfScan_5 : decode cX0_bagOfScan 5 = .ok (.aload_n 0, 1) := by decide +kernel
theorem dX0_bagOfScan_6 : decode cX0_bagOfScan 6 = .ok (.getfield 41, 3) := by decide +kernel
theorem dX0_bagOfScan_9 : decode cX0_bagOfScan 9 = .ok (.iload_n 1, 1) := by decide +kernel
theorem dX0_bagOfScan_10 : decode cX0_bagOfScan 10 = .ok (.iaload, 1) := by decide +kernel
theorem dX0_bagOfScan_11 : decode cX0_bagOfScan 11 = .ok (.ireturn, 1) := by decide +kernel
set_option maxRecDepth 20000 in
theorem ggX0_placeOfScan_X0_requireScan : GoodIn wsX0_placeOfScan wsX0_requireScan := goodIn_ca (goodIn_r _ [6, 7, 8, 9, 10, 11, 12, 13, 14, 15, 16, 17, 18, 19, 20, 21, 22, 23, 24, 25, 26] (by decide +kernel) (by decide +kernel)) (goodIn_sub (fun _ h => List.mem_cons_of_mem _ (List.mem_append_right _ h)) (by decide +kernel))
set_option maxRecDepth 20000 in
theorem gX0_placeOfScan_X0_requireScan : GoodIn wsX0_placeOfScan (wsV RX0 151 RX0 yX0_requireScan wsX0_requireScan) := goodIn_app (goodIn_of _ (by decide +kernel)) ggX0_placeOfScan_X0_requireScan
theorem dX0_placeOfScan_0 : decode cX0_placeOfScan 0 = .ok (.aload_n 0, 1) := by decide +kernel
theorem dX0_placeOfScan_1 : decode cX0_placeOfScan 1 = .ok (.iload_n 1, 1) := by decide +kernel
theorem dX0_placeOfScan_2 : decode cX0_placeOfScan 2 = .ok (.invokevirtual 151, 3) := by decide +kernel
theorem dX0_placeOfScan_5 : decode cX0_placeOfScan 5 = .ok (.aload_n 0, 1) := by decide +kernel
theorem dX0_placeOfScan_6 : decode cX0_placeOfScan 6 = .ok (.getfield 44, 3) := by decide +kernel
theorem dX0_placeOfScan_9 : decode cX0_placeOfScan 9 = .ok (.iload_n 1, 1) := by decide +kernel
theorem dX0_placeOfScan_10 : decode cX0_placeOfScan 10 = .ok (.iaload, 1) := by decide +kernel
theorem dX0_placeOfScan_11 : decode cX0_placeOfScan 11 = .ok (.ireturn, 1) := by decide +kernel
theorem dX0_requireFlight_0 : decode cX0_requireFlight 0 = .ok (.iload_n 1, 1) := by decide +kernel
theorem dX0_requireFlight_1 : decode cX0_requireFlight 1 = .ok (.ifCond .lt 11, 3) := by decide +kernel
theorem dX0_requireFlight_4 : decode cX0_requireFlight 4 = .ok (.iload_n 1, 1) := by decide +kernel
theorem dX0_requireFlight_5 : decode cX0_requireFlight 5 = .ok (.aload_n 0, 1) := by decide +kernel
theorem dX0_requireFlight_6 : decode cX0_requireFlight 6 = .ok (.getfield 57, 3) := by decide +kernel
theorem dX0_requireFlight_9 : decode cX0_requireFlight 9 = .ok (.if_icmp .lt 13, 3) := by decide +kernel
theorem dX0_requireFlight_12 : decode cX0_requireFlight 12 = .ok (.new 130, 3) := by decide +kernel
theorem dX0_requireFlight_15 : decode cX0_requireFlight 15 = .ok (.dup, 1) := by decide +kernel
theorem dX0_requireFlight_16 : decode cX0_requireFlight 16 = .ok (.ldc 154, 2) := by decide +kernel
theorem dX0_requireFlight_18 : decode cX0_requireFlight 18 = .ok (.invokespecial 134, 3) := by decide +kernel
theorem dX0_requireFlight_21 : decode cX0_requireFlight 21 = .ok (.athrow, 1) := by decide +kernel
theorem dX0_requireFlight_22 : decode cX0_requireFlight 22 = .ok (.return_, 1) := by decide +kernel
theorem dX0_requireRider_0 : decode cX0_requireRider 0 = .ok (.iload_n 1, 1) := by decide +kernel
theorem dX0_requireRider_1 : decode cX0_requireRider 1 = .ok (.ifCond .lt 9, 3) := by decide +kernel
theorem dX0_requireRider_4 : decode cX0_requireRider 4 = .ok (.iload_n 1, 1) := by decide +kernel
theorem dX0_requireRider_5 : decode cX0_requireRider 5 = .ok (.bipush 40, 2) := by decide +kernel
theorem dX0_requireRider_7 : decode cX0_requireRider 7 = .ok (.if_icmp .lt 13, 3) := by decide +kernel
theorem dX0_requireRider_10 : decode cX0_requireRider 10 = .ok (.new 130, 3) := by decide +kernel
theorem dX0_requireRider_13 : decode cX0_requireRider 13 = .ok (.dup, 1) := by decide +kernel
theorem dX0_requireRider_14 : decode cX0_requireRider 14 = .ok (.ldc 156, 2) := by decide +kernel
theorem dX0_requireRider_16 : decode cX0_requireRider 16 = .ok (.invokespecial 134, 3) := by decide +kernel
theorem dX0_requireRider_19 : decode cX0_requireRider 19 = .ok (.athrow, 1) := by decide +kernel
theorem dX0_requireRider_20 : decode cX0_requireRider 20 = .ok (.return_, 1) := by decide +kernel
theorem dX0_requireBag_0 : decode cX0_requireBag 0 = .ok (.iload_n 1, 1) := by decide +kernel
theorem dX0_requireBag_1 : decode cX0_requireBag 1 = .ok (.ifCond .lt 11, 3) := by decide +kernel
theorem dX0_requireBag_4 : decode cX0_requireBag 4 = .ok (.iload_n 1, 1) := by decide +kernel
theorem dX0_requireBag_5 : decode cX0_requireBag 5 = .ok (.aload_n 0, 1) := by decide +kernel
theorem dX0_requireBag_6 : decode cX0_requireBag 6 = .ok (.getfield 123, 3) := by decide +kernel
theorem dX0_requireBag_9 : decode cX0_requireBag 9 = .ok (.if_icmp .lt 13, 3) := by decide +kernel
theorem dX0_requireBag_12 : decode cX0_requireBag 12 = .ok (.new 130, 3) := by decide +kernel
theorem dX0_requireBag_15 : decode cX0_requireBag 15 = .ok (.dup, 1) := by decide +kernel
theorem dX0_requireBag_16 : decode cX0_requireBag 16 = .ok (.ldc 158, 2) := by decide +kernel
theorem dX0_requireBag_18 : decode cX0_requireBag 18 = .ok (.invokespecial 134, 3) := by decide +kernel
theorem dX0_requireBag_21 : decode cX0_requireBag 21 = .ok (.athrow, 1) := by decide +kernel
theorem dX0_requireBag_22 : decode cX0_requireBag 22 = .ok (.return_, 1) := by decide +kernel
theorem dX0_requireScan_0 : decode cX0_requireScan 0 = .ok (.iload_n 1, 1) := by decide +kernel
theorem dX0_requireScan_1 : decode cX0_requireScan 1 = .ok (.ifCond .lt 11, 3) := by decide +kernel
theorem dX0_requireScan_4 : decode cX0_requireScan 4 = .ok (.iload_n 1, 1) := by decide +kernel
theorem dX0_requireScan_5 : decode cX0_requireScan 5 = .ok (.aload_n 0, 1) := by decide +kernel
theorem dX0_requireScan_6 : decode cX0_requireScan 6 = .ok (.getfield 79, 3) := by decide +kernel
theorem dX0_requireScan_9 : decode cX0_requireScan 9 = .ok (.if_icmp .lt 13, 3) := by decide +kernel
theorem dX0_requireScan_12 : decode cX0_requireScan 12 = .ok (.new 130, 3) := by decide +kernel
theorem dX0_requireScan_15 : decode cX0_requireScan 15 = .ok (.dup, 1) := by decide +kernel
theorem dX0_requireScan_16 : decode cX0_requireScan 16 = .ok (.ldc 160, 2) := by decide +kernel
theorem dX0_requireScan_18 : decode cX0_requireScan 18 = .ok (.invokespecial 134, 3) := by decide +kernel
theorem dX0_requireScan_21 : decode cX0_requireScan 21 = .ok (.athrow, 1) := by decide +kernel
theorem dX0_requireScan_22 : decode cX0_requireScan 22 = .ok (.return_, 1) := by decide +kernel
theorem dX0_requirePlace_0 : decode cX0_requirePlace 0 = .ok (.aload_n 0, 1) := by decide +kernel
theorem dX0_requirePlace_1 : decode cX0_requirePlace 1 = .ok (.getfield 29, 3) := by decide +kernel
theorem dX0_requirePlace_4 : decode cX0_requirePlace 4 = .ok (.iload_n 1, 1) := by decide +kernel
theorem dX0_requirePlace_5 : decode cX0_requirePlace 5 = .ok (.iaload, 1) := by decide +kernel
theorem dX0_requirePlace_6 : decode cX0_requirePlace 6 = .ok (.iload_n 2, 1) := by decide +kernel
theorem dX0_requirePlace_7 : decode cX0_requirePlace 7 = .ok (.if_icmp .eq 13, 3) := by decide +kernel
theorem dX0_requirePlace_10 : decode cX0_requirePlace 10 = .ok (.new 61, 3) := by decide +kernel
theorem dX0_requirePlace_13 : decode cX0_requirePlace 13 = .ok (.dup, 1) := by decide +kernel
theorem dX0_requirePlace_14 : decode cX0_requirePlace 14 = .ok (.ldc 162, 2) := by decide +kernel
theorem dX0_requirePlace_16 : decode cX0_requirePlace 16 = .ok (.invokespecial 65, 3) := by decide +kernel
theorem dX0_requirePlace_19 : decode cX0_requirePlace 19 = .ok (.athrow, 1) := by decide +kernel
theorem dX0_requirePlace_20 : decode cX0_requirePlace 20 = .ok (.return_, 1) := by decide +kernel
theorem dX0_requireNotDeparted_0 : decode cX0_requireNotDeparted 0 = .ok (.aload_n 0, 1) := by decide +kernel
theorem dX0_requireNotDeparted_1 : decode cX0_requireNotDeparted 1 = .ok (.getfield 66, 3) := by decide +kernel
theorem dX0_requireNotDeparted_4 : decode cX0_requireNotDeparted 4 = .ok (.aload_n 0, 1) := by decide +kernel
theorem dX0_requireNotDeparted_5 : decode cX0_requireNotDeparted 5 = .ok (.getfield 9, 3) := by decide +kernel
theorem dX0_requireNotDeparted_8 : decode cX0_requireNotDeparted 8 = .ok (.iload_n 1, 1) := by decide +kernel
theorem dX0_requireNotDeparted_9 : decode cX0_requireNotDeparted 9 = .ok (.iaload, 1) := by decide +kernel
theorem dX0_requireNotDeparted_10 : decode cX0_requireNotDeparted 10 = .ok (.if_icmp .lt 13, 3) := by decide +kernel
theorem dX0_requireNotDeparted_13 : decode cX0_requireNotDeparted 13 = .ok (.new 61, 3) := by decide +kernel
theorem dX0_requireNotDeparted_16 : decode cX0_requireNotDeparted 16 = .ok (.dup, 1) := by decide +kernel
theorem dX0_requireNotDeparted_17 : decode cX0_requireNotDeparted 17 = .ok (.ldc 164, 2) := by decide +kernel
theorem dX0_requireNotDeparted_19 : decode cX0_requireNotDeparted 19 = .ok (.invokespecial 65, 3) := by decide +kernel
theorem dX0_requireNotDeparted_22 : decode cX0_requireNotDeparted 22 = .ok (.athrow, 1) := by decide +kernel
theorem dX0_requireNotDeparted_23 : decode cX0_requireNotDeparted 23 = .ok (.return_, 1) := by decide +kernel
set_option maxRecDepth 20000 in
theorem ggX0_lowestFreeLateral_X0_isFree : GoodIn wsX0_lowestFreeLateral wsX0_isFree := goodIn_r _ [5, 6, 7, 8, 9, 10, 11, 12, 13, 14, 15, 16, 17, 18, 19, 20, 21, 22, 23, 24, 25, 26, 27, 28, 29] (by decide +kernel) (by decide +kernel)
set_option maxRecDepth 20000 in
theorem gX0_lowestFreeLateral_X0_isFree : GoodIn wsX0_lowestFreeLateral (wsV RX0 166 RX0 yX0_isFree wsX0_isFree) := goodIn_app (goodIn_of _ (by decide +kernel)) ggX0_lowestFreeLateral_X0_isFree
theorem dX0_lowestFreeLateral_0 : decode cX0_lowestFreeLateral 0 = .ok (.iconst 0, 1) := by decide +kernel
theorem dX0_lowestFreeLateral_1 : decode cX0_lowestFreeLateral 1 = .ok (.istore_n 2, 1) := by decide +kernel
theorem dX0_lowestFreeLateral_2 : decode cX0_lowestFreeLateral 2 = .ok (.iload_n 2, 1) := by decide +kernel
theorem dX0_lowestFreeLateral_3 : decode cX0_lowestFreeLateral 3 = .ok (.iconst 4, 1) := by decide +kernel
theorem dX0_lowestFreeLateral_4 : decode cX0_lowestFreeLateral 4 = .ok (.if_icmp .ge 20, 3) := by decide +kernel
theorem dX0_lowestFreeLateral_7 : decode cX0_lowestFreeLateral 7 = .ok (.aload_n 0, 1) := by decide +kernel
theorem dX0_lowestFreeLateral_8 : decode cX0_lowestFreeLateral 8 = .ok (.iload_n 2, 1) := by decide +kernel
theorem dX0_lowestFreeLateral_9 : decode cX0_lowestFreeLateral 9 = .ok (.iload_n 1, 1) := by decide +kernel
theorem dX0_lowestFreeLateral_10 : decode cX0_lowestFreeLateral 10 = .ok (.invokevirtual 166, 3) := by decide +kernel
theorem dX0_lowestFreeLateral_13 : decode cX0_lowestFreeLateral 13 = .ok (.ifCond .eq 5, 3) := by decide +kernel
theorem dX0_lowestFreeLateral_16 : decode cX0_lowestFreeLateral 16 = .ok (.iload_n 2, 1) := by decide +kernel
theorem dX0_lowestFreeLateral_17 : decode cX0_lowestFreeLateral 17 = .ok (.ireturn, 1) := by decide +kernel
theorem dX0_lowestFreeLateral_18 : decode cX0_lowestFreeLateral 18 = .ok (.iinc 2 1, 3) := by decide +kernel
theorem dX0_lowestFreeLateral_21 : decode cX0_lowestFreeLateral 21 = .ok (.goto (-19), 3) := by decide +kernel
theorem dX0_lowestFreeLateral_24 : decode cX0_lowestFreeLateral 24 = .ok (.iconst (-1), 1) := by decide +kernel
theorem dX0_lowestFreeLateral_25 : decode cX0_lowestFreeLateral 25 = .ok (.ireturn, 1) := by decide +kernel
theorem dX0_isFree_0 : decode cX0_isFree 0 = .ok (.iconst 0, 1) := by decide +kernel
theorem dX0_isFree_1 : decode cX0_isFree 1 = .ok (.istore_n 3, 1) := by decide +kernel
theorem dX0_isFree_2 : decode cX0_isFree 2 = .ok (.iload_n 3, 1) := by decide +kernel
theorem dX0_isFree_3 : decode cX0_isFree 3 = .ok (.aload_n 0, 1) := by decide +kernel
theorem dX0_isFree_4 : decode cX0_isFree 4 = .ok (.getfield 57, 3) := by decide +kernel
theorem dX0_isFree_7 : decode cX0_isFree 7 = .ok (.if_icmp .ge 37, 3) := by decide +kernel
theorem dX0_isFree_10 : decode cX0_isFree 10 = .ok (.aload_n 0, 1) := by decide +kernel
theorem dX0_isFree_11 : decode cX0_isFree 11 = .ok (.getfield 13, 3) := by decide +kernel
theorem dX0_isFree_14 : decode cX0_isFree 14 = .ok (.iload_n 3, 1) := by decide +kernel
theorem dX0_isFree_15 : decode cX0_isFree 15 = .ok (.iaload, 1) := by decide +kernel
theorem dX0_isFree_16 : decode cX0_isFree 16 = .ok (.iload_n 1, 1) := by decide +kernel
theorem dX0_isFree_17 : decode cX0_isFree 17 = .ok (.if_icmp .ne 21, 3) := by decide +kernel
theorem dX0_isFree_20 : decode cX0_isFree 20 = .ok (.aload_n 0, 1) := by decide +kernel
theorem dX0_isFree_21 : decode cX0_isFree 21 = .ok (.getfield 9, 3) := by decide +kernel
theorem dX0_isFree_24 : decode cX0_isFree 24 = .ok (.iload_n 3, 1) := by decide +kernel
theorem dX0_isFree_25 : decode cX0_isFree 25 = .ok (.iaload, 1) := by decide +kernel
theorem dX0_isFree_26 : decode cX0_isFree 26 = .ok (.iload_n 2, 1) := by decide +kernel
theorem dX0_isFree_27 : decode cX0_isFree 27 = .ok (.isub, 1) := by decide +kernel
theorem dX0_isFree_28 : decode cX0_isFree 28 = .ok (.invokestatic 169, 3) := by decide +kernel
theorem dX0_isFree_31 : decode cX0_isFree 31 = .ok (.bipush 60, 2) := by decide +kernel
theorem dX0_isFree_33 : decode cX0_isFree 33 = .ok (.if_icmp .ge 5, 3) := by decide +kernel
theorem dX0_isFree_36 : decode cX0_isFree 36 = .ok (.iconst 0, 1) := by decide +kernel
theorem dX0_isFree_37 : decode cX0_isFree 37 = .ok (.ireturn, 1) := by decide +kernel
theorem dX0_isFree_38 : decode cX0_isFree 38 = .ok (.iinc 3 1, 3) := by decide +kernel
theorem dX0_isFree_41 : decode cX0_isFree 41 = .ok (.goto (-39), 3) := by decide +kernel
theorem dX0_isFree_44 : decode cX0_isFree 44 = .ok (.iconst 1, 1) := by decide +kernel
theorem dX0_isFree_45 : decode cX0_isFree 45 = .ok (.ireturn, 1) := by decide +kernel
theorem dX0_closing_0 : decode cX0_closing 0 = .ok (.aload_n 0, 1) := by decide +kernel
theorem dX0_closing_1 : decode cX0_closing 1 = .ok (.getfield 9, 3) := by decide +kernel
theorem dX0_closing_4 : decode cX0_closing 4 = .ok (.iload_n 1, 1) := by decide +kernel
theorem dX0_closing_5 : decode cX0_closing 5 = .ok (.iaload, 1) := by decide +kernel
theorem dX0_closing_6 : decode cX0_closing 6 = .ok (.bipush 10, 2) := by decide +kernel
theorem dX0_closing_8 : decode cX0_closing 8 = .ok (.isub, 1) := by decide +kernel
theorem dX0_closing_9 : decode cX0_closing 9 = .ok (.ireturn, 1) := by decide +kernel
set_option maxRecDepth 20000 in
theorem ggX0_hasClosed_X0_closing : GoodIn wsX0_hasClosed wsX0_closing := goodIn_r _ [6, 7, 8, 9, 10, 11, 12, 13, 14, 15, 16, 17, 18, 19, 20, 21, 22, 23, 24] (by decide +kernel) (by decide +kernel)
set_option maxRecDepth 20000 in
theorem gX0_hasClosed_X0_closing : GoodIn wsX0_hasClosed (wsV RX0 143 RX0 yX0_closing wsX0_closing) := goodIn_app (goodIn_of _ (by decide +kernel)) ggX0_hasClosed_X0_closing
theorem dX0_hasClosed_0 : decode cX0_hasClosed 0 = .ok (.aload_n 0, 1) := by decide +kernel
theorem dX0_hasClosed_1 : decode cX0_hasClosed 1 = .ok (.getfield 66, 3) := by decide +kernel
theorem dX0_hasClosed_4 : decode cX0_hasClosed 4 = .ok (.aload_n 0, 1) := by decide +kernel
theorem dX0_hasClosed_5 : decode cX0_hasClosed 5 = .ok (.iload_n 1, 1) := by decide +kernel
theorem dX0_hasClosed_6 : decode cX0_hasClosed 6 = .ok (.invokevirtual 143, 3) := by decide +kernel
theorem dX0_hasClosed_9 : decode cX0_hasClosed 9 = .ok (.if_icmp .lt 7, 3) := by decide +kernel
theorem dX0_hasClosed_12 : decode cX0_hasClosed 12 = .ok (.iconst 1, 1) := by decide +kernel
theorem dX0_hasClosed_13 : decode cX0_hasClosed 13 = .ok (.goto 4, 3) := by decide +kernel
theorem dX0_hasClosed_16 : decode cX0_hasClosed 16 = .ok (.iconst 0, 1) := by decide +kernel
theorem dX0_hasClosed_17 : decode cX0_hasClosed 17 = .ok (.ireturn, 1) := by decide +kernel
theorem dX0_hasOpened_0 : decode cX0_hasOpened 0 = .ok (.aload_n 0, 1) := by decide +kernel
theorem dX0_hasOpened_1 : decode cX0_hasOpened 1 = .ok (.getfield 66, 3) := by decide +kernel
theorem dX0_hasOpened_4 : decode cX0_hasOpened 4 = .ok (.aload_n 0, 1) := by decide +kernel
theorem dX0_hasOpened_5 : decode cX0_hasOpened 5 = .ok (.getfield 9, 3) := by decide +kernel
theorem dX0_hasOpened_8 : decode cX0_hasOpened 8 = .ok (.iload_n 1, 1) := by decide +kernel
theorem dX0_hasOpened_9 : decode cX0_hasOpened 9 = .ok (.iaload, 1) := by decide +kernel
theorem dX0_hasOpened_10 : decode cX0_hasOpened 10 = .ok (.bipush 60, 2) := by decide +kernel
theorem dX0_hasOpened_12 : decode cX0_hasOpened 12 = .ok (.isub, 1) := by decide +kernel
theorem dX0_hasOpened_13 : decode cX0_hasOpened 13 = .ok (.if_icmp .lt 7, 3) := by decide +kernel
theorem dX0_hasOpened_16 : decode cX0_hasOpened 16 = .ok (.iconst 1, 1) := by decide +kernel
theorem dX0_hasOpened_17 : decode cX0_hasOpened 17 = .ok (.goto 4, 3) := by decide +kernel
theorem dX0_hasOpened_20 : decode cX0_hasOpened 20 = .ok (.iconst 0, 1) := by decide +kernel
theorem dX0_hasOpened_21 : decode cX0_hasOpened 21 = .ok (.ireturn, 1) := by decide +kernel
set_option maxRecDepth 20000 in
theorem ggX0_loadedBags_X0_isLoadedFor : GoodIn wsX0_loadedBags wsX0_isLoadedFor := goodIn_r _ [6, 7, 8, 9, 10, 11, 12, 13, 14, 15, 16, 17, 18, 19, 20, 21, 22, 23, 24, 25] (by decide +kernel) (by decide +kernel)
set_option maxRecDepth 20000 in
theorem gX0_loadedBags_X0_isLoadedFor : GoodIn wsX0_loadedBags (wsV RX0 135 RX0 yX0_isLoadedFor wsX0_isLoadedFor) := goodIn_app (goodIn_of _ (by decide +kernel)) ggX0_loadedBags_X0_isLoadedFor
theorem dX0_loadedBags_0 : decode cX0_loadedBags 0 = .ok (.iconst 0, 1) := by decide +kernel
theorem dX0_loadedBags_1 : decode cX0_loadedBags 1 = .ok (.istore_n 2, 1) := by decide +kernel
theorem dX0_loadedBags_2 : decode cX0_loadedBags 2 = .ok (.iconst 0, 1) := by decide +kernel
theorem dX0_loadedBags_3 : decode cX0_loadedBags 3 = .ok (.istore_n 3, 1) := by decide +kernel
theorem dX0_loadedBags_4 : decode cX0_loadedBags 4 = .ok (.iload_n 3, 1) := by decide +kernel
theorem dX0_loadedBags_5 : decode cX0_loadedBags 5 = .ok (.aload_n 0, 1) := by decide +kernel
theorem dX0_loadedBags_6 : decode cX0_loadedBags 6 = .ok (.getfield 123, 3) := by decide +kernel
theorem dX0_loadedBags_9 : decode cX0_loadedBags 9 = .ok (.if_icmp .ge 21, 3) := by decide +kernel
theorem dX0_loadedBags_12 : decode cX0_loadedBags 12 = .ok (.aload_n 0, 1) := by decide +kernel
theorem dX0_loadedBags_13 : decode cX0_loadedBags 13 = .ok (.iload_n 3, 1) := by decide +kernel
theorem dX0_loadedBags_14 : decode cX0_loadedBags 14 = .ok (.iload_n 1, 1) := by decide +kernel
theorem dX0_loadedBags_15 : decode cX0_loadedBags 15 = .ok (.invokevirtual 135, 3) := by decide +kernel
theorem dX0_loadedBags_18 : decode cX0_loadedBags 18 = .ok (.ifCond .eq 6, 3) := by decide +kernel
theorem dX0_loadedBags_21 : decode cX0_loadedBags 21 = .ok (.iinc 2 1, 3) := by decide +kernel
theorem dX0_loadedBags_24 : decode cX0_loadedBags 24 = .ok (.iinc 3 1, 3) := by decide +kernel
theorem dX0_loadedBags_27 : decode cX0_loadedBags 27 = .ok (.goto (-23), 3) := by decide +kernel
theorem dX0_loadedBags_30 : decode cX0_loadedBags 30 = .ok (.iload_n 2, 1) := by decide +kernel
theorem dX0_loadedBags_31 : decode cX0_loadedBags 31 = .ok (.ireturn, 1) := by decide +kernel
theorem dX0_isLoadedFor_0 : decode cX0_isLoadedFor 0 = .ok (.aload_n 0, 1) := by decide +kernel
theorem dX0_isLoadedFor_1 : decode cX0_isLoadedFor 1 = .ok (.getfield 29, 3) := by decide +kernel
theorem dX0_isLoadedFor_4 : decode cX0_isLoadedFor 4 = .ok (.iload_n 1, 1) := by decide +kernel
theorem dX0_isLoadedFor_5 : decode cX0_isLoadedFor 5 = .ok (.iaload, 1) := by decide +kernel
theorem dX0_isLoadedFor_6 : decode cX0_isLoadedFor 6 = .ok (.bipush 8, 2) := by decide +kernel
theorem dX0_isLoadedFor_8 : decode cX0_isLoadedFor 8 = .ok (.if_icmp .ne 17, 3) := by decide +kernel
theorem dX0_isLoadedFor_11 : decode cX0_isLoadedFor 11 = .ok (.aload_n 0, 1) := by decide +kernel
theorem dX0_isLoadedFor_12 : decode cX0_isLoadedFor 12 = .ok (.getfield 20, 3) := by decide +kernel
theorem dX0_isLoadedFor_15 : decode cX0_isLoadedFor 15 = .ok (.iload_n 1, 1) := by decide +kernel
theorem dX0_isLoadedFor_16 : decode cX0_isLoadedFor 16 = .ok (.iaload, 1) := by decide +kernel
theorem dX0_isLoadedFor_17 : decode cX0_isLoadedFor 17 = .ok (.iload_n 2, 1) := by decide +kernel
theorem dX0_isLoadedFor_18 : decode cX0_isLoadedFor 18 = .ok (.if_icmp .ne 7, 3) := by decide +kernel
theorem dX0_isLoadedFor_21 : decode cX0_isLoadedFor 21 = .ok (.iconst 1, 1) := by decide +kernel
theorem dX0_isLoadedFor_22 : decode cX0_isLoadedFor 22 = .ok (.goto 4, 3) := by decide +kernel
theorem dX0_isLoadedFor_25 : decode cX0_isLoadedFor 25 = .ok (.iconst 0, 1) := by decide +kernel
theorem dX0_isLoadedFor_26 : decode cX0_isLoadedFor 26 = .ok (.ireturn, 1) := by decide +kernel
theorem dX0_mayFly_0 : decode cX0_mayFly 0 = .ok (.aload_n 0, 1) := by decide +kernel
theorem dX0_mayFly_1 : decode cX0_mayFly 1 = .ok (.getfield 26, 3) := by decide +kernel
theorem dX0_mayFly_4 : decode cX0_mayFly 4 = .ok (.iload_n 1, 1) := by decide +kernel
theorem dX0_mayFly_5 : decode cX0_mayFly 5 = .ok (.baload, 1) := by decide +kernel
theorem dX0_mayFly_6 : decode cX0_mayFly 6 = .ok (.ifCond .ne 17, 3) := by decide +kernel
theorem dX0_mayFly_9 : decode cX0_mayFly 9 = .ok (.aload_n 0, 1) := by decide +kernel
theorem dX0_mayFly_10 : decode cX0_mayFly 10 = .ok (.getfield 16, 3) := by decide +kernel
theorem dX0_mayFly_13 : decode cX0_mayFly 13 = .ok (.aload_n 0, 1) := by decide +kernel
theorem dX0_mayFly_14 : decode cX0_mayFly 14 = .ok (.getfield 23, 3) := by decide +kernel
theorem dX0_mayFly_17 : decode cX0_mayFly 17 = .ok (.iload_n 1, 1) := by decide +kernel
theorem dX0_mayFly_18 : decode cX0_mayFly 18 = .ok (.iaload, 1) := by decide +kernel
theorem dX0_mayFly_19 : decode cX0_mayFly 19 = .ok (.baload, 1) := by decide +kernel
theorem dX0_mayFly_20 : decode cX0_mayFly 20 = .ok (.ifCond .eq 7, 3) := by decide +kernel
theorem dX0_mayFly_23 : decode cX0_mayFly 23 = .ok (.iconst 1, 1) := by decide +kernel
theorem dX0_mayFly_24 : decode cX0_mayFly 24 = .ok (.goto 4, 3) := by decide +kernel
theorem dX0_mayFly_27 : decode cX0_mayFly 27 = .ok (.iconst 0, 1) := by decide +kernel
theorem dX0_mayFly_28 : decode cX0_mayFly 28 = .ok (.ireturn, 1) := by decide +kernel
theorem dX0_decisionTime_0 : decode cX0_decisionTime 0 = .ok (.iload_n 0, 1) := by decide +kernel
theorem dX0_decisionTime_1 : decode cX0_decisionTime 1 = .ok (.iconst 1, 1) := by decide +kernel
theorem dX0_decisionTime_2 : decode cX0_decisionTime 2 = .ok (.if_icmp .ne 5, 3) := by decide +kernel
theorem dX0_decisionTime_5 : decode cX0_decisionTime 5 = .ok (.iconst 2, 1) := by decide +kernel
theorem dX0_decisionTime_6 : decode cX0_decisionTime 6 = .ok (.ireturn, 1) := by decide +kernel
theorem dX0_decisionTime_7 : decode cX0_decisionTime 7 = .ok (.iload_n 0, 1) := by decide +kernel
theorem dX0_decisionTime_8 : decode cX0_decisionTime 8 = .ok (.iconst 2, 1) := by decide +kernel
theorem dX0_decisionTime_9 : decode cX0_decisionTime 9 = .ok (.if_icmp .ne 7, 3) := by decide +kernel
theorem dX0_decisionTime_12 : decode cX0_decisionTime 12 = .ok (.iconst 4, 1) := by decide +kernel
theorem dX0_decisionTime_13 : decode cX0_decisionTime 13 = .ok (.goto 5, 3) := by decide +kernel
theorem dX0_decisionTime_16 : decode cX0_decisionTime 16 = .ok (.bipush 10, 2) := by decide +kernel
theorem dX0_decisionTime_18 : decode cX0_decisionTime 18 = .ok (.ireturn, 1) := by decide +kernel
theorem dX0_nextLevel_0 : decode cX0_nextLevel 0 = .ok (.iload_n 0, 1) := by decide +kernel
theorem dX0_nextLevel_1 : decode cX0_nextLevel 1 = .ok (.iconst 1, 1) := by decide +kernel
theorem dX0_nextLevel_2 : decode cX0_nextLevel 2 = .ok (.if_icmp .ne 5, 3) := by decide +kernel
theorem dX0_nextLevel_5 : decode cX0_nextLevel 5 = .ok (.iconst 2, 1) := by decide +kernel
theorem dX0_nextLevel_6 : decode cX0_nextLevel 6 = .ok (.ireturn, 1) := by decide +kernel
theorem dX0_nextLevel_7 : decode cX0_nextLevel 7 = .ok (.iload_n 0, 1) := by decide +kernel
theorem dX0_nextLevel_8 : decode cX0_nextLevel 8 = .ok (.iconst 2, 1) := by decide +kernel
theorem dX0_nextLevel_9 : decode cX0_nextLevel 9 = .ok (.if_icmp .ne 7, 3) := by decide +kernel
theorem dX0_nextLevel_12 : decode cX0_nextLevel 12 = .ok (.iconst 3, 1) := by decide +kernel
theorem dX0_nextLevel_13 : decode cX0_nextLevel 13 = .ok (.goto 4, 3) := by decide +kernel
theorem dX0_nextLevel_16 : decode cX0_nextLevel 16 = .ok (.iconst 4, 1) := by decide +kernel
theorem dX0_nextLevel_17 : decode cX0_nextLevel 17 = .ok (.ireturn, 1) := by decide +kernel
set_option maxRecDepth 20000 in
theorem ggX0_takeIn_X0_requireFlight : GoodIn wsX0_takeIn wsX0_requireFlight := goodIn_ca (goodIn_r _ [11, 12, 13, 14, 25, 26, 27, 28, 29, 30, 31, 32, 33, 34, 35, 36, 37, 38, 39, 40, 41] (by decide +kernel) (by decide +kernel)) (goodIn_sub (fun _ h => List.mem_cons_of_mem _ (List.mem_append_right _ h)) (by decide +kernel))
set_option maxRecDepth 20000 in
theorem gX0_takeIn_X0_requireFlight : GoodIn wsX0_takeIn (wsV RX0 85 RX0 yX0_requireFlight wsX0_requireFlight) := goodIn_app (goodIn_of _ (by decide +kernel)) ggX0_takeIn_X0_requireFlight
set_option maxRecDepth 20000 in
theorem ggX0_takeIn_X0_requireRider : GoodIn wsX0_takeIn wsX0_requireRider := goodIn_ca (goodIn_r _ [18, 12, 13] (by decide +kernel) (by decide +kernel)) (goodIn_sub (fun _ h => List.mem_cons_of_mem _ (List.mem_append_right _ h)) (by decide +kernel))
set_option maxRecDepth 20000 in
theorem gX0_takeIn_X0_requireRider : GoodIn wsX0_takeIn (wsV RX0 73 RX0 yX0_requireRider wsX0_requireRider) := goodIn_app (goodIn_of _ (by decide +kernel)) ggX0_takeIn_X0_requireRider
set_option maxRecDepth 20000 in
theorem ggX0_takeIn_X0_requireNotDeparted : GoodIn wsX0_takeIn wsX0_requireNotDeparted := goodIn_ca (goodIn_r _ [22, 1, 2, 23, 24, 25, 26, 27, 28, 29, 30, 31, 32, 33, 34, 35, 36, 37, 38, 39, 40, 41] (by decide +kernel) (by decide +kernel)) (goodIn_sub (fun _ h => List.mem_cons_of_mem _ (List.mem_append_left _ (List.mem_append_right _ h))) (by decide +kernel))
set_option maxRecDepth 20000 in
theorem gX0_takeIn_X0_requireNotDeparted : GoodIn wsX0_takeIn (wsV RX0 120 RX0 yX0_requireNotDeparted wsX0_requireNotDeparted) := goodIn_app (goodIn_of _ (by decide +kernel)) ggX0_takeIn_X0_requireNotDeparted
theorem dX0_takeIn_0 : decode cX0_takeIn 0 = .ok (.aload_n 0, 1) := by decide +kernel
theorem dX0_takeIn_1 : decode cX0_takeIn 1 = .ok (.iload_n 1, 1) := by decide +kernel
theorem dX0_takeIn_2 : decode cX0_takeIn 2 = .ok (.invokevirtual 85, 3) := by decide +kernel
theorem dX0_takeIn_5 : decode cX0_takeIn 5 = .ok (.aload_n 0, 1) := by decide +kernel
theorem dX0_takeIn_6 : decode cX0_takeIn 6 = .ok (.iload_n 2, 1) := by decide +kernel
theorem dX0_takeIn_7 : decode cX0_takeIn 7 = .ok (.invokevirtual 73, 3) := by decide +kernel
theorem dX0_takeIn_10 : decode cX0_takeIn 10 = .ok (.aload_n 0, 1) := by decide +kernel
theorem dX0_takeIn_11 : decode cX0_takeIn 11 = .ok (.getfield 123, 3) := by decide +kernel
theorem dX0_takeIn_14 : decode cX0_takeIn 14 = .ok (.bipush 48, 2) := by decide +kernel
theorem dX0_takeIn_16 : decode cX0_takeIn 16 = .ok (.if_icmp .lt 13, 3) := by decide +kernel
theorem dX0_takeIn_19 : decode cX0_takeIn 19 = .ok (.new 61, 3) := by decide +kernel
theorem dX0_takeIn_22 : decode cX0_takeIn 22 = .ok (.dup, 1) := by decide +kernel
theorem dX0_takeIn_23 : decode cX0_takeIn 23 = .ok (.ldc 172, 2) := by decide +kernel
theorem dX0_takeIn_25 : decode cX0_takeIn 25 = .ok (.invokespecial 65, 3) := by decide +kernel
theorem dX0_takeIn_28 : decode cX0_takeIn 28 = .ok (.athrow, 1) := by decide +kernel
theorem dX0_takeIn_29 : decode cX0_takeIn 29 = .ok (.aload_n 0, 1) := by decide +kernel
theorem dX0_takeIn_30 : decode cX0_takeIn 30 = .ok (.iload_n 1, 1) := by decide +kernel
theorem dX0_takeIn_31 : decode cX0_takeIn 31 = .ok (.invokevirtual 120, 3) := by decide +kernel
theorem dX0_takeIn_34 : decode cX0_takeIn 34 = .ok (.aload_n 0, 1) := by decide +kernel
theorem dX0_takeIn_35 : decode cX0_takeIn 35 = .ok (.getfield 123, 3) := by decide +kernel
theorem dX0_takeIn_38 : decode cX0_takeIn 38 = .ok (.istore_n 3, 1) := by decide +kernel
theorem dX0_takeIn_39 : decode cX0_takeIn 39 = .ok (.aload_n 0, 1) := by decide +kernel
theorem dX0_takeIn_40 : decode cX0_takeIn 40 = .ok (.getfield 20, 3) := by decide +kernel
theorem dX0_takeIn_43 : decode cX0_takeIn 43 = .ok (.iload_n 3, 1) := by decide +kernel
theorem dX0_takeIn_44 : decode cX0_takeIn 44 = .ok (.iload_n 1, 1) := by decide +kernel
theorem dX0_takeIn_45 : decode cX0_takeIn 45 = .ok (.iastore, 1) := by decide +kernel
theorem dX0_takeIn_46 : decode cX0_takeIn 46 = .ok (.aload_n 0, 1) := by decide +kernel
theorem dX0_takeIn_47 : decode cX0_takeIn 47 = .ok (.getfield 23, 3) := by decide +kernel
theorem dX0_takeIn_50 : decode cX0_takeIn 50 = .ok (.iload_n 3, 1) := by decide +kernel
theorem dX0_takeIn_51 : decode cX0_takeIn 51 = .ok (.iload_n 2, 1) := by decide +kernel
theorem dX0_takeIn_52 : decode cX0_takeIn 52 = .ok (.iastore, 1) := by decide +kernel
theorem dX0_takeIn_53 : decode cX0_takeIn 53 = .ok (.aload_n 0, 1) := by decide +kernel
theorem dX0_takeIn_54 : decode cX0_takeIn 54 = .ok (.getfield 29, 3) := by decide +kernel
theorem dX0_takeIn_57 : decode cX0_takeIn 57 = .ok (.iload_n 3, 1) := by decide +kernel
theorem dX0_takeIn_58 : decode cX0_takeIn 58 = .ok (.iconst 0, 1) := by decide +kernel
theorem dX0_takeIn_59 : decode cX0_takeIn 59 = .ok (.iastore, 1) := by decide +kernel
theorem dX0_takeIn_60 : decode cX0_takeIn 60 = .ok (.aload_n 0, 1) := by decide +kernel
theorem dX0_takeIn_61 : decode cX0_takeIn 61 = .ok (.dup, 1) := by decide +kernel
theorem dX0_takeIn_62 : decode cX0_takeIn 62 = .ok (.getfield 123, 3) := by decide +kernel
theorem dX0_takeIn_65 : decode cX0_takeIn 65 = .ok (.iconst 1, 1) := by decide +kernel
theorem dX0_takeIn_66 : decode cX0_takeIn 66 = .ok (.iadd, 1) := by decide +kernel
theorem dX0_takeIn_67 : decode cX0_takeIn 67 = .ok (.putfield 123, 3) := by decide +kernel
theorem dX0_takeIn_70 : decode cX0_takeIn 70 = .ok (.iload_n 3, 1) := by decide +kernel
theorem dX0_takeIn_71 : decode cX0_takeIn 71 = .ok (.ireturn, 1) := by decide +kernel
set_option maxRecDepth 20000 in
theorem ggX0_route_X0_routeTo : GoodIn wsX0_route wsX0_routeTo := goodIn_r _ [7, 8, 9, 10, 11, 12, 6, 13, 14, 15, 16, 17, 18, 19, 20, 21, 22, 23, 38, 39, 40, 41, 42, 43, 44, 45, 46, 47, 48, 49, 50, 51, 52, 53, 54] (by decide +kernel) (by decide +kernel)
set_option maxRecDepth 20000 in
theorem gX0_route_X0_routeTo : GoodIn wsX0_route (wsV RX0 174 RX0 yX0_routeTo wsX0_routeTo) := goodIn_app (goodIn_of _ (by decide +kernel)) ggX0_route_X0_routeTo
set_option maxRecDepth 20000 in
theorem ggX0_route_X0_bring : GoodIn wsX0_route wsX0_bring := goodIn_r _ [27, 9, 2, 28, 14, 29, 30, 31, 32, 33, 6, 34, 35, 36, 37, 38, 39, 40, 41, 42, 43, 44, 45, 46, 47, 48, 49, 50, 51, 52, 53, 54] (by decide +kernel) (by decide +kernel)
set_option maxRecDepth 20000 in
theorem gX0_route_X0_bring : GoodIn wsX0_route (wsV RX0 92 RX0 yX0_bring wsX0_bring) := goodIn_app (goodIn_of _ (by decide +kernel)) ggX0_route_X0_bring
theorem dX0_route_0 : decode cX0_route 0 = .ok (.aload_n 0, 1) := by decide +kernel
theorem dX0_route_1 : decode cX0_route 1 = .ok (.aload_n 0, 1) := by decide +kernel
theorem dX0_route_2 : decode cX0_route 2 = .ok (.getfield 20, 3) := by decide +kernel
theorem dX0_route_5 : decode cX0_route 5 = .ok (.iload_n 1, 1) := by decide +kernel
theorem dX0_route_6 : decode cX0_route 6 = .ok (.iaload, 1) := by decide +kernel
theorem dX0_route_7 : decode cX0_route 7 = .ok (.invokevirtual 174, 3) := by decide +kernel
theorem dX0_route_10 : decode cX0_route 10 = .ok (.istore_n 2, 1) := by decide +kernel
theorem dX0_route_11 : decode cX0_route 11 = .ok (.iload_n 2, 1) := by decide +kernel
theorem dX0_route_12 : decode cX0_route 12 = .ok (.bipush 6, 2) := by decide +kernel
theorem dX0_route_14 : decode cX0_route 14 = .ok (.if_icmp .ne 15, 3) := by decide +kernel
theorem dX0_route_17 : decode cX0_route 17 = .ok (.aload_n 0, 1) := by decide +kernel
theorem dX0_route_18 : decode cX0_route 18 = .ok (.getfield 29, 3) := by decide +kernel
theorem dX0_route_21 : decode cX0_route 21 = .ok (.iload_n 1, 1) := by decide +kernel
theorem dX0_route_22 : decode cX0_route 22 = .ok (.iaload, 1) := by decide +kernel
theorem dX0_route_23 : decode cX0_route 23 = .ok (.bipush 6, 2) := by decide +kernel
theorem dX0_route_25 : decode cX0_route 25 = .ok (.if_icmp .ne 4, 3) := by decide +kernel
theorem dX0_route_28 : decode cX0_route 28 = .ok (.return_, 1) := by decide +kernel
theorem dX0_route_29 : decode cX0_route 29 = .ok (.aload_n 0, 1) := by decide +kernel
theorem dX0_route_30 : decode cX0_route 30 = .ok (.iload_n 1, 1) := by decide +kernel
theorem dX0_route_31 : decode cX0_route 31 = .ok (.iload_n 2, 1) := by decide +kernel
theorem dX0_route_32 : decode cX0_route 32 = .ok (.invokevirtual 92, 3) := by decide +kernel
theorem dX0_route_35 : decode cX0_route 35 = .ok (.return_, 1) := by decide +kernel
set_option maxRecDepth 20000 in
theorem ggX0_routeTo_X0_hasClosed : GoodIn wsX0_routeTo wsX0_hasClosed := goodIn_r _ [7, 8, 9, 10, 11, 6, 12, 13, 18, 19, 20, 21, 22, 23, 24, 25, 26, 27, 28, 29, 30, 31, 32, 33, 34] (by decide +kernel) (by decide +kernel)
set_option maxRecDepth 20000 in
theorem gX0_routeTo_X0_hasClosed : GoodIn wsX0_routeTo (wsV RX0 177 RX0 yX0_hasClosed wsX0_hasClosed) := goodIn_app (goodIn_of _ (by decide +kernel)) ggX0_routeTo_X0_hasClosed
set_option maxRecDepth 20000 in
theorem ggX0_routeTo_X0_hasOpened : GoodIn wsX0_routeTo wsX0_hasOpened := goodIn_r _ [17, 8, 13, 18, 19, 20, 21, 22, 23, 24, 25, 26, 27, 28, 29, 30, 31, 32, 33, 34] (by decide +kernel) (by decide +kernel)
set_option maxRecDepth 20000 in
theorem gX0_routeTo_X0_hasOpened : GoodIn wsX0_routeTo (wsV RX0 180 RX0 yX0_hasOpened wsX0_hasOpened) := goodIn_app (goodIn_of _ (by decide +kernel)) ggX0_routeTo_X0_hasOpened
theorem dX0_routeTo_0 : decode cX0_routeTo 0 = .ok (.aload_n 0, 1) := by decide +kernel
theorem dX0_routeTo_1 : decode cX0_routeTo 1 = .ok (.iload_n 1, 1) := by decide +kernel
theorem dX0_routeTo_2 : decode cX0_routeTo 2 = .ok (.invokevirtual 177, 3) := by decide +kernel
theorem dX0_routeTo_5 : decode cX0_routeTo 5 = .ok (.ifCond .ne 13, 3) := by decide +kernel
theorem dX0_routeTo_8 : decode cX0_routeTo 8 = .ok (.aload_n 0, 1) := by decide +kernel
theorem dX0_routeTo_9 : decode cX0_routeTo 9 = .ok (.getfield 13, 3) := by decide +kernel
theorem dX0_routeTo_12 : decode cX0_routeTo 12 = .ok (.iload_n 1, 1) := by decide +kernel
theorem dX0_routeTo_13 : decode cX0_routeTo 13 = .ok (.iaload, 1) := by decide +kernel
theorem dX0_routeTo_14 : decode cX0_routeTo 14 = .ok (.iconst (-1), 1) := by decide +kernel
theorem dX0_routeTo_15 : decode cX0_routeTo 15 = .ok (.if_icmp .ne 6, 3) := by decide +kernel
theorem dX0_routeTo_18 : decode cX0_routeTo 18 = .ok (.bipush 11, 2) := by decide +kernel
theorem dX0_routeTo_20 : decode cX0_routeTo 20 = .ok (.ireturn, 1) := by decide +kernel
theorem dX0_routeTo_21 : decode cX0_routeTo 21 = .ok (.aload_n 0, 1) := by decide +kernel
theorem dX0_routeTo_22 : decode cX0_routeTo 22 = .ok (.iload_n 1, 1) := by decide +kernel
theorem dX0_routeTo_23 : decode cX0_routeTo 23 = .ok (.invokevirtual 180, 3) := by decide +kernel
theorem dX0_routeTo_26 : decode cX0_routeTo 26 = .ok (.ifCond .eq 6, 3) := by decide +kernel
theorem dX0_routeTo_29 : decode cX0_routeTo 29 = .ok (.bipush 7, 2) := by decide +kernel
theorem dX0_routeTo_31 : decode cX0_routeTo 31 = .ok (.ireturn, 1) := by decide +kernel
theorem dX0_routeTo_32 : decode cX0_routeTo 32 = .ok (.aload_n 0, 1) := by decide +kernel
theorem dX0_routeTo_33 : decode cX0_routeTo 33 = .ok (.getfield 38, 3) := by decide +kernel
theorem dX0_routeTo_36 : decode cX0_routeTo 36 = .ok (.iconst 5, 1) := by decide +kernel
theorem dX0_routeTo_37 : decode cX0_routeTo 37 = .ok (.iaload, 1) := by decide +kernel
theorem dX0_routeTo_38 : decode cX0_routeTo 38 = .ok (.bipush 8, 2) := by decide +kernel
theorem dX0_routeTo_40 : decode cX0_routeTo 40 = .ok (.if_icmp .ge 7, 3) := by decide +kernel
theorem dX0_routeTo_43 : decode cX0_routeTo 43 = .ok (.iconst 5, 1) := by decide +kernel
theorem dX0_routeTo_44 : decode cX0_routeTo 44 = .ok (.goto 5, 3) := by decide +kernel
theorem dX0_routeTo_47 : decode cX0_routeTo 47 = .ok (.bipush 6, 2) := by decide +kernel
theorem dX0_routeTo_49 : decode cX0_routeTo 49 = .ok (.ireturn, 1) := by decide +kernel
set_option maxRecDepth 20000 in
theorem ggX0_bring_X0_scan : GoodIn wsX0_bring wsX0_scan := goodIn_r _ [11, 6, 12, 13, 14, 4, 15, 16, 17, 18, 19, 20, 21, 22, 23, 24, 25, 26, 27, 28, 29, 30, 31] (by decide +kernel) (by decide +kernel)
set_option maxRecDepth 20000 in
theorem gX0_bring_X0_scan : GoodIn wsX0_bring (wsV RX0 183 RX0 yX0_scan wsX0_scan) := goodIn_app (goodIn_of _ (by decide +kernel)) ggX0_bring_X0_scan
theorem dX0_bring_0 : decode cX0_bring 0 = .ok (.aload_n 0, 1) := by decide +kernel
theorem dX0_bring_1 : decode cX0_bring 1 = .ok (.getfield 38, 3) := by decide +kernel
theorem dX0_bring_4 : decode cX0_bring 4 = .ok (.aload_n 0, 1) := by decide +kernel
theorem dX0_bring_5 : decode cX0_bring 5 = .ok (.getfield 29, 3) := by decide +kernel
theorem dX0_bring_8 : decode cX0_bring 8 = .ok (.iload_n 1, 1) := by decide +kernel
theorem dX0_bring_9 : decode cX0_bring 9 = .ok (.iaload, 1) := by decide +kernel
theorem dX0_bring_10 : decode cX0_bring 10 = .ok (.dup2, 1) := by decide +kernel
theorem dX0_bring_11 : decode cX0_bring 11 = .ok (.iaload, 1) := by decide +kernel
theorem dX0_bring_12 : decode cX0_bring 12 = .ok (.iconst 1, 1) := by decide +kernel
theorem dX0_bring_13 : decode cX0_bring 13 = .ok (.isub, 1) := by decide +kernel
theorem dX0_bring_14 : decode cX0_bring 14 = .ok (.iastore, 1) := by decide +kernel
theorem dX0_bring_15 : decode cX0_bring 15 = .ok (.aload_n 0, 1) := by decide +kernel
theorem dX0_bring_16 : decode cX0_bring 16 = .ok (.getfield 38, 3) := by decide +kernel
theorem dX0_bring_19 : decode cX0_bring 19 = .ok (.iload_n 2, 1) := by decide +kernel
theorem dX0_bring_20 : decode cX0_bring 20 = .ok (.dup2, 1) := by decide +kernel
theorem dX0_bring_21 : decode cX0_bring 21 = .ok (.iaload, 1) := by decide +kernel
theorem dX0_bring_22 : decode cX0_bring 22 = .ok (.iconst 1, 1) := by decide +kernel
theorem dX0_bring_23 : decode cX0_bring 23 = .ok (.iadd, 1) := by decide +kernel
theorem dX0_bring_24 : decode cX0_bring 24 = .ok (.iastore, 1) := by decide +kernel
theorem dX0_bring_25 : decode cX0_bring 25 = .ok (.aload_n 0, 1) := by decide +kernel
theorem dX0_bring_26 : decode cX0_bring 26 = .ok (.getfield 29, 3) := by decide +kernel
theorem dX0_bring_29 : decode cX0_bring 29 = .ok (.iload_n 1, 1) := by decide +kernel
theorem dX0_bring_30 : decode cX0_bring 30 = .ok (.iload_n 2, 1) := by decide +kernel
theorem dX0_bring_31 : decode cX0_bring 31 = .ok (.iastore, 1) := by decide +kernel
theorem dX0_bring_32 : decode cX0_bring 32 = .ok (.aload_n 0, 1) := by decide +kernel
theorem dX0_bring_33 : decode cX0_bring 33 = .ok (.getfield 35, 3) := by decide +kernel
theorem dX0_bring_36 : decode cX0_bring 36 = .ok (.iload_n 1, 1) := by decide +kernel
theorem dX0_bring_37 : decode cX0_bring 37 = .ok (.aload_n 0, 1) := by decide +kernel
theorem dX0_bring_38 : decode cX0_bring 38 = .ok (.getfield 66, 3) := by decide +kernel
theorem dX0_bring_41 : decode cX0_bring 41 = .ok (.iastore, 1) := by decide +kernel
theorem dX0_bring_42 : decode cX0_bring 42 = .ok (.aload_n 0, 1) := by decide +kernel
theorem dX0_bring_43 : decode cX0_bring 43 = .ok (.getfield 32, 3) := by decide +kernel
theorem dX0_bring_46 : decode cX0_bring 46 = .ok (.iload_n 1, 1) := by decide +kernel
theorem dX0_bring_47 : decode cX0_bring 47 = .ok (.aload_n 0, 1) := by decide +kernel
theorem dX0_bring_48 : decode cX0_bring 48 = .ok (.getfield 79, 3) := by decide +kernel
theorem dX0_bring_51 : decode cX0_bring 51 = .ok (.iastore, 1) := by decide +kernel
theorem dX0_bring_52 : decode cX0_bring 52 = .ok (.aload_n 0, 1) := by decide +kernel
theorem dX0_bring_53 : decode cX0_bring 53 = .ok (.iload_n 1, 1) := by decide +kernel
theorem dX0_bring_54 : decode cX0_bring 54 = .ok (.iload_n 2, 1) := by decide +kernel
theorem dX0_bring_55 : decode cX0_bring 55 = .ok (.invokevirtual 183, 3) := by decide +kernel
theorem dX0_bring_58 : decode cX0_bring 58 = .ok (.return_, 1) := by decide +kernel
theorem dX0_scan_0 : decode cX0_scan 0 = .ok (.aload_n 0, 1) := by decide +kernel
theorem dX0_scan_1 : decode cX0_scan 1 = .ok (.getfield 79, 3) := by decide +kernel
theorem dX0_scan_4 : decode cX0_scan 4 = .ok (.sipush 2048, 3) := by decide +kernel
theorem dX0_scan_7 : decode cX0_scan 7 = .ok (.if_icmp .lt 4, 3) := by decide +kernel
theorem dX0_scan_10 : decode cX0_scan 10 = .ok (.return_, 1) := by decide +kernel
theorem dX0_scan_11 : decode cX0_scan 11 = .ok (.aload_n 0, 1) := by decide +kernel
theorem dX0_scan_12 : decode cX0_scan 12 = .ok (.getfield 41, 3) := by decide +kernel
theorem dX0_scan_15 : decode cX0_scan 15 = .ok (.aload_n 0, 1) := by decide +kernel
theorem dX0_scan_16 : decode cX0_scan 16 = .ok (.getfield 79, 3) := by decide +kernel
theorem dX0_scan_19 : decode cX0_scan 19 = .ok (.iload_n 1, 1) := by decide +kernel
theorem dX0_scan_20 : decode cX0_scan 20 = .ok (.iastore, 1) := by decide +kernel
theorem dX0_scan_21 : decode cX0_scan 21 = .ok (.aload_n 0, 1) := by decide +kernel
theorem dX0_scan_22 : decode cX0_scan 22 = .ok (.getfield 44, 3) := by decide +kernel
theorem dX0_scan_25 : decode cX0_scan 25 = .ok (.aload_n 0, 1) := by decide +kernel
theorem dX0_scan_26 : decode cX0_scan 26 = .ok (.getfield 79, 3) := by decide +kernel
theorem dX0_scan_29 : decode cX0_scan 29 = .ok (.iload_n 2, 1) := by decide +kernel
theorem dX0_scan_30 : decode cX0_scan 30 = .ok (.iastore, 1) := by decide +kernel
theorem dX0_scan_31 : decode cX0_scan 31 = .ok (.aload_n 0, 1) := by decide +kernel
theorem dX0_scan_32 : decode cX0_scan 32 = .ok (.getfield 47, 3) := by decide +kernel
theorem dX0_scan_35 : decode cX0_scan 35 = .ok (.aload_n 0, 1) := by decide +kernel
theorem dX0_scan_36 : decode cX0_scan 36 = .ok (.getfield 79, 3) := by decide +kernel
theorem dX0_scan_39 : decode cX0_scan 39 = .ok (.aload_n 0, 1) := by decide +kernel
theorem dX0_scan_40 : decode cX0_scan 40 = .ok (.getfield 66, 3) := by decide +kernel
theorem dX0_scan_43 : decode cX0_scan 43 = .ok (.iastore, 1) := by decide +kernel
theorem dX0_scan_44 : decode cX0_scan 44 = .ok (.aload_n 0, 1) := by decide +kernel
theorem dX0_scan_45 : decode cX0_scan 45 = .ok (.dup, 1) := by decide +kernel
theorem dX0_scan_46 : decode cX0_scan 46 = .ok (.getfield 79, 3) := by decide +kernel
theorem dX0_scan_49 : decode cX0_scan 49 = .ok (.iconst 1, 1) := by decide +kernel
theorem dX0_scan_50 : decode cX0_scan 50 = .ok (.iadd, 1) := by decide +kernel
theorem dX0_scan_51 : decode cX0_scan 51 = .ok (.putfield 79, 3) := by decide +kernel
theorem dX0_scan_54 : decode cX0_scan 54 = .ok (.return_, 1) := by decide +kernel
set_option maxRecDepth 20000 in
theorem ggX0_passOneMinute_X0_emptyStore : GoodIn wsX0_passOneMinute wsX0_emptyStore := goodIn_r _ [6, 7, 8, 9, 5, 10, 11, 12, 13, 14, 15, 16, 17, 18, 19, 1, 20, 21, 22, 23, 24, 25, 26, 27, 28, 29, 30, 31, 32, 33, 75, 76, 77, 78, 79, 80, 81, 82, 83, 84, 85, 86, 87, 88, 89, 90, 91] (by decide +kernel) (by decide +kernel)
set_option maxRecDepth 20000 in
theorem gX0_passOneMinute_X0_emptyStore : GoodIn wsX0_passOneMinute (wsV RX0 186 RX0 yX0_emptyStore wsX0_emptyStore) := goodIn_app (goodIn_of _ (by decide +kernel)) ggX0_passOneMinute_X0_emptyStore
set_option maxRecDepth 20000 in
theorem ggX0_passOneMinute_X0_routeLoop : GoodIn wsX0_passOneMinute wsX0_routeLoop := goodIn_r _ [37, 11, 12, 13, 38, 39, 40, 5, 41, 14, 42, 43, 44, 45, 46, 47, 48, 49, 50, 1, 51, 52, 53, 54, 20, 16, 17, 18, 19, 21, 22, 23, 24, 25, 15, 26, 27, 28, 29, 30, 31, 32, 33, 75, 76, 77, 78, 79, 80, 81, 82, 83, 84, 85, 86, 87, 88, 89, 90, 91] (by decide +kernel) (by decide +kernel)
set_option maxRecDepth 20000 in
theorem gX0_passOneMinute_X0_routeLoop : GoodIn wsX0_passOneMinute (wsV RX0 189 RX0 yX0_routeLoop wsX0_routeLoop) := goodIn_app (goodIn_of _ (by decide +kernel)) ggX0_passOneMinute_X0_routeLoop
set_option maxRecDepth 20000 in
theorem ggX0_passOneMinute_X0_depart : GoodIn wsX0_passOneMinute wsX0_depart := goodIn_r _ [58, 59, 20, 1, 60, 61, 62, 5, 63, 12, 14, 64, 65, 66, 67, 13, 68, 69, 70, 71, 72, 73, 74, 21, 22, 23, 24, 11, 25, 15, 26, 27, 28, 29, 30, 31, 32, 33, 75, 76, 77, 78, 79, 80, 81, 82, 83, 84, 85, 86, 87, 88, 89, 90, 91] (by decide +kernel) (by decide +kernel)
set_option maxRecDepth 20000 in
theorem gX0_passOneMinute_X0_depart : GoodIn wsX0_passOneMinute (wsV RX0 192 RX0 yX0_depart wsX0_depart) := goodIn_app (goodIn_of _ (by decide +kernel)) ggX0_passOneMinute_X0_depart
theorem dX0_passOneMinute_0 : decode cX0_passOneMinute 0 = .ok (.aload_n 0, 1) := by decide +kernel
theorem dX0_passOneMinute_1 : decode cX0_passOneMinute 1 = .ok (.dup, 1) := by decide +kernel
theorem dX0_passOneMinute_2 : decode cX0_passOneMinute 2 = .ok (.getfield 66, 3) := by decide +kernel
theorem dX0_passOneMinute_5 : decode cX0_passOneMinute 5 = .ok (.iconst 1, 1) := by decide +kernel
theorem dX0_passOneMinute_6 : decode cX0_passOneMinute 6 = .ok (.iadd, 1) := by decide +kernel
theorem dX0_passOneMinute_7 : decode cX0_passOneMinute 7 = .ok (.putfield 66, 3) := by decide +kernel
theorem dX0_passOneMinute_10 : decode cX0_passOneMinute 10 = .ok (.aload_n 0, 1) := by decide +kernel
theorem dX0_passOneMinute_11 : decode cX0_passOneMinute 11 = .ok (.invokevirtual 186, 3) := by decide +kernel
theorem dX0_passOneMinute_14 : decode cX0_passOneMinute 14 = .ok (.aload_n 0, 1) := by decide +kernel
theorem dX0_passOneMinute_15 : decode cX0_passOneMinute 15 = .ok (.invokevirtual 189, 3) := by decide +kernel
theorem dX0_passOneMinute_18 : decode cX0_passOneMinute 18 = .ok (.aload_n 0, 1) := by decide +kernel
theorem dX0_passOneMinute_19 : decode cX0_passOneMinute 19 = .ok (.invokevirtual 192, 3) := by decide +kernel
theorem dX0_passOneMinute_22 : decode cX0_passOneMinute 22 = .ok (.return_, 1) := by decide +kernel
set_option maxRecDepth 20000 in
theorem ggX0_emptyStore_X0_firstToLeaveStore : GoodIn wsX0_emptyStore wsX0_firstToLeaveStore := goodIn_r _ [5, 6, 7, 8, 9, 10, 11, 12, 13, 4, 14, 15, 16, 30, 31, 32, 33, 34, 35, 36, 37, 38, 39, 40, 41, 42, 43, 44, 45, 46] (by decide +kernel) (by decide +kernel)
set_option maxRecDepth 20000 in
theorem gX0_emptyStore_X0_firstToLeaveStore : GoodIn wsX0_emptyStore (wsV RX0 195 RX0 yX0_firstToLeaveStore wsX0_firstToLeaveStore) := goodIn_app (goodIn_of _ (by decide +kernel)) ggX0_emptyStore_X0_firstToLeaveStore
set_option maxRecDepth 20000 in
theorem ggX0_emptyStore_X0_bring : GoodIn wsX0_emptyStore wsX0_bring := goodIn_r _ [20, 6, 8, 21, 15, 10, 22, 23, 24, 25, 4, 26, 27, 28, 29, 30, 31, 32, 33, 34, 35, 36, 37, 38, 39, 40, 41, 42, 43, 44, 45, 46] (by decide +kernel) (by decide +kernel)
set_option maxRecDepth 20000 in
theorem gX0_emptyStore_X0_bring : GoodIn wsX0_emptyStore (wsV RX0 92 RX0 yX0_bring wsX0_bring) := goodIn_app (goodIn_of _ (by decide +kernel)) ggX0_emptyStore_X0_bring
theorem dX0_emptyStore_0 : decode cX0_emptyStore 0 = .ok (.iconst 0, 1) := by decide +kernel
theorem dX0_emptyStore_1 : decode cX0_emptyStore 1 = .ok (.istore_n 1, 1) := by decide +kernel
theorem dX0_emptyStore_2 : decode cX0_emptyStore 2 = .ok (.iload_n 1, 1) := by decide +kernel
theorem dX0_emptyStore_3 : decode cX0_emptyStore 3 = .ok (.iconst 3, 1) := by decide +kernel
theorem dX0_emptyStore_4 : decode cX0_emptyStore 4 = .ok (.if_icmp .ge 27, 3) := by decide +kernel
theorem dX0_emptyStore_7 : decode cX0_emptyStore 7 = .ok (.aload_n 0, 1) := by decide +kernel
theorem dX0_emptyStore_8 : decode cX0_emptyStore 8 = .ok (.invokevirtual 195, 3) := by decide +kernel
theorem dX0_emptyStore_11 : decode cX0_emptyStore 11 = .ok (.istore_n 2, 1) := by decide +kernel
theorem dX0_emptyStore_12 : decode cX0_emptyStore 12 = .ok (.iload_n 2, 1) := by decide +kernel
theorem dX0_emptyStore_13 : decode cX0_emptyStore 13 = .ok (.iconst (-1), 1) := by decide +kernel
theorem dX0_emptyStore_14 : decode cX0_emptyStore 14 = .ok (.if_icmp .ne 4, 3) := by decide +kernel
theorem dX0_emptyStore_17 : decode cX0_emptyStore 17 = .ok (.return_, 1) := by decide +kernel
theorem dX0_emptyStore_18 : decode cX0_emptyStore 18 = .ok (.aload_n 0, 1) := by decide +kernel
theorem dX0_emptyStore_19 : decode cX0_emptyStore 19 = .ok (.iload_n 2, 1) := by decide +kernel
theorem dX0_emptyStore_20 : decode cX0_emptyStore 20 = .ok (.bipush 7, 2) := by decide +kernel
theorem dX0_emptyStore_22 : decode cX0_emptyStore 22 = .ok (.invokevirtual 92, 3) := by decide +kernel
theorem dX0_emptyStore_25 : decode cX0_emptyStore 25 = .ok (.iinc 1 1, 3) := by decide +kernel
theorem dX0_emptyStore_28 : decode cX0_emptyStore 28 = .ok (.goto (-26), 3) := by decide +kernel
theorem dX0_emptyStore_31 : decode cX0_emptyStore 31 = .ok (.return_, 1) := by decide +kernel
set_option maxRecDepth 20000 in
theorem ggX0_firstToLeaveStore_X0_hasOpened : GoodIn wsX0_firstToLeaveStore wsX0_hasOpened := goodIn_r _ [10, 11, 12, 13, 14, 15, 16, 17, 18, 19, 20, 21, 22, 23, 24, 25, 26, 27, 28, 29] (by decide +kernel) (by decide +kernel)
set_option maxRecDepth 20000 in
theorem gX0_firstToLeaveStore_X0_hasOpened : GoodIn wsX0_firstToLeaveStore (wsV RX0 180 RX0 yX0_hasOpened wsX0_hasOpened) := goodIn_app (goodIn_of _ (by decide +kernel)) ggX0_firstToLeaveStore_X0_hasOpened
theorem dX0_firstToLeaveStore_0 : decode cX0_firstToLeaveStore 0 = .ok (.aload_n 0, 1) := by decide +kernel
theorem dX0_firstToLeaveStore_1 : decode cX0_firstToLeaveStore 1 = .ok (.getfield 38, 3) := by decide +kernel
theorem dX0_firstToLeaveStore_4 : decode cX0_firstToLeaveStore 4 = .ok (.iconst 5, 1) := by decide +kernel
theorem dX0_firstToLeaveStore_5 : decode cX0_firstToLeaveStore 5 = .ok (.iaload, 1) := by decide +kernel
theorem dX0_firstToLeaveStore_6 : decode cX0_firstToLeaveStore 6 = .ok (.ifCond .ne 5, 3) := by decide +kernel
theorem dX0_firstToLeaveStore_9 : decode cX0_firstToLeaveStore 9 = .ok (.iconst (-1), 1) := by decide +kernel
theorem dX0_firstToLeaveStore_10 : decode cX0_firstToLeaveStore 10 = .ok (.ireturn, 1) := by decide +kernel
theorem dX0_firstToLeaveStore_11 : decode cX0_firstToLeaveStore 11 = .ok (.iconst (-1), 1) := by decide +kernel
theorem dX0_firstToLeaveStore_12 : decode cX0_firstToLeaveStore 12 = .ok (.istore_n 1, 1) := by decide +kernel
theorem dX0_firstToLeaveStore_13 : decode cX0_firstToLeaveStore 13 = .ok (.iconst 0, 1) := by decide +kernel
theorem dX0_firstToLeaveStore_14 : decode cX0_firstToLeaveStore 14 = .ok (.istore_n 2, 1) := by decide +kernel
theorem dX0_firstToLeaveStore_15 : decode cX0_firstToLeaveStore 15 = .ok (.iload_n 2, 1) := by decide +kernel
theorem dX0_firstToLeaveStore_16 : decode cX0_firstToLeaveStore 16 = .ok (.aload_n 0, 1) := by decide +kernel
theorem dX0_firstToLeaveStore_17 : decode cX0_firstToLeaveStore 17 = .ok (.getfield 123, 3) := by decide +kernel
theorem dX0_firstToLeaveStore_20 : decode cX0_firstToLeaveStore 20 = .ok (.if_icmp .ge 54, 3) := by decide +kernel
theorem dX0_firstToLeaveStore_23 : decode cX0_firstToLeaveStore 23 = .ok (.aload_n 0, 1) := by decide +kernel
theorem dX0_firstToLeaveStore_24 : decode cX0_firstToLeaveStore 24 = .ok (.getfield 29, 3) := by decide +kernel
theorem dX0_firstToLeaveStore_27 : decode cX0_firstToLeaveStore 27 = .ok (.iload_n 2, 1) := by decide +kernel
theorem dX0_firstToLeaveStore_28 : decode cX0_firstToLeaveStore 28 = .ok (.iaload, 1) := by decide +kernel
theorem dX0_firstToLeaveStore_29 : decode cX0_firstToLeaveStore 29 = .ok (.iconst 5, 1) := by decide +kernel
theorem dX0_firstToLeaveStore_30 : decode cX0_firstToLeaveStore 30 = .ok (.if_icmp .ne 38, 3) := by decide +kernel
theorem dX0_firstToLeaveStore_33 : decode cX0_firstToLeaveStore 33 = .ok (.aload_n 0, 1) := by decide +kernel
theorem dX0_firstToLeaveStore_34 : decode cX0_firstToLeaveStore 34 = .ok (.aload_n 0, 1) := by decide +kernel
theorem dX0_firstToLeaveStore_35 : decode cX0_firstToLeaveStore 35 = .ok (.getfield 20, 3) := by decide +kernel
theorem dX0_firstToLeaveStore_38 : decode cX0_firstToLeaveStore 38 = .ok (.iload_n 2, 1) := by decide +kernel
theorem dX0_firstToLeaveStore_39 : decode cX0_firstToLeaveStore 39 = .ok (.iaload, 1) := by decide +kernel
theorem dX0_firstToLeaveStore_40 : decode cX0_firstToLeaveStore 40 = .ok (.invokevirtual 180, 3) := by decide +kernel
theorem dX0_firstToLeaveStore_43 : decode cX0_firstToLeaveStore 43 = .ok (.ifCond .eq 25, 3) := by decide +kernel
theorem dX0_firstToLeaveStore_46 : decode cX0_firstToLeaveStore 46 = .ok (.iload_n 1, 1) := by decide +kernel
theorem dX0_firstToLeaveStore_47 : decode cX0_firstToLeaveStore 47 = .ok (.iconst (-1), 1) := by decide +kernel
theorem dX0_firstToLeaveStore_48 : decode cX0_firstToLeaveStore 48 = .ok (.if_icmp .eq 18, 3) := by decide +kernel
theorem dX0_firstToLeaveStore_51 : decode cX0_firstToLeaveStore 51 = .ok (.aload_n 0, 1) := by decide +kernel
theorem dX0_firstToLeaveStore_52 : decode cX0_firstToLeaveStore 52 = .ok (.getfield 32, 3) := by decide +kernel
theorem dX0_firstToLeaveStore_55 : decode cX0_firstToLeaveStore 55 = .ok (.iload_n 2, 1) := by decide +kernel
theorem dX0_firstToLeaveStore_56 : decode cX0_firstToLeaveStore 56 = .ok (.iaload, 1) := by decide +kernel
theorem dX0_firstToLeaveStore_57 : decode cX0_firstToLeaveStore 57 = .ok (.aload_n 0, 1) := by decide +kernel
theorem dX0_firstToLeaveStore_58 : decode cX0_firstToLeaveStore 58 = .ok (.getfield 32, 3) := by decide +kernel
theorem dX0_firstToLeaveStore_61 : decode cX0_firstToLeaveStore 61 = .ok (.iload_n 1, 1) := by decide +kernel
theorem dX0_firstToLeaveStore_62 : decode cX0_firstToLeaveStore 62 = .ok (.iaload, 1) := by decide +kernel
theorem dX0_firstToLeaveStore_63 : decode cX0_firstToLeaveStore 63 = .ok (.if_icmp .ge 5, 3) := by decide +kernel
theorem dX0_firstToLeaveStore_66 : decode cX0_firstToLeaveStore 66 = .ok (.iload_n 2, 1) := by decide +kernel
theorem dX0_firstToLeaveStore_67 : decode cX0_firstToLeaveStore 67 = .ok (.istore_n 1, 1) := by decide +kernel
theorem dX0_firstToLeaveStore_68 : decode cX0_firstToLeaveStore 68 = .ok (.iinc 2 1, 3) := by decide +kernel
theorem dX0_firstToLeaveStore_71 : decode cX0_firstToLeaveStore 71 = .ok (.goto (-56), 3) := by decide +kernel
theorem dX0_firstToLeaveStore_74 : decode cX0_firstToLeaveStore 74 = .ok (.iload_n 1, 1) := by decide +kernel
theorem dX0_firstToLeaveStore_75 : decode cX0_firstToLeaveStore 75 = .ok (.ireturn, 1) := by decide +kernel
set_option maxRecDepth 20000 in
theorem ggX0_routeLoop_X0_route : GoodIn wsX0_routeLoop wsX0_route := goodIn_r _ [8, 9, 3, 10, 11, 12, 7, 13, 14, 1, 15, 16, 17, 18, 19, 20, 21, 22, 23, 24, 25, 26, 27, 28, 29, 30, 31, 32, 33, 34, 35, 36, 37, 38, 39, 40, 41, 42, 43, 44, 45, 46, 47, 48, 49, 50, 51, 52, 53, 54, 55, 56, 57, 58, 59] (by decide +kernel) (by decide +kernel)
set_option maxRecDepth 20000 in
theorem gX0_routeLoop_X0_route : GoodIn wsX0_routeLoop (wsV RX0 96 RX0 yX0_route wsX0_route) := goodIn_app (goodIn_of _ (by decide +kernel)) ggX0_routeLoop_X0_route
theorem dX0_routeLoop_0 : decode cX0_routeLoop 0 = .ok (.aload_n 0, 1) := by decide +kernel
theorem dX0_routeLoop_1 : decode cX0_routeLoop 1 = .ok (.getfield 38, 3) := by decide +kernel
theorem dX0_routeLoop_4 : decode cX0_routeLoop 4 = .ok (.bipush 6, 2) := by decide +kernel
theorem dX0_routeLoop_6 : decode cX0_routeLoop 6 = .ok (.iaload, 1) := by decide +kernel
theorem dX0_routeLoop_7 : decode cX0_routeLoop 7 = .ok (.ifCond .ne 4, 3) := by decide +kernel
theorem dX0_routeLoop_10 : decode cX0_routeLoop 10 = .ok (.return_, 1) := by decide +kernel
theorem dX0_routeLoop_11 : decode cX0_routeLoop 11 = .ok (.iconst 0, 1) := by decide +kernel
theorem dX0_routeLoop_12 : decode cX0_routeLoop 12 = .ok (.istore_n 1, 1) := by decide +kernel
theorem dX0_routeLoop_13 : decode cX0_routeLoop 13 = .ok (.iload_n 1, 1) := by decide +kernel
theorem dX0_routeLoop_14 : decode cX0_routeLoop 14 = .ok (.aload_n 0, 1) := by decide +kernel
theorem dX0_routeLoop_15 : decode cX0_routeLoop 15 = .ok (.getfield 123, 3) := by decide +kernel
theorem dX0_routeLoop_18 : decode cX0_routeLoop 18 = .ok (.if_icmp .ge 25, 3) := by decide +kernel
theorem dX0_routeLoop_21 : decode cX0_routeLoop 21 = .ok (.aload_n 0, 1) := by decide +kernel
theorem dX0_routeLoop_22 : decode cX0_routeLoop 22 = .ok (.getfield 29, 3) := by decide +kernel
theorem dX0_routeLoop_25 : decode cX0_routeLoop 25 = .ok (.iload_n 1, 1) := by decide +kernel
theorem dX0_routeLoop_26 : decode cX0_routeLoop 26 = .ok (.iaload, 1) := by decide +kernel
theorem dX0_routeLoop_27 : decode cX0_routeLoop 27 = .ok (.bipush 6, 2) := by decide +kernel
theorem dX0_routeLoop_29 : decode cX0_routeLoop 29 = .ok (.if_icmp .ne 8, 3) := by decide +kernel
theorem dX0_routeLoop_32 : decode cX0_routeLoop 32 = .ok (.aload_n 0, 1) := by decide +kernel
theorem dX0_routeLoop_33 : decode cX0_routeLoop 33 = .ok (.iload_n 1, 1) := by decide +kernel
theorem dX0_routeLoop_34 : decode cX0_routeLoop 34 = .ok (.invokevirtual 96, 3) := by decide +kernel
theorem dX0_routeLoop_37 : decode cX0_routeLoop 37 = .ok (.iinc 1 1, 3) := by decide +kernel
theorem dX0_routeLoop_40 : decode cX0_routeLoop 40 = .ok (.goto (-27), 3) := by decide +kernel
theorem dX0_routeLoop_43 : decode cX0_routeLoop 43 = .ok (.return_, 1) := by decide +kernel
set_option maxRecDepth 20000 in
theorem ggX0_depart_X0_settleBags : GoodIn wsX0_depart wsX0_settleBags := goodIn_r _ [8, 9, 10, 11, 12, 13, 7, 14, 15, 16, 17, 18, 19, 20, 21, 22, 23, 24, 25, 26, 27, 28, 3, 29, 30, 31, 32, 33, 34, 35, 36, 37, 38, 39, 40, 41, 42, 43, 44, 45, 46, 47, 48, 49, 50, 51, 52, 53, 54] (by decide +kernel) (by decide +kernel)
set_option maxRecDepth 20000 in
theorem gX0_depart_X0_settleBags : GoodIn wsX0_depart (wsV RX0 199 RX0 yX0_settleBags wsX0_settleBags) := goodIn_app (goodIn_of _ (by decide +kernel)) ggX0_depart_X0_settleBags
theorem dX0_depart_0 : decode cX0_depart 0 = .ok (.iconst 0, 1) := by decide +kernel
theorem dX0_depart_1 : decode cX0_depart 1 = .ok (.istore_n 1, 1) := by decide +kernel
theorem dX0_depart_2 : decode cX0_depart 2 = .ok (.iload_n 1, 1) := by decide +kernel
theorem dX0_depart_3 : decode cX0_depart 3 = .ok (.aload_n 0, 1) := by decide +kernel
theorem dX0_depart_4 : decode cX0_depart 4 = .ok (.getfield 57, 3) := by decide +kernel
theorem dX0_depart_7 : decode cX0_depart 7 = .ok (.if_icmp .ge 27, 3) := by decide +kernel
theorem dX0_depart_10 : decode cX0_depart 10 = .ok (.aload_n 0, 1) := by decide +kernel
theorem dX0_depart_11 : decode cX0_depart 11 = .ok (.getfield 9, 3) := by decide +kernel
theorem dX0_depart_14 : decode cX0_depart 14 = .ok (.iload_n 1, 1) := by decide +kernel
theorem dX0_depart_15 : decode cX0_depart 15 = .ok (.iaload, 1) := by decide +kernel
theorem dX0_depart_16 : decode cX0_depart 16 = .ok (.aload_n 0, 1) := by decide +kernel
theorem dX0_depart_17 : decode cX0_depart 17 = .ok (.getfield 66, 3) := by decide +kernel
theorem dX0_depart_20 : decode cX0_depart 20 = .ok (.if_icmp .ne 8, 3) := by decide +kernel
theorem dX0_depart_23 : decode cX0_depart 23 = .ok (.aload_n 0, 1) := by decide +kernel
theorem dX0_depart_24 : decode cX0_depart 24 = .ok (.iload_n 1, 1) := by decide +kernel
theorem dX0_depart_25 : decode cX0_depart 25 = .ok (.invokevirtual 199, 3) := by decide +kernel
theorem dX0_depart_28 : decode cX0_depart 28 = .ok (.iinc 1 1, 3) := by decide +kernel
theorem dX0_depart_31 : decode cX0_depart 31 = .ok (.goto (-29), 3) := by decide +kernel
theorem dX0_depart_34 : decode cX0_depart 34 = .ok (.return_, 1) := by decide +kernel
set_option maxRecDepth 20000 in
theorem ggX0_settleBags_X0_settle : GoodIn wsX0_settleBags wsX0_settle := goodIn_r _ [7, 8, 9, 10, 11, 6, 12, 13, 14, 15, 16, 17, 18, 19, 20, 21, 22, 23, 24, 25, 26, 27, 28, 29, 30, 31, 32, 33, 34, 35, 36, 37, 38, 39, 40, 41, 42, 43, 44, 45, 46, 47, 48] (by decide +kernel) (by decide +kernel)
set_option maxRecDepth 20000 in
theorem gX0_settleBags_X0_settle : GoodIn wsX0_settleBags (wsV RX0 202 RX0 yX0_settle wsX0_settle) := goodIn_app (goodIn_of _ (by decide +kernel)) ggX0_settleBags_X0_settle
theorem dX0_settleBags_0 : decode cX0_settleBags 0 = .ok (.iconst 0, 1) := by decide +kernel
theorem dX0_settleBags_1 : decode cX0_settleBags 1 = .ok (.istore_n 2, 1) := by decide +kernel
theorem dX0_settleBags_2 : decode cX0_settleBags 2 = .ok (.iload_n 2, 1) := by decide +kernel
theorem dX0_settleBags_3 : decode cX0_settleBags 3 = .ok (.aload_n 0, 1) := by decide +kernel
theorem dX0_settleBags_4 : decode cX0_settleBags 4 = .ok (.getfield 123, 3) := by decide +kernel
theorem dX0_settleBags_7 : decode cX0_settleBags 7 = .ok (.if_icmp .ge 24, 3) := by decide +kernel
theorem dX0_settleBags_10 : decode cX0_settleBags 10 = .ok (.aload_n 0, 1) := by decide +kernel
theorem dX0_settleBags_11 : decode cX0_settleBags 11 = .ok (.getfield 20, 3) := by decide +kernel
theorem dX0_settleBags_14 : decode cX0_settleBags 14 = .ok (.iload_n 2, 1) := by decide +kernel
theorem dX0_settleBags_15 : decode cX0_settleBags 15 = .ok (.iaload, 1) := by decide +kernel
theorem dX0_settleBags_16 : decode cX0_settleBags 16 = .ok (.iload_n 1, 1) := by decide +kernel
theorem dX0_settleBags_17 : decode cX0_settleBags 17 = .ok (.if_icmp .ne 8, 3) := by decide +kernel
theorem dX0_settleBags_20 : decode cX0_settleBags 20 = .ok (.aload_n 0, 1) := by decide +kernel
theorem dX0_settleBags_21 : decode cX0_settleBags 21 = .ok (.iload_n 2, 1) := by decide +kernel
theorem dX0_settleBags_22 : decode cX0_settleBags 22 = .ok (.invokevirtual 202, 3) := by decide +kernel
theorem dX0_settleBags_25 : decode cX0_settleBags 25 = .ok (.iinc 2 1, 3) := by decide +kernel
theorem dX0_settleBags_28 : decode cX0_settleBags 28 = .ok (.goto (-26), 3) := by decide +kernel
theorem dX0_settleBags_31 : decode cX0_settleBags 31 = .ok (.return_, 1) := by decide +kernel
set_option maxRecDepth 20000 in
theorem ggX0_settle_X0_mayFly : GoodIn wsX0_settle wsX0_mayFly := goodIn_r _ [6, 7, 8, 9, 26, 27, 28, 29, 30, 31, 32, 33, 34, 35, 36, 37, 38, 39, 40, 41, 42] (by decide +kernel) (by decide +kernel)
set_option maxRecDepth 20000 in
theorem gX0_settle_X0_mayFly : GoodIn wsX0_settle (wsV RX0 139 RX0 yX0_mayFly wsX0_mayFly) := goodIn_app (goodIn_of _ (by decide +kernel)) ggX0_settle_X0_mayFly
set_option maxRecDepth 20000 in
theorem ggX0_settle_X0_bring : GoodIn wsX0_settle wsX0_bring := goodIn_r _ [13, 14, 1, 15, 16, 17, 18, 19, 20, 21, 5, 22, 23, 24, 25, 26, 27, 28, 29, 30, 31, 32, 33, 34, 35, 36, 37, 38, 39, 40, 41, 42] (by decide +kernel) (by decide +kernel)
set_option maxRecDepth 20000 in
theorem gX0_settle_X0_bring : GoodIn wsX0_settle (wsV RX0 92 RX0 yX0_bring wsX0_bring) := goodIn_app (goodIn_of _ (by decide +kernel)) ggX0_settle_X0_bring
theorem dX0_settle_0 : decode cX0_settle 0 = .ok (.aload_n 0, 1) := by decide +kernel
theorem dX0_settle_1 : decode cX0_settle 1 = .ok (.getfield 29, 3) := by decide +kernel
theorem dX0_settle_4 : decode cX0_settle 4 = .ok (.iload_n 1, 1) := by decide +kernel
theorem dX0_settle_5 : decode cX0_settle 5 = .ok (.iaload, 1) := by decide +kernel
theorem dX0_settle_6 : decode cX0_settle 6 = .ok (.istore_n 2, 1) := by decide +kernel
theorem dX0_settle_7 : decode cX0_settle 7 = .ok (.iload_n 2, 1) := by decide +kernel
theorem dX0_settle_8 : decode cX0_settle 8 = .ok (.bipush 8, 2) := by decide +kernel
theorem dX0_settle_10 : decode cX0_settle 10 = .ok (.if_icmp .ne 26, 3) := by decide +kernel
theorem dX0_settle_13 : decode cX0_settle 13 = .ok (.aload_n 0, 1) := by decide +kernel
theorem dX0_settle_14 : decode cX0_settle 14 = .ok (.iload_n 1, 1) := by decide +kernel
theorem dX0_settle_15 : decode cX0_settle 15 = .ok (.aload_n 0, 1) := by decide +kernel
theorem dX0_settle_16 : decode cX0_settle 16 = .ok (.iload_n 1, 1) := by decide +kernel
theorem dX0_settle_17 : decode cX0_settle 17 = .ok (.invokevirtual 139, 3) := by decide +kernel
theorem dX0_settle_20 : decode cX0_settle 20 = .ok (.ifCond .eq 8, 3) := by decide +kernel
theorem dX0_settle_23 : decode cX0_settle 23 = .ok (.bipush 9, 2) := by decide +kernel
theorem dX0_settle_25 : decode cX0_settle 25 = .ok (.goto 5, 3) := by decide +kernel
theorem dX0_settle_28 : decode cX0_settle 28 = .ok (.bipush 10, 2) := by decide +kernel
theorem dX0_settle_30 : decode cX0_settle 30 = .ok (.invokevirtual 92, 3) := by decide +kernel
theorem dX0_settle_33 : decode cX0_settle 33 = .ok (.goto 27, 3) := by decide +kernel
theorem dX0_settle_36 : decode cX0_settle 36 = .ok (.iload_n 2, 1) := by decide +kernel
theorem dX0_settle_37 : decode cX0_settle 37 = .ok (.iconst 5, 1) := by decide +kernel
theorem dX0_settle_38 : decode cX0_settle 38 = .ok (.if_icmp .eq 15, 3) := by decide +kernel
theorem dX0_settle_41 : decode cX0_settle 41 = .ok (.iload_n 2, 1) := by decide +kernel
theorem dX0_settle_42 : decode cX0_settle 42 = .ok (.bipush 6, 2) := by decide +kernel
theorem dX0_settle_44 : decode cX0_settle 44 = .ok (.if_icmp .eq 9, 3) := by decide +kernel
theorem dX0_settle_47 : decode cX0_settle 47 = .ok (.iload_n 2, 1) := by decide +kernel
theorem dX0_settle_48 : decode cX0_settle 48 = .ok (.bipush 7, 2) := by decide +kernel
theorem dX0_settle_50 : decode cX0_settle 50 = .ok (.if_icmp .ne 10, 3) := by decide +kernel
theorem dX0_settle_53 : decode cX0_settle 53 = .ok (.aload_n 0, 1) := by decide +kernel
theorem dX0_settle_54 : decode cX0_settle 54 = .ok (.iload_n 1, 1) := by decide +kernel
theorem dX0_settle_55 : decode cX0_settle 55 = .ok (.bipush 11, 2) := by decide +kernel
theorem dX0_settle_57 : decode cX0_settle 57 = .ok (.invokevirtual 92, 3) := by decide +kernel
theorem dX0_settle_60 : decode cX0_settle 60 = .ok (.return_, 1) := by decide +kernel
theorem dJ9_abs_0f7a4_0 : decode cJ9_abs_0f7a4 0 = .ok (.iload_n 0, 1) := by decide +kernel
theorem dJ9_abs_0f7a4_1 : decode cJ9_abs_0f7a4 1 = .ok (.ifCond .ge 8, 3) := by decide +kernel
theorem dJ9_abs_0f7a4_4 : decode cJ9_abs_0f7a4 4 = .ok (.iload_n 0, 1) := by decide +kernel
theorem dJ9_abs_0f7a4_5 : decode cJ9_abs_0f7a4 5 = .ok (.ineg, 1) := by decide +kernel
theorem dJ9_abs_0f7a4_6 : decode cJ9_abs_0f7a4 6 = .ok (.goto 4, 3) := by decide +kernel
theorem dJ9_abs_0f7a4_9 : decode cJ9_abs_0f7a4 9 = .ok (.iload_n 0, 1) := by decide +kernel
theorem dJ9_abs_0f7a4_10 : decode cJ9_abs_0f7a4 10 = .ok (.ireturn, 1) := by decide +kernel
theorem dJ9_max_7cf53_0 : decode cJ9_max_7cf53 0 = .ok (.iload_n 0, 1) := by decide +kernel
theorem dJ9_max_7cf53_1 : decode cJ9_max_7cf53 1 = .ok (.iload_n 1, 1) := by decide +kernel
theorem dJ9_max_7cf53_2 : decode cJ9_max_7cf53 2 = .ok (.if_icmp .lt 7, 3) := by decide +kernel
theorem dJ9_max_7cf53_5 : decode cJ9_max_7cf53 5 = .ok (.iload_n 0, 1) := by decide +kernel
theorem dJ9_max_7cf53_6 : decode cJ9_max_7cf53 6 = .ok (.goto 4, 3) := by decide +kernel
theorem dJ9_max_7cf53_9 : decode cJ9_max_7cf53 9 = .ok (.iload_n 1, 1) := by decide +kernel
theorem dJ9_max_7cf53_10 : decode cJ9_max_7cf53 10 = .ok (.ireturn, 1) := by decide +kernel
theorem dL_low_0 : decode cL_low 0 = .ok (.iload_n 0, 1) := by decide +kernel
theorem dL_low_1 : decode cL_low 1 = .ok (.ldc 7, 2) := by decide +kernel
theorem dL_low_3 : decode cL_low 3 = .ok (.iand, 1) := by decide +kernel
theorem dL_low_4 : decode cL_low 4 = .ok (.iload_n 1, 1) := by decide +kernel
theorem dL_low_5 : decode cL_low 5 = .ok (.irem, 1) := by decide +kernel
theorem dL_low_6 : decode cL_low 6 = .ok (.ireturn, 1) := by decide +kernel
theorem dL_cell_0 : decode cL_cell 0 = .ok (.iload_n 1, 1) := by decide +kernel
theorem dL_cell_1 : decode cL_cell 1 = .ok (.aload_n 0, 1) := by decide +kernel
theorem dL_cell_2 : decode cL_cell 2 = .ok (.arraylength, 1) := by decide +kernel
theorem dL_cell_3 : decode cL_cell 3 = .ok (.if_icmp .ge 9, 3) := by decide +kernel
theorem dL_cell_6 : decode cL_cell 6 = .ok (.aload_n 0, 1) := by decide +kernel
theorem dL_cell_7 : decode cL_cell 7 = .ok (.iload_n 1, 1) := by decide +kernel
theorem dL_cell_8 : decode cL_cell 8 = .ok (.iaload, 1) := by decide +kernel
theorem dL_cell_9 : decode cL_cell 9 = .ok (.goto 11, 3) := by decide +kernel
theorem dL_cell_12 : decode cL_cell 12 = .ok (.ldc 8, 2) := by decide +kernel
theorem dL_cell_14 : decode cL_cell 14 = .ok (.iload_n 1, 1) := by decide +kernel
theorem dL_cell_15 : decode cL_cell 15 = .ok (.imul, 1) := by decide +kernel
theorem dL_cell_16 : decode cL_cell 16 = .ok (.sipush 977, 3) := by decide +kernel
theorem dL_cell_19 : decode cL_cell 19 = .ok (.iadd, 1) := by decide +kernel
theorem dL_cell_20 : decode cL_cell 20 = .ok (.ireturn, 1) := by decide +kernel
set_option maxRecDepth 20000 in
theorem ggL_addFlight_X0_addFlight : GoodIn wsL_addFlight wsX0_addFlight := goodIn_ca (goodIn_ca (goodIn_r _ [6, 7, 8, 9, 10, 11, 12, 13, 14, 15, 16, 17, 5, 18, 19, 20, 21, 22, 23, 24, 25, 26, 27, 28, 29, 30, 31, 32, 33, 34, 35, 36, 37, 38, 39, 40, 41, 42, 43] (by decide +kernel) (by decide +kernel)) (goodIn_sub (fun _ h => List.mem_cons_of_mem _ (List.mem_append_left _ (List.mem_append_right _ h))) (by decide +kernel))) (goodIn_sub (fun _ h => List.mem_cons_of_mem _ (List.mem_append_right _ h)) (by decide +kernel))
set_option maxRecDepth 20000 in
theorem gL_addFlight_X0_addFlight : GoodIn wsL_addFlight (wsV RL 9 RX0 yX0_addFlight wsX0_addFlight) := goodIn_app (goodIn_of _ (by decide +kernel)) ggL_addFlight_X0_addFlight
theorem dL_addFlight_0 : decode cL_addFlight 0 = .ok (.aload_n 0, 1) := by decide +kernel
theorem dL_addFlight_1 : decode cL_addFlight 1 = .ok (.iload_n 1, 1) := by decide +kernel
theorem dL_addFlight_2 : decode cL_addFlight 2 = .ok (.invokevirtual 9, 3) := by decide +kernel
theorem dL_addFlight_5 : decode cL_addFlight 5 = .ok (.ireturn, 1) := by decide +kernel
theorem dL_addFlight_6 : decode cL_addFlight 6 = .ok (.astore_n 2, 1) := by decide +kernel
theorem dL_addFlight_7 : decode cL_addFlight 7 = .ok (.bipush (-3), 2) := by decide +kernel
theorem dL_addFlight_9 : decode cL_addFlight 9 = .ok (.ireturn, 1) := by decide +kernel
set_option maxRecDepth 20000 in
theorem ggL_comes_X0_transfer : GoodIn wsL_comes wsX0_transfer := goodIn_ca (goodIn_ca (goodIn_r _ [6, 7, 8, 9, 5, 10, 11, 12, 13, 14, 15, 16, 17, 18, 19, 20, 21, 22, 23, 24, 25, 26, 27, 28, 29, 30, 31, 32, 33, 34, 35, 36, 37, 38, 39, 40, 41, 42, 43, 44, 45, 46, 47, 48, 49, 50, 51, 52, 53, 54, 55, 56, 57, 58, 59, 60, 61, 62, 63, 64, 65, 66, 67, 68, 69, 74, 75, 76, 77, 78, 79, 80, 81, 82, 83, 84, 85, 86, 87, 88, 89, 90] (by decide +kernel) (by decide +kernel)) (goodIn_sub (fun _ h => List.mem_cons_of_mem _ (List.mem_append_left _ (List.mem_append_right _ h))) (by decide +kernel))) (goodIn_sub (fun _ h => List.mem_cons_of_mem _ (List.mem_append_right _ h)) (by decide +kernel))
set_option maxRecDepth 20000 in
theorem gL_comes_X0_transfer : GoodIn wsL_comes (wsV RL 17 RX0 yX0_transfer wsX0_transfer) := goodIn_app (goodIn_of _ (by decide +kernel)) ggL_comes_X0_transfer
set_option maxRecDepth 20000 in
theorem ggL_comes_X0_checkIn : GoodIn wsL_comes wsX0_checkIn := goodIn_ca (goodIn_ca (goodIn_r _ [73, 7, 8, 9, 5, 10, 11, 12, 13, 14, 15, 16, 17, 18, 19, 20, 21, 22, 23, 24, 25, 26, 27, 28, 29, 30, 31, 32, 33, 56, 57, 58, 59, 43, 60, 61, 62, 63, 64, 65, 66, 67, 68, 69, 74, 75, 76, 77, 78, 79, 80, 81, 82, 83, 84, 85, 86, 87, 88, 89, 90] (by decide +kernel) (by decide +kernel)) (goodIn_sub (fun _ h => List.mem_cons_of_mem _ (List.mem_append_left _ (List.mem_append_right _ h))) (by decide +kernel))) (goodIn_sub (fun _ h => List.mem_cons_of_mem _ (List.mem_append_right _ h)) (by decide +kernel))
set_option maxRecDepth 20000 in
theorem gL_comes_X0_checkIn : GoodIn wsL_comes (wsV RL 21 RX0 yX0_checkIn wsX0_checkIn) := goodIn_app (goodIn_of _ (by decide +kernel)) ggL_comes_X0_checkIn
theorem dL_comes_0 : decode cL_comes 0 = .ok (.iload_n 3, 1) := by decide +kernel
theorem dL_comes_1 : decode cL_comes 1 = .ok (.ifCond .eq 12, 3) := by decide +kernel
theorem dL_comes_4 : decode cL_comes 4 = .ok (.aload_n 0, 1) := by decide +kernel
theorem dL_comes_5 : decode cL_comes 5 = .ok (.iload_n 1, 1) := by decide +kernel
theorem dL_comes_6 : decode cL_comes 6 = .ok (.iload_n 2, 1) := by decide +kernel
theorem dL_comes_7 : decode cL_comes 7 = .ok (.invokevirtual 17, 3) := by decide +kernel
theorem dL_comes_10 : decode cL_comes 10 = .ok (.goto 9, 3) := by decide +kernel
theorem dL_comes_13 : decode cL_comes 13 = .ok (.aload_n 0, 1) := by decide +kernel
theorem dL_comes_14 : decode cL_comes 14 = .ok (.iload_n 1, 1) := by decide +kernel
theorem dL_comes_15 : decode cL_comes 15 = .ok (.iload_n 2, 1) := by decide +kernel
theorem dL_comes_16 : decode cL_comes 16 = .ok (.invokevirtual 21, 3) := by decide +kernel
theorem dL_comes_19 : decode cL_comes 19 = .ok (.ireturn, 1) := by decide +kernel
theorem dL_comes_20 : decode cL_comes 20 = .ok (.astore 4, 2) := by decide +kernel
theorem dL_comes_22 : decode cL_comes 22 = .ok (.bipush (-3), 2) := by decide +kernel
theorem dL_comes_24 : decode cL_comes 24 = .ok (.ireturn, 1) := by decide +kernel
set_option maxRecDepth 20000 in
theorem ggL_decide_X0_decide : GoodIn wsL_decide wsX0_decide := goodIn_ca (goodIn_ca (goodIn_r _ [6, 7, 8, 9, 10, 11, 12, 13, 14, 5, 15, 16, 17, 18, 19, 20, 21, 22, 23, 24, 25, 26, 27, 28, 29, 30, 31, 32, 33, 34, 35, 36, 37, 38, 39, 40, 41, 42, 43, 44, 45, 46, 47, 48, 49, 50, 51, 52, 53, 54, 55, 56, 57, 58, 59, 60, 61, 62, 63, 64, 65, 66, 67, 68, 69, 70, 71, 72, 73, 74, 75, 76, 77, 78] (by decide +kernel) (by decide +kernel)) (goodIn_sub (fun _ h => List.mem_cons_of_mem _ (List.mem_append_left _ (List.mem_append_right _ h))) (by decide +kernel))) (goodIn_sub (fun _ h => List.mem_cons_of_mem _ (List.mem_append_right _ h)) (by decide +kernel))
set_option maxRecDepth 20000 in
theorem gL_decide_X0_decide : GoodIn wsL_decide (wsV RL 24 RX0 yX0_decide wsX0_decide) := goodIn_app (goodIn_of _ (by decide +kernel)) ggL_decide_X0_decide
theorem dL_decide_0 : decode cL_decide 0 = .ok (.aload_n 0, 1) := by decide +kernel
theorem dL_decide_1 : decode cL_decide 1 = .ok (.iload_n 1, 1) := by decide +kernel
theorem dL_decide_2 : decode cL_decide 2 = .ok (.iload_n 2, 1) := by decide +kernel
theorem dL_decide_3 : decode cL_decide 3 = .ok (.invokevirtual 24, 3) := by decide +kernel
theorem dL_decide_6 : decode cL_decide 6 = .ok (.ireturn, 1) := by decide +kernel
theorem dL_decide_7 : decode cL_decide 7 = .ok (.astore_n 3, 1) := by decide +kernel
theorem dL_decide_8 : decode cL_decide 8 = .ok (.bipush (-3), 2) := by decide +kernel
theorem dL_decide_10 : decode cL_decide 10 = .ok (.ireturn, 1) := by decide +kernel
set_option maxRecDepth 20000 in
theorem ggL_sendOn_X0_sendOn : GoodIn wsL_sendOn wsX0_sendOn := goodIn_ca (goodIn_ca (goodIn_r _ [6, 7, 8, 9, 10, 11, 12, 13, 14, 5, 15, 16, 17, 18, 19, 20, 21, 22, 23, 24, 25, 26, 27, 28, 29, 30, 31, 32, 33, 34, 35, 36, 37, 38, 39, 40, 41, 42, 43, 44, 45, 46, 47, 48, 49, 50, 51, 52, 53, 54, 55, 56, 57, 58, 59, 60, 61, 62, 63, 64, 65, 66, 67, 68, 69, 70, 71, 72, 73, 74, 75, 76, 77, 78, 79, 80, 81, 82] (by decide +kernel) (by decide +kernel)) (goodIn_sub (fun _ h => List.mem_cons_of_mem _ (List.mem_append_left _ (List.mem_append_right _ h))) (by decide +kernel))) (goodIn_sub (fun _ h => List.mem_cons_of_mem _ (List.mem_append_right _ h)) (by decide +kernel))
set_option maxRecDepth 20000 in
theorem gL_sendOn_X0_sendOn : GoodIn wsL_sendOn (wsV RL 28 RX0 yX0_sendOn wsX0_sendOn) := goodIn_app (goodIn_of _ (by decide +kernel)) ggL_sendOn_X0_sendOn
theorem dL_sendOn_0 : decode cL_sendOn 0 = .ok (.aload_n 0, 1) := by decide +kernel
theorem dL_sendOn_1 : decode cL_sendOn 1 = .ok (.iload_n 1, 1) := by decide +kernel
theorem dL_sendOn_2 : decode cL_sendOn 2 = .ok (.iload_n 2, 1) := by decide +kernel
theorem dL_sendOn_3 : decode cL_sendOn 3 = .ok (.invokevirtual 28, 3) := by decide +kernel
theorem dL_sendOn_6 : decode cL_sendOn 6 = .ok (.ireturn, 1) := by decide +kernel
theorem dL_sendOn_7 : decode cL_sendOn 7 = .ok (.astore_n 3, 1) := by decide +kernel
theorem dL_sendOn_8 : decode cL_sendOn 8 = .ok (.bipush (-3), 2) := by decide +kernel
theorem dL_sendOn_10 : decode cL_sendOn 10 = .ok (.ireturn, 1) := by decide +kernel
set_option maxRecDepth 20000 in
theorem ggL_holds_X0_count : GoodIn wsL_holds wsX0_count := goodIn_ca (goodIn_r _ [5, 6, 7, 8, 89, 90, 91, 92, 93, 94, 95, 96, 97, 98, 99, 100, 101, 102, 103, 104, 105] (by decide +kernel) (by decide +kernel)) (goodIn_sub (fun _ h => List.mem_cons_of_mem _ (List.mem_append_left _ (List.mem_append_right _ h))) (by decide +kernel))
set_option maxRecDepth 20000 in
theorem gL_holds_X0_count : GoodIn wsL_holds (wsV RL 31 RX0 yX0_count wsX0_count) := goodIn_app (goodIn_of _ (by decide +kernel)) ggL_holds_X0_count
set_option maxRecDepth 20000 in
theorem ggL_holds_X0_atLateral : GoodIn wsL_holds wsX0_atLateral := goodIn_ca (goodIn_r _ [12, 13, 14, 15, 16, 17, 18, 89, 90, 91, 92, 93, 94, 95, 96, 97, 98, 99, 100, 101, 102, 103, 104, 105] (by decide +kernel) (by decide +kernel)) (goodIn_sub (fun _ h => List.mem_cons_of_mem _ (List.mem_append_right _ h)) (by decide +kernel))
set_option maxRecDepth 20000 in
theorem gL_holds_X0_atLateral : GoodIn wsL_holds (wsV RL 34 RX0 yX0_atLateral wsX0_atLateral) := goodIn_app (goodIn_of _ (by decide +kernel)) ggL_holds_X0_atLateral
set_option maxRecDepth 20000 in
theorem ggL_holds_X0_lateralOf : GoodIn wsL_holds wsX0_lateralOf := goodIn_ca (goodIn_r _ [22, 17, 23, 24, 25, 4, 26, 13, 14, 27, 89, 90, 91, 92, 93, 94, 95, 96, 97, 98, 99, 100, 101, 102, 103, 104, 105] (by decide +kernel) (by decide +kernel)) (goodIn_sub (fun _ h => List.mem_cons_of_mem _ (List.mem_append_right _ h)) (by decide +kernel))
set_option maxRecDepth 20000 in
theorem gL_holds_X0_lateralOf : GoodIn wsL_holds (wsV RL 37 RX0 yX0_lateralOf wsX0_lateralOf) := goodIn_app (goodIn_of _ (by decide +kernel)) ggL_holds_X0_lateralOf
set_option maxRecDepth 20000 in
theorem ggL_holds_X0_unmatched : GoodIn wsL_holds wsX0_unmatched := goodIn_ca (goodIn_r _ [31, 15, 23, 24, 25, 4, 26, 13, 14, 27, 32, 33, 34, 35, 16, 18, 36, 37, 38, 39, 40, 41, 42, 89, 90, 91, 92, 93, 94, 95, 96, 97, 98, 99, 100, 101, 102, 103, 104, 105] (by decide +kernel) (by decide +kernel)) (goodIn_sub (fun _ h => List.mem_cons_of_mem _ (List.mem_append_right _ h)) (by decide +kernel))
set_option maxRecDepth 20000 in
theorem gL_holds_X0_unmatched : GoodIn wsL_holds (wsV RL 40 RX0 yX0_unmatched wsX0_unmatched) := goodIn_app (goodIn_of _ (by decide +kernel)) ggL_holds_X0_unmatched
set_option maxRecDepth 20000 in
theorem ggL_holds_X0_untilClose : GoodIn wsL_holds wsX0_untilClose := goodIn_ca (goodIn_r _ [46, 47, 48, 49, 50, 51, 23, 24, 25, 4, 26, 13, 14, 27, 52, 53, 54, 55, 56, 89, 90, 91, 92, 93, 94, 95, 96, 97, 98, 99, 100, 101, 102, 103, 104, 105] (by decide +kernel) (by decide +kernel)) (goodIn_sub (fun _ h => List.mem_cons_of_mem _ (List.mem_append_right _ h)) (by decide +kernel))
set_option maxRecDepth 20000 in
theorem gL_holds_X0_untilClose : GoodIn wsL_holds (wsV RL 43 RX0 yX0_untilClose wsX0_untilClose) := goodIn_app (goodIn_of _ (by decide +kernel)) ggL_holds_X0_untilClose
set_option maxRecDepth 20000 in
theorem ggL_holds_X0_bags : GoodIn wsL_holds wsX0_bags := goodIn_r _ [60, 15, 89, 90, 91, 92, 93, 94, 95, 96, 97, 98, 99, 100, 101, 102, 103, 104, 105] (by decide +kernel) (by decide +kernel)
set_option maxRecDepth 20000 in
theorem gL_holds_X0_bags : GoodIn wsL_holds (wsV RL 46 RX0 yX0_bags wsX0_bags) := goodIn_app (goodIn_of _ (by decide +kernel)) ggL_holds_X0_bags
set_option maxRecDepth 20000 in
theorem ggL_holds_X0_placeOf : GoodIn wsL_holds wsX0_placeOf := goodIn_ca (goodIn_r _ [64, 16, 65, 66, 67, 4, 68, 13, 14, 15, 89, 90, 91, 92, 93, 94, 95, 96, 97, 98, 99, 100, 101, 102, 103, 104, 105] (by decide +kernel) (by decide +kernel)) (goodIn_sub (fun _ h => List.mem_cons_of_mem _ (List.mem_append_right _ h)) (by decide +kernel))
set_option maxRecDepth 20000 in
theorem gL_holds_X0_placeOf : GoodIn wsL_holds (wsV RL 50 RX0 yX0_placeOf wsX0_placeOf) := goodIn_app (goodIn_of _ (by decide +kernel)) ggL_holds_X0_placeOf
set_option maxRecDepth 20000 in
theorem ggL_holds_X0_time : GoodIn wsL_holds wsX0_time := goodIn_r _ [72, 47, 89, 90, 91, 92, 93, 94, 95, 96, 97, 98, 99, 100, 101, 102, 103, 104, 105] (by decide +kernel) (by decide +kernel)
set_option maxRecDepth 20000 in
theorem gL_holds_X0_time : GoodIn wsL_holds (wsV RL 53 RX0 yX0_time wsX0_time) := goodIn_app (goodIn_of _ (by decide +kernel)) ggL_holds_X0_time
set_option maxRecDepth 20000 in
theorem ggL_holds_X0_placeByScans : GoodIn wsL_holds wsX0_placeByScans := goodIn_ca (goodIn_ca (goodIn_r _ [76, 6, 7, 47, 77, 78, 79, 80, 65, 66, 67, 4, 68, 13, 14, 15, 89, 90, 91, 92, 93, 94, 95, 96, 97, 98, 99, 100, 101, 102, 103, 104, 105] (by decide +kernel) (by decide +kernel)) (goodIn_sub (fun _ h => List.mem_cons_of_mem _ (List.mem_append_left _ (List.mem_append_right _ h))) (by decide +kernel))) (goodIn_sub (fun _ h => List.mem_cons_of_mem _ (List.mem_append_right _ h)) (by decide +kernel))
set_option maxRecDepth 20000 in
theorem gL_holds_X0_placeByScans : GoodIn wsL_holds (wsV RL 56 RX0 yX0_placeByScans wsX0_placeByScans) := goodIn_app (goodIn_of _ (by decide +kernel)) ggL_holds_X0_placeByScans
set_option maxRecDepth 20000 in
theorem ggL_holds_X0_flightOf : GoodIn wsL_holds wsX0_flightOf := goodIn_ca (goodIn_r _ [84, 18, 65, 66, 67, 4, 68, 13, 14, 15, 89, 90, 91, 92, 93, 94, 95, 96, 97, 98, 99, 100, 101, 102, 103, 104, 105] (by decide +kernel) (by decide +kernel)) (goodIn_sub (fun _ h => List.mem_cons_of_mem _ (List.mem_append_right _ h)) (by decide +kernel))
set_option maxRecDepth 20000 in
theorem gL_holds_X0_flightOf : GoodIn wsL_holds (wsV RL 59 RX0 yX0_flightOf wsX0_flightOf) := goodIn_app (goodIn_of _ (by decide +kernel)) ggL_holds_X0_flightOf
set_option maxRecDepth 20000 in
theorem ggL_holds_X0_scans : GoodIn wsL_holds wsX0_scans := goodIn_r _ [88, 77, 89, 90, 91, 92, 93, 94, 95, 96, 97, 98, 99, 100, 101, 102, 103, 104, 105] (by decide +kernel) (by decide +kernel)
set_option maxRecDepth 20000 in
theorem gL_holds_X0_scans : GoodIn wsL_holds (wsV RL 62 RX0 yX0_scans wsX0_scans) := goodIn_app (goodIn_of _ (by decide +kernel)) ggL_holds_X0_scans
theorem dL_holds_0 : decode cL_holds 0 = .ok (.iconst 0, 1) := by decide +kernel
theorem dL_holds_1 : decode cL_holds 1 = .ok (.istore_n 2, 1) := by decide +kernel
theorem dL_holds_2 : decode cL_holds 2 = .ok (.iconst 1, 1) := by decide +kernel
theorem dL_holds_3 : decode cL_holds 3 = .ok (.istore_n 3, 1) := by decide +kernel
theorem dL_holds_4 : decode cL_holds 4 = .ok (.iconst 1, 1) := by decide +kernel
theorem dL_holds_5 : decode cL_holds 5 = .ok (.istore 4, 2) := by decide +kernel
theorem dL_holds_7 : decode cL_holds 7 = .ok (.iload 4, 2) := by decide +kernel
theorem dL_holds_9 : decode cL_holds 9 = .ok (.bipush 11, 2) := by decide +kernel
theorem dL_holds_11 : decode cL_holds 11 = .ok (.if_icmp .gt 18, 3) := by decide +kernel
theorem dL_holds_14 : decode cL_holds 14 = .ok (.iload_n 2, 1) := by decide +kernel
theorem dL_holds_15 : decode cL_holds 15 = .ok (.aload_n 0, 1) := by decide +kernel
theorem dL_holds_16 : decode cL_holds 16 = .ok (.iload 4, 2) := by decide +kernel
theorem dL_holds_18 : decode cL_holds 18 = .ok (.invokevirtual 31, 3) := by decide +kernel
theorem dL_holds_21 : decode cL_holds 21 = .ok (.iadd, 1) := by decide +kernel
theorem dL_holds_22 : decode cL_holds 22 = .ok (.istore_n 2, 1) := by decide +kernel
theorem dL_holds_23 : decode cL_holds 23 = .ok (.iinc 4 1, 3) := by decide +kernel
theorem dL_holds_26 : decode cL_holds 26 = .ok (.goto (-19), 3) := by decide +kernel
theorem dL_holds_29 : decode cL_holds 29 = .ok (.iconst 0, 1) := by decide +kernel
theorem dL_holds_30 : decode cL_holds 30 = .ok (.istore 4, 2) := by decide +kernel
theorem dL_holds_32 : decode cL_holds 32 = .ok (.iconst 0, 1) := by decide +kernel
theorem dL_holds_33 : decode cL_holds 33 = .ok (.istore 5, 2) := by decide +kernel
theorem dL_holds_35 : decode cL_holds 35 = .ok (.iload 5, 2) := by decide +kernel
theorem dL_holds_37 : decode cL_holds 37 = .ok (.iconst 4, 1) := by decide +kernel
theorem dL_holds_38 : decode cL_holds 38 = .ok (.if_icmp .ge 20, 3) := by decide +kernel
theorem dL_holds_41 : decode cL_holds 41 = .ok (.iload 4, 2) := by decide +kernel
theorem dL_holds_43 : decode cL_holds 43 = .ok (.aload_n 0, 1) := by decide +kernel
theorem dL_holds_44 : decode cL_holds 44 = .ok (.iload 5, 2) := by decide +kernel
theorem dL_holds_46 : decode cL_holds 46 = .ok (.invokevirtual 34, 3) := by decide +kernel
theorem dL_holds_49 : decode cL_holds 49 = .ok (.iadd, 1) := by decide +kernel
theorem dL_holds_50 : decode cL_holds 50 = .ok (.istore 4, 2) := by decide +kernel
theorem dL_holds_52 : decode cL_holds 52 = .ok (.iinc 5 1, 3) := by decide +kernel
theorem dL_holds_55 : decode cL_holds 55 = .ok (.goto (-20), 3) := by decide +kernel
theorem dL_holds_58 : decode cL_holds 58 = .ok (.iconst 0, 1) := by decide +kernel
theorem dL_holds_59 : decode cL_holds 59 = .ok (.istore 5, 2) := by decide +kernel
theorem dL_holds_61 : decode cL_holds 61 = .ok (.iconst 0, 1) := by decide +kernel
theorem dL_holds_62 : decode cL_holds 62 = .ok (.istore 6, 2) := by decide +kernel
theorem dL_holds_64 : decode cL_holds 64 = .ok (.iload 6, 2) := by decide +kernel
theorem dL_holds_66 : decode cL_holds 66 = .ok (.iload_n 1, 1) := by decide +kernel
theorem dL_holds_67 : decode cL_holds 67 = .ok (.if_icmp .ge 68, 3) := by decide +kernel
theorem dL_holds_70 : decode cL_holds 70 = .ok (.iload_n 3, 1) := by decide +kernel
theorem dL_holds_71 : decode cL_holds 71 = .ok (.ifCond .eq 64, 3) := by decide +kernel
theorem dL_holds_74 : decode cL_holds 74 = .ok (.aload_n 0, 1) := by decide +kernel
theorem dL_holds_75 : decode cL_holds 75 = .ok (.iload 6, 2) := by decide +kernel
theorem dL_holds_77 : decode cL_holds 77 = .ok (.invokevirtual 37, 3) := by decide +kernel
theorem dL_holds_80 : decode cL_holds 80 = .ok (.iconst (-1), 1) := by decide +kernel
theorem dL_holds_81 : decode cL_holds 81 = .ok (.if_icmp .lt 35, 3) := by decide +kernel
theorem dL_holds_84 : decode cL_holds 84 = .ok (.aload_n 0, 1) := by decide +kernel
theorem dL_holds_85 : decode cL_holds 85 = .ok (.iload 6, 2) := by decide +kernel
theorem dL_holds_87 : decode cL_holds 87 = .ok (.invokevirtual 37, 3) := by decide +kernel
theorem dL_holds_90 : decode cL_holds 90 = .ok (.iconst 3, 1) := by decide +kernel
theorem dL_holds_91 : decode cL_holds 91 = .ok (.if_icmp .gt 25, 3) := by decide +kernel
theorem dL_holds_94 : decode cL_holds 94 = .ok (.aload_n 0, 1) := by decide +kernel
theorem dL_holds_95 : decode cL_holds 95 = .ok (.iload 6, 2) := by decide +kernel
theorem dL_holds_97 : decode cL_holds 97 = .ok (.invokevirtual 40, 3) := by decide +kernel
theorem dL_holds_100 : decode cL_holds 100 = .ok (.ifCond .lt 16, 3) := by decide +kernel
theorem dL_holds_103 : decode cL_holds 103 = .ok (.aload_n 0, 1) := by decide +kernel
theorem dL_holds_104 : decode cL_holds 104 = .ok (.iload 6, 2) := by decide +kernel
theorem dL_holds_106 : decode cL_holds 106 = .ok (.invokevirtual 43, 3) := by decide +kernel
theorem dL_holds_109 : decode cL_holds 109 = .ok (.ifCond .lt 7, 3) := by decide +kernel
theorem dL_holds_112 : decode cL_holds 112 = .ok (.iconst 1, 1) := by decide +kernel
theorem dL_holds_113 : decode cL_holds 113 = .ok (.goto 4, 3) := by decide +kernel
theorem dL_holds_116 : decode cL_holds 116 = .ok (.iconst 0, 1) := by decide +kernel
theorem dL_holds_117 : decode cL_holds 117 = .ok (.istore_n 3, 1) := by decide +kernel
theorem dL_holds_118 : decode cL_holds 118 = .ok (.iload 5, 2) := by decide +kernel
theorem dL_holds_120 : decode cL_holds 120 = .ok (.aload_n 0, 1) := by decide +kernel
theorem dL_holds_121 : decode cL_holds 121 = .ok (.iload 6, 2) := by decide +kernel
theorem dL_holds_123 : decode cL_holds 123 = .ok (.invokevirtual 40, 3) := by decide +kernel
theorem dL_holds_126 : decode cL_holds 126 = .ok (.iadd, 1) := by decide +kernel
theorem dL_holds_127 : decode cL_holds 127 = .ok (.istore 5, 2) := by decide +kernel
theorem dL_holds_129 : decode cL_holds 129 = .ok (.iinc 6 1, 3) := by decide +kernel
theorem dL_holds_132 : decode cL_holds 132 = .ok (.goto (-68), 3) := by decide +kernel
theorem dL_holds_135 : decode cL_holds 135 = .ok (.iconst 0, 1) := by decide +kernel
theorem dL_holds_136 : decode cL_holds 136 = .ok (.istore 6, 2) := by decide +kernel
theorem dL_holds_138 : decode cL_holds 138 = .ok (.iload 6, 2) := by decide +kernel
theorem dL_holds_140 : decode cL_holds 140 = .ok (.aload_n 0, 1) := by decide +kernel
theorem dL_holds_141 : decode cL_holds 141 = .ok (.invokevirtual 46, 3) := by decide +kernel
theorem dL_holds_144 : decode cL_holds 144 = .ok (.if_icmp .ge 78, 3) := by decide +kernel
theorem dL_holds_147 : decode cL_holds 147 = .ok (.iload_n 3, 1) := by decide +kernel
theorem dL_holds_148 : decode cL_holds 148 = .ok (.ifCond .eq 74, 3) := by decide +kernel
theorem dL_holds_151 : decode cL_holds 151 = .ok (.aload_n 0, 1) := by decide +kernel
theorem dL_holds_152 : decode cL_holds 152 = .ok (.iload 6, 2) := by decide +kernel
theorem dL_holds_154 : decode cL_holds 154 = .ok (.invokevirtual 50, 3) := by decide +kernel
theorem dL_holds_157 : decode cL_holds 157 = .ok (.iconst 1, 1) := by decide +kernel
theorem dL_holds_158 : decode cL_holds 158 = .ok (.if_icmp .lt 56, 3) := by decide +kernel
theorem dL_holds_161 : decode cL_holds 161 = .ok (.aload_n 0, 1) := by decide +kernel
theorem dL_holds_162 : decode cL_holds 162 = .ok (.iload 6, 2) := by decide +kernel
theorem dL_holds_164 : decode cL_holds 164 = .ok (.invokevirtual 50, 3) := by decide +kernel
theorem dL_holds_167 : decode cL_holds 167 = .ok (.bipush 11, 2) := by decide +kernel
theorem dL_holds_169 : decode cL_holds 169 = .ok (.if_icmp .gt 45, 3) := by decide +kernel
theorem dL_holds_172 : decode cL_holds 172 = .ok (.aload_n 0, 1) := by decide +kernel
theorem dL_holds_173 : decode cL_holds 173 = .ok (.iload 6, 2) := by decide +kernel
theorem dL_holds_175 : decode cL_holds 175 = .ok (.aload_n 0, 1) := by decide +kernel
theorem dL_holds_176 : decode cL_holds 176 = .ok (.invokevirtual 53, 3) := by decide +kernel
theorem dL_holds_179 : decode cL_holds 179 = .ok (.invokevirtual 56, 3) := by decide +kernel
theorem dL_holds_182 : decode cL_holds 182 = .ok (.aload_n 0, 1) := by decide +kernel
theorem dL_holds_183 : decode cL_holds 183 = .ok (.iload 6, 2) := by decide +kernel
theorem dL_holds_185 : decode cL_holds 185 = .ok (.invokevirtual 50, 3) := by decide +kernel
theorem dL_holds_188 : decode cL_holds 188 = .ok (.if_icmp .ne 26, 3) := by decide +kernel
theorem dL_holds_191 : decode cL_holds 191 = .ok (.aload_n 0, 1) := by decide +kernel
theorem dL_holds_192 : decode cL_holds 192 = .ok (.iload 6, 2) := by decide +kernel
theorem dL_holds_194 : decode cL_holds 194 = .ok (.invokevirtual 59, 3) := by decide +kernel
theorem dL_holds_197 : decode cL_holds 197 = .ok (.ifCond .lt 17, 3) := by decide +kernel
theorem dL_holds_200 : decode cL_holds 200 = .ok (.aload_n 0, 1) := by decide +kernel
theorem dL_holds_201 : decode cL_holds 201 = .ok (.iload 6, 2) := by decide +kernel
theorem dL_holds_203 : decode cL_holds 203 = .ok (.invokevirtual 59, 3) := by decide +kernel
theorem dL_holds_206 : decode cL_holds 206 = .ok (.iload_n 1, 1) := by decide +kernel
theorem dL_holds_207 : decode cL_holds 207 = .ok (.if_icmp .ge 7, 3) := by decide +kernel
theorem dL_holds_210 : decode cL_holds 210 = .ok (.iconst 1, 1) := by decide +kernel
theorem dL_holds_211 : decode cL_holds 211 = .ok (.goto 4, 3) := by decide +kernel
theorem dL_holds_214 : decode cL_holds 214 = .ok (.iconst 0, 1) := by decide +kernel
theorem dL_holds_215 : decode cL_holds 215 = .ok (.istore_n 3, 1) := by decide +kernel
theorem dL_holds_216 : decode cL_holds 216 = .ok (.iinc 6 1, 3) := by decide +kernel
theorem dL_holds_219 : decode cL_holds 219 = .ok (.goto (-81), 3) := by decide +kernel
theorem dL_holds_222 : decode cL_holds 222 = .ok (.iload_n 3, 1) := by decide +kernel
theorem dL_holds_223 : decode cL_holds 223 = .ok (.ifCond .eq 58, 3) := by decide +kernel
theorem dL_holds_226 : decode cL_holds 226 = .ok (.iload_n 2, 1) := by decide +kernel
theorem dL_holds_227 : decode cL_holds 227 = .ok (.aload_n 0, 1) := by decide +kernel
theorem dL_holds_228 : decode cL_holds 228 = .ok (.invokevirtual 46, 3) := by decide +kernel
theorem dL_holds_231 : decode cL_holds 231 = .ok (.if_icmp .ne 50, 3) := by decide +kernel
theorem dL_holds_234 : decode cL_holds 234 = .ok (.aload_n 0, 1) := by decide +kernel
theorem dL_holds_235 : decode cL_holds 235 = .ok (.iconst 5, 1) := by decide +kernel
theorem dL_holds_236 : decode cL_holds 236 = .ok (.invokevirtual 31, 3) := by decide +kernel
theorem dL_holds_239 : decode cL_holds 239 = .ok (.bipush 8, 2) := by decide +kernel
theorem dL_holds_241 : decode cL_holds 241 = .ok (.if_icmp .gt 40, 3) := by decide +kernel
theorem dL_holds_244 : decode cL_holds 244 = .ok (.iload 4, 2) := by decide +kernel
theorem dL_holds_246 : decode cL_holds 246 = .ok (.aload_n 0, 1) := by decide +kernel
theorem dL_holds_247 : decode cL_holds 247 = .ok (.bipush 7, 2) := by decide +kernel
theorem dL_holds_249 : decode cL_holds 249 = .ok (.invokevirtual 31, 3) := by decide +kernel
theorem dL_holds_252 : decode cL_holds 252 = .ok (.if_icmp .ne 29, 3) := by decide +kernel
theorem dL_holds_255 : decode cL_holds 255 = .ok (.iload 5, 2) := by decide +kernel
theorem dL_holds_257 : decode cL_holds 257 = .ok (.aload_n 0, 1) := by decide +kernel
theorem dL_holds_258 : decode cL_holds 258 = .ok (.bipush 8, 2) := by decide +kernel
theorem dL_holds_260 : decode cL_holds 260 = .ok (.invokevirtual 31, 3) := by decide +kernel
theorem dL_holds_263 : decode cL_holds 263 = .ok (.if_icmp .gt 18, 3) := by decide +kernel
theorem dL_holds_266 : decode cL_holds 266 = .ok (.aload_n 0, 1) := by decide +kernel
theorem dL_holds_267 : decode cL_holds 267 = .ok (.invokevirtual 62, 3) := by decide +kernel
theorem dL_holds_270 : decode cL_holds 270 = .ok (.aload_n 0, 1) := by decide +kernel
theorem dL_holds_271 : decode cL_holds 271 = .ok (.invokevirtual 46, 3) := by decide +kernel
theorem dL_holds_274 : decode cL_holds 274 = .ok (.if_icmp .lt 7, 3) := by decide +kernel
theorem dL_holds_277 : decode cL_holds 277 = .ok (.iconst 1, 1) := by decide +kernel
theorem dL_holds_278 : decode cL_holds 278 = .ok (.goto 4, 3) := by decide +kernel
theorem dL_holds_281 : decode cL_holds 281 = .ok (.iconst 0, 1) := by decide +kernel
theorem dL_holds_282 : decode cL_holds 282 = .ok (.ireturn, 1) := by decide +kernel
set_option maxRecDepth 20000 in
theorem ggL_scanned_X0_scans : GoodIn wsL_scanned wsX0_scans := goodIn_r _ [5, 6, 33, 34, 35, 36, 37, 38, 39, 40, 41, 42, 43, 44, 45, 46, 47, 48, 49] (by decide +kernel) (by decide +kernel)
set_option maxRecDepth 20000 in
theorem gL_scanned_X0_scans : GoodIn wsL_scanned (wsV RL 62 RX0 yX0_scans wsX0_scans) := goodIn_app (goodIn_of _ (by decide +kernel)) ggL_scanned_X0_scans
set_option maxRecDepth 20000 in
theorem ggL_scanned_X0_bagOfScan : GoodIn wsL_scanned wsX0_bagOfScan := goodIn_ca (goodIn_r _ [10, 11, 12, 13, 14, 4, 15, 16, 17, 6, 33, 34, 35, 36, 37, 38, 39, 40, 41, 42, 43, 44, 45, 46, 47, 48, 49] (by decide +kernel) (by decide +kernel)) (goodIn_sub (fun _ h => List.mem_cons_of_mem _ (List.mem_append_right _ h)) (by decide +kernel))
set_option maxRecDepth 20000 in
theorem gL_scanned_X0_bagOfScan : GoodIn wsL_scanned (wsV RL 65 RX0 yX0_bagOfScan wsX0_bagOfScan) := goodIn_app (goodIn_of _ (by decide +kernel)) ggL_scanned_X0_bagOfScan
set_option maxRecDepth 20000 in
theorem ggL_scanned_X0_placeOfScan : GoodIn wsL_scanned wsX0_placeOfScan := goodIn_ca (goodIn_r _ [21, 22, 12, 13, 14, 4, 15, 16, 17, 6, 33, 34, 35, 36, 37, 38, 39, 40, 41, 42, 43, 44, 45, 46, 47, 48, 49] (by decide +kernel) (by decide +kernel)) (goodIn_sub (fun _ h => List.mem_cons_of_mem _ (List.mem_append_right _ h)) (by decide +kernel))
set_option maxRecDepth 20000 in
theorem gL_scanned_X0_placeOfScan : GoodIn wsL_scanned (wsV RL 68 RX0 yX0_placeOfScan wsX0_placeOfScan) := goodIn_app (goodIn_of _ (by decide +kernel)) ggL_scanned_X0_placeOfScan
set_option maxRecDepth 20000 in
theorem ggL_scanned_X0_placeOf : GoodIn wsL_scanned wsX0_placeOf := goodIn_ca (goodIn_r _ [26, 27, 28, 29, 30, 4, 31, 16, 17, 32, 33, 34, 35, 36, 37, 38, 39, 40, 41, 42, 43, 44, 45, 46, 47, 48, 49] (by decide +kernel) (by decide +kernel)) (goodIn_sub (fun _ h => List.mem_cons_of_mem _ (List.mem_append_right _ h)) (by decide +kernel))
set_option maxRecDepth 20000 in
theorem gL_scanned_X0_placeOf : GoodIn wsL_scanned (wsV RL 50 RX0 yX0_placeOf wsX0_placeOf) := goodIn_app (goodIn_of _ (by decide +kernel)) ggL_scanned_X0_placeOf
theorem dL_scanned_0 : decode cL_scanned 0 = .ok (.aload_n 0, 1) := by decide +kernel
theorem dL_scanned_1 : decode cL_scanned 1 = .ok (.invokevirtual 62, 3) := by decide +kernel
theorem dL_scanned_4 : decode cL_scanned 4 = .ok (.iload_n 1, 1) := by decide +kernel
theorem dL_scanned_5 : decode cL_scanned 5 = .ok (.iconst 1, 1) := by decide +kernel
theorem dL_scanned_6 : decode cL_scanned 6 = .ok (.iadd, 1) := by decide +kernel
theorem dL_scanned_7 : decode cL_scanned 7 = .ok (.if_icmp .ne 34, 3) := by decide +kernel
theorem dL_scanned_10 : decode cL_scanned 10 = .ok (.aload_n 0, 1) := by decide +kernel
theorem dL_scanned_11 : decode cL_scanned 11 = .ok (.iload_n 1, 1) := by decide +kernel
theorem dL_scanned_12 : decode cL_scanned 12 = .ok (.invokevirtual 65, 3) := by decide +kernel
theorem dL_scanned_15 : decode cL_scanned 15 = .ok (.iload_n 2, 1) := by decide +kernel
theorem dL_scanned_16 : decode cL_scanned 16 = .ok (.if_icmp .ne 25, 3) := by decide +kernel
theorem dL_scanned_19 : decode cL_scanned 19 = .ok (.aload_n 0, 1) := by decide +kernel
theorem dL_scanned_20 : decode cL_scanned 20 = .ok (.iload_n 1, 1) := by decide +kernel
theorem dL_scanned_21 : decode cL_scanned 21 = .ok (.invokevirtual 68, 3) := by decide +kernel
theorem dL_scanned_24 : decode cL_scanned 24 = .ok (.iload_n 3, 1) := by decide +kernel
theorem dL_scanned_25 : decode cL_scanned 25 = .ok (.if_icmp .ne 16, 3) := by decide +kernel
theorem dL_scanned_28 : decode cL_scanned 28 = .ok (.aload_n 0, 1) := by decide +kernel
theorem dL_scanned_29 : decode cL_scanned 29 = .ok (.iload_n 2, 1) := by decide +kernel
theorem dL_scanned_30 : decode cL_scanned 30 = .ok (.invokevirtual 50, 3) := by decide +kernel
theorem dL_scanned_33 : decode cL_scanned 33 = .ok (.iload_n 3, 1) := by decide +kernel
theorem dL_scanned_34 : decode cL_scanned 34 = .ok (.if_icmp .ne 7, 3) := by decide +kernel
theorem dL_scanned_37 : decode cL_scanned 37 = .ok (.iconst 1, 1) := by decide +kernel
theorem dL_scanned_38 : decode cL_scanned 38 = .ok (.goto 4, 3) := by decide +kernel
theorem dL_scanned_41 : decode cL_scanned 41 = .ok (.iconst 0, 1) := by decide +kernel
theorem dL_scanned_42 : decode cL_scanned 42 = .ok (.ireturn, 1) := by decide +kernel
set_option maxRecDepth 20000 in
theorem ggL_works_X0_bags : GoodIn wsL_works wsX0_bags := goodIn_r _ [5, 6, 148, 149, 150, 151, 152, 153, 154, 155, 156, 157, 158, 159, 160, 161, 162, 163, 164] (by decide +kernel) (by decide +kernel)
set_option maxRecDepth 20000 in
theorem gL_works_X0_bags : GoodIn wsL_works (wsV RL 46 RX0 yX0_bags wsX0_bags) := goodIn_app (goodIn_of _ (by decide +kernel)) ggL_works_X0_bags
set_option maxRecDepth 20000 in
theorem ggL_works_L_low : GoodIn wsL_works wsL_low := goodIn_r _ [10, 11] (by decide +kernel) (by decide +kernel)
set_option maxRecDepth 20000 in
theorem gL_works_L_low : GoodIn wsL_works (va_wsS RL 71 yL_low wsL_low) := goodIn_app (goodIn_of _ (by decide +kernel)) ggL_works_L_low
set_option maxRecDepth 20000 in
theorem ggL_works_X0_placeOf : GoodIn wsL_works wsX0_placeOf := goodIn_ca (goodIn_r _ [15, 16, 17, 18, 19, 4, 20, 21, 22, 6, 148, 149, 150, 151, 152, 153, 154, 155, 156, 157, 158, 159, 160, 161, 162, 163, 164] (by decide +kernel) (by decide +kernel)) (goodIn_sub (fun _ h => List.mem_cons_of_mem _ (List.mem_append_left _ (List.mem_append_left _ (List.mem_append_right _ h)))) (by decide +kernel))
set_option maxRecDepth 20000 in
theorem gL_works_X0_placeOf : GoodIn wsL_works (wsV RL 50 RX0 yX0_placeOf wsX0_placeOf) := goodIn_app (goodIn_of _ (by decide +kernel)) ggL_works_X0_placeOf
set_option maxRecDepth 20000 in
theorem ggL_works_X0_scans : GoodIn wsL_works wsX0_scans := goodIn_r _ [26, 27, 148, 149, 150, 151, 152, 153, 154, 155, 156, 157, 158, 159, 160, 161, 162, 163, 164] (by decide +kernel) (by decide +kernel)
set_option maxRecDepth 20000 in
theorem gL_works_X0_scans : GoodIn wsL_works (wsV RL 62 RX0 yX0_scans wsX0_scans) := goodIn_app (goodIn_of _ (by decide +kernel)) ggL_works_X0_scans
set_option maxRecDepth 20000 in
theorem ggL_works_L_decide : GoodIn wsL_works wsL_decide := goodIn_ca (goodIn_ca (goodIn_r _ [30, 31, 32, 33, 34, 4, 35, 36, 37, 16, 38, 39, 17, 18, 19, 20, 21, 22, 6, 40, 41, 42, 43, 44, 45, 46, 47, 48, 49, 50, 51, 52, 53, 54, 55, 56, 57, 58, 59, 60, 61, 62, 63, 64, 65, 66, 67, 68, 69, 70, 71, 27, 72, 73, 74, 75, 76, 77, 78, 79, 80, 81, 148, 149, 150, 151, 152, 153, 154, 155, 156, 157, 158, 159, 160, 161, 162, 163, 164] (by decide +kernel) (by decide +kernel)) (goodIn_sub (fun _ h => List.mem_cons_of_mem _ (List.mem_append_left _ (List.mem_append_right _ h))) (by decide +kernel))) (goodIn_sub (fun _ h => List.mem_cons_of_mem _ (List.mem_append_left _ (List.mem_append_left _ (List.mem_append_right _ h)))) (by decide +kernel))
set_option maxRecDepth 20000 in
theorem gL_works_L_decide : GoodIn wsL_works (va_wsS RL 76 yL_decide wsL_decide) := goodIn_app (goodIn_of _ (by decide +kernel)) ggL_works_L_decide
set_option maxRecDepth 20000 in
theorem ggL_works_L_scanned : GoodIn wsL_works wsL_scanned := goodIn_ca (goodIn_r _ [84, 23, 24, 25, 4, 26, 27, 85, 86, 87, 88, 76, 89, 90, 91, 92, 21, 22, 93, 94, 95, 96, 77, 12, 13, 14, 15, 16, 17, 18, 19, 20, 6, 148, 149, 150, 151, 152, 153, 154, 155, 156, 157, 158, 159, 160, 161, 162, 163, 164] (by decide +kernel) (by decide +kernel)) (goodIn_sub (fun _ h => List.mem_cons_of_mem _ (List.mem_append_left _ (List.mem_append_left _ (List.mem_append_right _ h)))) (by decide +kernel))
set_option maxRecDepth 20000 in
theorem gL_works_L_scanned : GoodIn wsL_works (va_wsS RL 79 yL_scanned wsL_scanned) := goodIn_app (goodIn_of _ (by decide +kernel)) ggL_works_L_scanned
set_option maxRecDepth 20000 in
theorem ggL_works_X0_letGo : GoodIn wsL_works wsX0_letGo := goodIn_ca (goodIn_ca (goodIn_r _ [100, 16, 17, 18, 19, 4, 20, 21, 22, 6, 101, 102, 103, 104, 36, 37, 43, 44, 45, 46, 47, 48, 49, 50, 51, 52, 53, 54, 55, 56, 57, 38, 58, 59, 60, 61, 62, 63, 64, 65, 66, 67, 68, 69, 70, 39, 71, 27, 72, 73, 74, 75, 76, 77, 78, 148, 149, 150, 151, 152, 153, 154, 155, 156, 157, 158, 159, 160, 161, 162, 163, 164] (by decide +kernel) (by decide +kernel)) (goodIn_sub (fun _ h => List.mem_cons_of_mem _ (List.mem_append_left _ (List.mem_append_left _ (List.mem_append_right _ h)))) (by decide +kernel))) (goodIn_sub (fun _ h => List.mem_cons_of_mem _ (List.mem_append_left _ (List.mem_append_right _ h))) (by decide +kernel))
set_option maxRecDepth 20000 in
theorem gL_works_X0_letGo : GoodIn wsL_works (wsV RL 83 RX0 yX0_letGo wsX0_letGo) := goodIn_app (goodIn_of _ (by decide +kernel)) ggL_works_X0_letGo
set_option maxRecDepth 20000 in
theorem ggL_works_X0_load : GoodIn wsL_works wsX0_load := goodIn_ca (goodIn_ca (goodIn_r _ [108, 47, 17, 18, 19, 4, 20, 21, 22, 6, 101, 102, 103, 104, 36, 37, 16, 67, 68, 69, 70, 53, 39, 38, 71, 27, 72, 73, 74, 75, 76, 77, 78, 109, 110, 111, 112, 113, 114, 115, 116, 148, 149, 150, 151, 152, 153, 154, 155, 156, 157, 158, 159, 160, 161, 162, 163, 164] (by decide +kernel) (by decide +kernel)) (goodIn_sub (fun _ h => List.mem_cons_of_mem _ (List.mem_append_left _ (List.mem_append_left _ (List.mem_append_right _ h)))) (by decide +kernel))) (goodIn_sub (fun _ h => List.mem_cons_of_mem _ (List.mem_append_left _ (List.mem_append_right _ h))) (by decide +kernel))
set_option maxRecDepth 20000 in
theorem gL_works_X0_load : GoodIn wsL_works (wsV RL 86 RX0 yX0_load wsX0_load) := goodIn_app (goodIn_of _ (by decide +kernel)) ggL_works_X0_load
set_option maxRecDepth 20000 in
theorem ggL_works_X0_count : GoodIn wsL_works wsX0_count := goodIn_ca (goodIn_r _ [120, 121, 122, 53, 148, 149, 150, 151, 152, 153, 154, 155, 156, 157, 158, 159, 160, 161, 162, 163, 164] (by decide +kernel) (by decide +kernel)) (goodIn_sub (fun _ h => List.mem_cons_of_mem _ (List.mem_append_right _ h)) (by decide +kernel))
set_option maxRecDepth 20000 in
theorem gL_works_X0_count : GoodIn wsL_works (wsV RL 31 RX0 yX0_count wsX0_count) := goodIn_app (goodIn_of _ (by decide +kernel)) ggL_works_X0_count
set_option maxRecDepth 20000 in
theorem ggL_works_X0_offload : GoodIn wsL_works wsX0_offload := goodIn_ca (goodIn_ca (goodIn_r _ [126, 47, 17, 18, 19, 4, 20, 21, 22, 6, 101, 102, 103, 104, 36, 37, 16, 67, 68, 69, 70, 53, 39, 38, 71, 27, 72, 73, 74, 75, 76, 77, 78, 109, 110, 111, 112, 113, 114, 115, 116, 148, 149, 150, 151, 152, 153, 154, 155, 156, 157, 158, 159, 160, 161, 162, 163, 164] (by decide +kernel) (by decide +kernel)) (goodIn_sub (fun _ h => List.mem_cons_of_mem _ (List.mem_append_left _ (List.mem_append_left _ (List.mem_append_right _ h)))) (by decide +kernel))) (goodIn_sub (fun _ h => List.mem_cons_of_mem _ (List.mem_append_left _ (List.mem_append_right _ h))) (by decide +kernel))
set_option maxRecDepth 20000 in
theorem gL_works_X0_offload : GoodIn wsL_works (wsV RL 89 RX0 yX0_offload wsX0_offload) := goodIn_app (goodIn_of _ (by decide +kernel)) ggL_works_X0_offload
set_option maxRecDepth 20000 in
theorem ggL_works_L_sendOn : GoodIn wsL_works wsL_sendOn := goodIn_ca (goodIn_ca (goodIn_r _ [129, 31, 130, 131, 132, 4, 133, 36, 37, 16, 47, 134, 17, 18, 19, 20, 21, 22, 6, 135, 136, 137, 138, 139, 140, 141, 142, 143, 38, 62, 43, 44, 45, 46, 48, 49, 50, 51, 52, 53, 54, 55, 56, 57, 58, 59, 60, 61, 63, 64, 65, 66, 67, 68, 69, 70, 39, 71, 27, 72, 73, 74, 75, 76, 77, 78, 148, 149, 150, 151, 152, 153, 154, 155, 156, 157, 158, 159, 160, 161, 162, 163, 164] (by decide +kernel) (by decide +kernel)) (goodIn_sub (fun _ h => List.mem_cons_of_mem _ (List.mem_append_left _ (List.mem_append_right _ h))) (by decide +kernel))) (goodIn_sub (fun _ h => List.mem_cons_of_mem _ (List.mem_append_left _ (List.mem_append_left _ (List.mem_append_right _ h)))) (by decide +kernel))
set_option maxRecDepth 20000 in
theorem gL_works_L_sendOn : GoodIn wsL_works (va_wsS RL 92 yL_sendOn wsL_sendOn) := goodIn_app (goodIn_of _ (by decide +kernel)) ggL_works_L_sendOn
set_option maxRecDepth 20000 in
theorem ggL_works_X0_flightOf : GoodIn wsL_works wsX0_flightOf := goodIn_ca (goodIn_r _ [147, 47, 17, 18, 19, 4, 20, 21, 22, 6, 148, 149, 150, 151, 152, 153, 154, 155, 156, 157, 158, 159, 160, 161, 162, 163, 164] (by decide +kernel) (by decide +kernel)) (goodIn_sub (fun _ h => List.mem_cons_of_mem _ (List.mem_append_left _ (List.mem_append_left _ (List.mem_append_right _ h)))) (by decide +kernel))
set_option maxRecDepth 20000 in
theorem gL_works_X0_flightOf : GoodIn wsL_works (wsV RL 59 RX0 yX0_flightOf wsX0_flightOf) := goodIn_app (goodIn_of _ (by decide +kernel)) ggL_works_X0_flightOf
theorem dL_works_0 : decode cL_works 0 = .ok (.iload_n 1, 1) := by decide +kernel
theorem dL_works_1 : decode cL_works 1 = .ok (.iconst 5, 1) := by decide +kernel
theorem dL_works_2 : decode cL_works 2 = .ok (.ishr, 1) := by decide +kernel
theorem dL_works_3 : decode cL_works 3 = .ok (.aload_n 0, 1) := by decide +kernel
theorem dL_works_4 : decode cL_works 4 = .ok (.invokevirtual 46, 3) := by decide +kernel
theorem dL_works_7 : decode cL_works 7 = .ok (.invokestatic 71, 3) := by decide +kernel
theorem dL_works_10 : decode cL_works 10 = .ok (.istore_n 3, 1) := by decide +kernel
theorem dL_works_11 : decode cL_works 11 = .ok (.aload_n 0, 1) := by decide +kernel
theorem dL_works_12 : decode cL_works 12 = .ok (.iload_n 3, 1) := by decide +kernel
theorem dL_works_13 : decode cL_works 13 = .ok (.invokevirtual 50, 3) := by decide +kernel
theorem dL_works_16 : decode cL_works 16 = .ok (.istore 4, 2) := by decide +kernel
theorem dL_works_18 : decode cL_works 18 = .ok (.aload_n 0, 1) := by decide +kernel
theorem dL_works_19 : decode cL_works 19 = .ok (.invokevirtual 62, 3) := by decide +kernel
theorem dL_works_22 : decode cL_works 22 = .ok (.istore 5, 2) := by decide +kernel
theorem dL_works_24 : decode cL_works 24 = .ok (.iload 4, 2) := by decide +kernel
theorem dL_works_26 : decode cL_works 26 = .ok (.iconst 3, 1) := by decide +kernel
theorem dL_works_27 : decode cL_works 27 = .ok (.if_icmp .gt 113, 3) := by decide +kernel
theorem dL_works_30 : decode cL_works 30 = .ok (.iload_n 1, 1) := by decide +kernel
theorem dL_works_31 : decode cL_works 31 = .ok (.iconst 3, 1) := by decide +kernel
theorem dL_works_32 : decode cL_works 32 = .ok (.invokestatic 71, 3) := by decide +kernel
theorem dL_works_35 : decode cL_works 35 = .ok (.ifCond .le 7, 3) := by decide +kernel
theorem dL_works_38 : decode cL_works 38 = .ok (.iconst 1, 1) := by decide +kernel
theorem dL_works_39 : decode cL_works 39 = .ok (.goto 4, 3) := by decide +kernel
theorem dL_works_42 : decode cL_works 42 = .ok (.iconst 0, 1) := by decide +kernel
theorem dL_works_43 : decode cL_works 43 = .ok (.istore 6, 2) := by decide +kernel
theorem dL_works_45 : decode cL_works 45 = .ok (.aload_n 0, 1) := by decide +kernel
theorem dL_works_46 : decode cL_works 46 = .ok (.iload_n 3, 1) := by decide +kernel
theorem dL_works_47 : decode cL_works 47 = .ok (.iload 6, 2) := by decide +kernel
theorem dL_works_49 : decode cL_works 49 = .ok (.invokestatic 76, 3) := by decide +kernel
theorem dL_works_52 : decode cL_works 52 = .ok (.istore 7, 2) := by decide +kernel
theorem dL_works_54 : decode cL_works 54 = .ok (.iload 7, 2) := by decide +kernel
theorem dL_works_56 : decode cL_works 56 = .ok (.bipush (-3), 2) := by decide +kernel
theorem dL_works_58 : decode cL_works 58 = .ok (.if_icmp .ne 20, 3) := by decide +kernel
theorem dL_works_61 : decode cL_works 61 = .ok (.aload_n 0, 1) := by decide +kernel
theorem dL_works_62 : decode cL_works 62 = .ok (.invokevirtual 62, 3) := by decide +kernel
theorem dL_works_65 : decode cL_works 65 = .ok (.iload 5, 2) := by decide +kernel
theorem dL_works_67 : decode cL_works 67 = .ok (.if_icmp .ne 7, 3) := by decide +kernel
theorem dL_works_70 : decode cL_works 70 = .ok (.iconst 1, 1) := by decide +kernel
theorem dL_works_71 : decode cL_works 71 = .ok (.goto 68, 3) := by decide +kernel
theorem dL_works_74 : decode cL_works 74 = .ok (.iconst 0, 1) := by decide +kernel
theorem dL_works_75 : decode cL_works 75 = .ok (.goto 64, 3) := by decide +kernel
theorem dL_works_78 : decode cL_works 78 = .ok (.aload_n 0, 1) := by decide +kernel
theorem dL_works_79 : decode cL_works 79 = .ok (.iload 5, 2) := by decide +kernel
theorem dL_works_81 : decode cL_works 81 = .ok (.iload_n 3, 1) := by decide +kernel
theorem dL_works_82 : decode cL_works 82 = .ok (.iload 7, 2) := by decide +kernel
theorem dL_works_84 : decode cL_works 84 = .ok (.invokestatic 79, 3) := by decide +kernel
theorem dL_works_87 : decode cL_works 87 = .ok (.ifCond .eq 51, 3) := by decide +kernel
theorem dL_works_90 : decode cL_works 90 = .ok (.iload 6, 2) := by decide +kernel
theorem dL_works_92 : decode cL_works 92 = .ok (.ifCond .eq 33, 3) := by decide +kernel
theorem dL_works_95 : decode cL_works 95 = .ok (.iload 7, 2) := by decide +kernel
theorem dL_works_97 : decode cL_works 97 = .ok (.iconst 5, 1) := by decide +kernel
theorem dL_works_98 : decode cL_works 98 = .ok (.if_icmp .eq 36, 3) := by decide +kernel
theorem dL_works_101 : decode cL_works 101 = .ok (.iload 7, 2) := by decide +kernel
theorem dL_works_103 : decode cL_works 103 = .ok (.bipush 6, 2) := by decide +kernel
theorem dL_works_105 : decode cL_works 105 = .ok (.if_icmp .eq 29, 3) := by decide +kernel
theorem dL_works_108 : decode cL_works 108 = .ok (.iload 7, 2) := by decide +kernel
theorem dL_works_110 : decode cL_works 110 = .ok (.bipush 7, 2) := by decide +kernel
theorem dL_works_112 : decode cL_works 112 = .ok (.if_icmp .eq 22, 3) := by decide +kernel
theorem dL_works_115 : decode cL_works 115 = .ok (.iload 7, 2) := by decide +kernel
theorem dL_works_117 : decode cL_works 117 = .ok (.bipush 11, 2) := by decide +kernel
theorem dL_works_119 : decode cL_works 119 = .ok (.if_icmp .ne 19, 3) := by decide +kernel
theorem dL_works_122 : decode cL_works 122 = .ok (.goto 12, 3) := by decide +kernel
theorem dL_works_125 : decode cL_works 125 = .ok (.iload 7, 2) := by decide +kernel
theorem dL_works_127 : decode cL_works 127 = .ok (.iload 4, 2) := by decide +kernel
theorem dL_works_129 : decode cL_works 129 = .ok (.iconst 1, 1) := by decide +kernel
theorem dL_works_130 : decode cL_works 130 = .ok (.iadd, 1) := by decide +kernel
theorem dL_works_131 : decode cL_works 131 = .ok (.if_icmp .ne 7, 3) := by decide +kernel
theorem dL_works_134 : decode cL_works 134 = .ok (.iconst 1, 1) := by decide +kernel
theorem dL_works_135 : decode cL_works 135 = .ok (.goto 4, 3) := by decide +kernel
theorem dL_works_138 : decode cL_works 138 = .ok (.iconst 0, 1) := by decide +kernel
theorem dL_works_139 : decode cL_works 139 = .ok (.ireturn, 1) := by decide +kernel
theorem dL_works_140 : decode cL_works 140 = .ok (.iload 4, 2) := by decide +kernel
theorem dL_works_142 : decode cL_works 142 = .ok (.iconst 4, 1) := by decide +kernel
theorem dL_works_143 : decode cL_works 143 = .ok (.if_icmp .ne 16, 3) := by decide +kernel
theorem dL_works_146 : decode cL_works 146 = .ok (.aload_n 0, 1) := by decide +kernel
theorem dL_works_147 : decode cL_works 147 = .ok (.iload 5, 2) := by decide +kernel
theorem dL_works_149 : decode cL_works 149 = .ok (.iload_n 3, 1) := by decide +kernel
theorem dL_works_150 : decode cL_works 150 = .ok (.aload_n 0, 1) := by decide +kernel
theorem dL_works_151 : decode cL_works 151 = .ok (.iload_n 3, 1) := by decide +kernel
theorem dL_works_152 : decode cL_works 152 = .ok (.invokevirtual 83, 3) := by decide +kernel
theorem dL_works_155 : decode cL_works 155 = .ok (.invokestatic 79, 3) := by decide +kernel
theorem dL_works_158 : decode cL_works 158 = .ok (.ireturn, 1) := by decide +kernel
theorem dL_works_159 : decode cL_works 159 = .ok (.iload 4, 2) := by decide +kernel
theorem dL_works_161 : decode cL_works 161 = .ok (.bipush 7, 2) := by decide +kernel
theorem dL_works_163 : decode cL_works 163 = .ok (.if_icmp .ne 45, 3) := by decide +kernel
theorem dL_works_166 : decode cL_works 166 = .ok (.aload_n 0, 1) := by decide +kernel
theorem dL_works_167 : decode cL_works 167 = .ok (.iload_n 3, 1) := by decide +kernel
theorem dL_works_168 : decode cL_works 168 = .ok (.invokevirtual 86, 3) := by decide +kernel
theorem dL_works_171 : decode cL_works 171 = .ok (.istore 6, 2) := by decide +kernel
theorem dL_works_173 : decode cL_works 173 = .ok (.iload 6, 2) := by decide +kernel
theorem dL_works_175 : decode cL_works 175 = .ok (.iconst 1, 1) := by decide +kernel
theorem dL_works_176 : decode cL_works 176 = .ok (.if_icmp .lt 30, 3) := by decide +kernel
theorem dL_works_179 : decode cL_works 179 = .ok (.iload 6, 2) := by decide +kernel
theorem dL_works_181 : decode cL_works 181 = .ok (.aload_n 0, 1) := by decide +kernel
theorem dL_works_182 : decode cL_works 182 = .ok (.bipush 8, 2) := by decide +kernel
theorem dL_works_184 : decode cL_works 184 = .ok (.invokevirtual 31, 3) := by decide +kernel
theorem dL_works_187 : decode cL_works 187 = .ok (.if_icmp .gt 19, 3) := by decide +kernel
theorem dL_works_190 : decode cL_works 190 = .ok (.aload_n 0, 1) := by decide +kernel
theorem dL_works_191 : decode cL_works 191 = .ok (.iload 5, 2) := by decide +kernel
theorem dL_works_193 : decode cL_works 193 = .ok (.iload_n 3, 1) := by decide +kernel
theorem dL_works_194 : decode cL_works 194 = .ok (.bipush 8, 2) := by decide +kernel
theorem dL_works_196 : decode cL_works 196 = .ok (.invokestatic 79, 3) := by decide +kernel
theorem dL_works_199 : decode cL_works 199 = .ok (.ifCond .eq 7, 3) := by decide +kernel
theorem dL_works_202 : decode cL_works 202 = .ok (.iconst 1, 1) := by decide +kernel
theorem dL_works_203 : decode cL_works 203 = .ok (.goto 4, 3) := by decide +kernel
theorem dL_works_206 : decode cL_works 206 = .ok (.iconst 0, 1) := by decide +kernel
theorem dL_works_207 : decode cL_works 207 = .ok (.ireturn, 1) := by decide +kernel
theorem dL_works_208 : decode cL_works 208 = .ok (.iload 4, 2) := by decide +kernel
theorem dL_works_210 : decode cL_works 210 = .ok (.bipush 8, 2) := by decide +kernel
theorem dL_works_212 : decode cL_works 212 = .ok (.if_icmp .ne 37, 3) := by decide +kernel
theorem dL_works_215 : decode cL_works 215 = .ok (.iload_n 1, 1) := by decide +kernel
theorem dL_works_216 : decode cL_works 216 = .ok (.iconst 4, 1) := by decide +kernel
theorem dL_works_217 : decode cL_works 217 = .ok (.invokestatic 71, 3) := by decide +kernel
theorem dL_works_220 : decode cL_works 220 = .ok (.ifCond .ne 29, 3) := by decide +kernel
theorem dL_works_223 : decode cL_works 223 = .ok (.aload_n 0, 1) := by decide +kernel
theorem dL_works_224 : decode cL_works 224 = .ok (.iload_n 3, 1) := by decide +kernel
theorem dL_works_225 : decode cL_works 225 = .ok (.invokevirtual 89, 3) := by decide +kernel
theorem dL_works_228 : decode cL_works 228 = .ok (.ifCond .lt 19, 3) := by decide +kernel
theorem dL_works_231 : decode cL_works 231 = .ok (.aload_n 0, 1) := by decide +kernel
theorem dL_works_232 : decode cL_works 232 = .ok (.iload 5, 2) := by decide +kernel
theorem dL_works_234 : decode cL_works 234 = .ok (.iload_n 3, 1) := by decide +kernel
theorem dL_works_235 : decode cL_works 235 = .ok (.bipush 10, 2) := by decide +kernel
theorem dL_works_237 : decode cL_works 237 = .ok (.invokestatic 79, 3) := by decide +kernel
theorem dL_works_240 : decode cL_works 240 = .ok (.ifCond .eq 7, 3) := by decide +kernel
theorem dL_works_243 : decode cL_works 243 = .ok (.iconst 1, 1) := by decide +kernel
theorem dL_works_244 : decode cL_works 244 = .ok (.goto 4, 3) := by decide +kernel
theorem dL_works_247 : decode cL_works 247 = .ok (.iconst 0, 1) := by decide +kernel
theorem dL_works_248 : decode cL_works 248 = .ok (.ireturn, 1) := by decide +kernel
theorem dL_works_249 : decode cL_works 249 = .ok (.iload 4, 2) := by decide +kernel
theorem dL_works_251 : decode cL_works 251 = .ok (.bipush 9, 2) := by decide +kernel
theorem dL_works_253 : decode cL_works 253 = .ok (.if_icmp .le 84, 3) := by decide +kernel
theorem dL_works_256 : decode cL_works 256 = .ok (.iload_n 1, 1) := by decide +kernel
theorem dL_works_257 : decode cL_works 257 = .ok (.bipush 9, 2) := by decide +kernel
theorem dL_works_259 : decode cL_works 259 = .ok (.ishr, 1) := by decide +kernel
theorem dL_works_260 : decode cL_works 260 = .ok (.iload_n 2, 1) := by decide +kernel
theorem dL_works_261 : decode cL_works 261 = .ok (.invokestatic 71, 3) := by decide +kernel
theorem dL_works_264 : decode cL_works 264 = .ok (.istore 6, 2) := by decide +kernel
theorem dL_works_266 : decode cL_works 266 = .ok (.aload_n 0, 1) := by decide +kernel
theorem dL_works_267 : decode cL_works 267 = .ok (.iload_n 3, 1) := by decide +kernel
theorem dL_works_268 : decode cL_works 268 = .ok (.iload 6, 2) := by decide +kernel
theorem dL_works_270 : decode cL_works 270 = .ok (.invokestatic 92, 3) := by decide +kernel
theorem dL_works_273 : decode cL_works 273 = .ok (.istore 7, 2) := by decide +kernel
theorem dL_works_275 : decode cL_works 275 = .ok (.iload 7, 2) := by decide +kernel
theorem dL_works_277 : decode cL_works 277 = .ok (.bipush (-3), 2) := by decide +kernel
theorem dL_works_279 : decode cL_works 279 = .ok (.if_icmp .ne 30, 3) := by decide +kernel
theorem dL_works_282 : decode cL_works 282 = .ok (.aload_n 0, 1) := by decide +kernel
theorem dL_works_283 : decode cL_works 283 = .ok (.invokevirtual 62, 3) := by decide +kernel
theorem dL_works_286 : decode cL_works 286 = .ok (.iload 5, 2) := by decide +kernel
theorem dL_works_288 : decode cL_works 288 = .ok (.if_icmp .ne 17, 3) := by decide +kernel
theorem dL_works_291 : decode cL_works 291 = .ok (.aload_n 0, 1) := by decide +kernel
theorem dL_works_292 : decode cL_works 292 = .ok (.iload_n 3, 1) := by decide +kernel
theorem dL_works_293 : decode cL_works 293 = .ok (.invokevirtual 50, 3) := by decide +kernel
theorem dL_works_296 : decode cL_works 296 = .ok (.iload 4, 2) := by decide +kernel
theorem dL_works_298 : decode cL_works 298 = .ok (.if_icmp .ne 7, 3) := by decide +kernel
theorem dL_works_301 : decode cL_works 301 = .ok (.iconst 1, 1) := by decide +kernel
theorem dL_works_302 : decode cL_works 302 = .ok (.goto 34, 3) := by decide +kernel
theorem dL_works_305 : decode cL_works 305 = .ok (.iconst 0, 1) := by decide +kernel
theorem dL_works_306 : decode cL_works 306 = .ok (.goto 30, 3) := by decide +kernel
theorem dL_works_309 : decode cL_works 309 = .ok (.aload_n 0, 1) := by decide +kernel
theorem dL_works_310 : decode cL_works 310 = .ok (.iload 5, 2) := by decide +kernel
theorem dL_works_312 : decode cL_works 312 = .ok (.iload_n 3, 1) := by decide +kernel
theorem dL_works_313 : decode cL_works 313 = .ok (.iload 7, 2) := by decide +kernel
theorem dL_works_315 : decode cL_works 315 = .ok (.invokestatic 79, 3) := by decide +kernel
theorem dL_works_318 : decode cL_works 318 = .ok (.ifCond .eq 17, 3) := by decide +kernel
theorem dL_works_321 : decode cL_works 321 = .ok (.aload_n 0, 1) := by decide +kernel
theorem dL_works_322 : decode cL_works 322 = .ok (.iload_n 3, 1) := by decide +kernel
theorem dL_works_323 : decode cL_works 323 = .ok (.invokevirtual 59, 3) := by decide +kernel
theorem dL_works_326 : decode cL_works 326 = .ok (.iload 6, 2) := by decide +kernel
theorem dL_works_328 : decode cL_works 328 = .ok (.if_icmp .ne 7, 3) := by decide +kernel
theorem dL_works_331 : decode cL_works 331 = .ok (.iconst 1, 1) := by decide +kernel
theorem dL_works_332 : decode cL_works 332 = .ok (.goto 4, 3) := by decide +kernel
theorem dL_works_335 : decode cL_works 335 = .ok (.iconst 0, 1) := by decide +kernel
theorem dL_works_336 : decode cL_works 336 = .ok (.ireturn, 1) := by decide +kernel
theorem dL_works_337 : decode cL_works 337 = .ok (.iconst 1, 1) := by decide +kernel
theorem dL_works_338 : decode cL_works 338 = .ok (.ireturn, 1) := by decide +kernel
set_option maxRecDepth 20000 in
theorem ggL_law_X0_init : GoodIn wsL_law wsX0_init := goodIn_r _ [5, 6, 7, 8, 9, 10, 11, 12, 13, 14, 15, 16, 17, 18, 19, 20, 21, 22, 23, 274, 275, 276, 277, 278, 279, 280, 281, 282, 283, 284, 285, 286, 287, 288, 289, 290] (by decide +kernel) (by decide +kernel)
set_option maxRecDepth 20000 in
theorem gL_law_X0_init : GoodIn wsL_law (wsX0_init) := ggL_law_X0_init
set_option maxRecDepth 20000 in
theorem ggL_law_X0_time : GoodIn wsL_law wsX0_time := goodIn_r _ [27, 28, 274, 275, 276, 277, 278, 279, 280, 281, 282, 283, 284, 285, 286, 287, 288, 289, 290] (by decide +kernel) (by decide +kernel)
set_option maxRecDepth 20000 in
theorem gL_law_X0_time : GoodIn wsL_law (wsV RL 53 RX0 yX0_time wsX0_time) := goodIn_app (goodIn_of _ (by decide +kernel)) ggL_law_X0_time
set_option maxRecDepth 20000 in
theorem ggL_law_X0_bags : GoodIn wsL_law wsX0_bags := goodIn_r _ [32, 33, 274, 275, 276, 277, 278, 279, 280, 281, 282, 283, 284, 285, 286, 287, 288, 289, 290] (by decide +kernel) (by decide +kernel)
set_option maxRecDepth 20000 in
theorem gL_law_X0_bags : GoodIn wsL_law (wsV RL 46 RX0 yX0_bags wsX0_bags) := goodIn_app (goodIn_of _ (by decide +kernel)) ggL_law_X0_bags
set_option maxRecDepth 20000 in
theorem ggL_law_L_holds : GoodIn wsL_law wsL_holds := goodIn_ca (goodIn_ca (goodIn_r _ [37, 38, 39, 40, 2, 41, 42, 43, 20, 44, 45, 46, 47, 48, 49, 33, 17, 11, 14, 50, 51, 52, 53, 54, 55, 56, 57, 58, 59, 60, 61, 62, 63, 64, 65, 66, 67, 68, 69, 70, 16, 13, 15, 71, 72, 73, 74, 28, 75, 76, 77, 78, 79, 80, 81, 82, 10, 29, 30, 31, 32, 83, 84, 85, 86, 87, 88, 89, 90, 24, 25, 26, 27, 91, 92, 93, 94, 95, 21, 23, 22, 96, 97, 98, 99, 100, 101, 102, 103, 274, 275, 276, 277, 278, 279, 280, 281, 282, 283, 284, 285, 286, 287, 288, 289, 290] (by decide +kernel) (by decide +kernel)) (goodIn_sub (fun _ h => List.mem_append_left _ (List.mem_append_left _ (List.mem_append_right _ h))) (by decide +kernel))) (goodIn_sub (fun _ h => List.mem_append_left _ (List.mem_append_right _ h)) (by decide +kernel))
set_option maxRecDepth 20000 in
theorem gL_law_L_holds : GoodIn wsL_law (va_wsS RL 96 yL_holds wsL_holds) := goodIn_app (goodIn_of _ (by decide +kernel)) ggL_law_L_holds
set_option maxRecDepth 20000 in
theorem ggL_law_L_cell : GoodIn wsL_law wsL_cell := goodIn_r _ [106, 107] (by decide +kernel) (by decide +kernel)
set_option maxRecDepth 20000 in
theorem gL_law_L_cell : GoodIn wsL_law (va_wsS RL 100 yL_cell wsL_cell) := goodIn_app (goodIn_of _ (by decide +kernel)) ggL_law_L_cell
set_option maxRecDepth 20000 in
theorem ggL_law_L_low : GoodIn wsL_law wsL_low := goodIn_r _ [110, 111] (by decide +kernel) (by decide +kernel)
set_option maxRecDepth 20000 in
theorem gL_law_L_low : GoodIn wsL_law (va_wsS RL 71 yL_low wsL_low) := goodIn_app (goodIn_of _ (by decide +kernel)) ggL_law_L_low
set_option maxRecDepth 20000 in
theorem ggL_law_L_addFlight : GoodIn wsL_law wsL_addFlight := goodIn_ca (goodIn_ca (goodIn_r _ [114, 115, 116, 117, 118, 2, 119, 42, 43, 120, 121, 58, 28, 11, 10, 122, 123, 124, 125, 126, 127, 128, 129, 130, 131, 77, 132, 274, 275, 276, 277, 278, 279, 280, 281, 282, 283, 284, 285, 286, 287, 288, 289, 290] (by decide +kernel) (by decide +kernel)) (goodIn_sub (fun _ h => List.mem_append_left _ (List.mem_append_left _ (List.mem_append_right _ h))) (by decide +kernel))) (goodIn_sub (fun _ h => List.mem_append_right _ h) (by decide +kernel))
set_option maxRecDepth 20000 in
theorem gL_law_L_addFlight : GoodIn wsL_law (va_wsS RL 104 yL_addFlight wsL_addFlight) := goodIn_app (goodIn_of _ (by decide +kernel)) ggL_law_L_addFlight
set_option maxRecDepth 20000 in
theorem ggL_law_X0_scans : GoodIn wsL_law wsX0_scans := goodIn_r _ [103, 95, 274, 275, 276, 277, 278, 279, 280, 281, 282, 283, 284, 285, 286, 287, 288, 289, 290] (by decide +kernel) (by decide +kernel)
set_option maxRecDepth 20000 in
theorem gL_law_X0_scans : GoodIn wsL_law (wsV RL 62 RX0 yX0_scans wsX0_scans) := goodIn_app (goodIn_of _ (by decide +kernel)) ggL_law_X0_scans
set_option maxRecDepth 20000 in
theorem ggL_law_L_comes : GoodIn wsL_law wsL_comes := goodIn_ca (goodIn_ca (goodIn_r _ [135, 115, 136, 137, 138, 2, 139, 140, 141, 142, 143, 120, 121, 33, 14, 15, 17, 54, 55, 56, 57, 48, 49, 58, 144, 145, 146, 147, 148, 149, 150, 151, 28, 10, 152, 153, 154, 155, 156, 157, 158, 159, 11, 20, 160, 161, 162, 163, 79, 80, 81, 82, 164, 165, 166, 167, 168, 169, 170, 171, 19, 18, 95, 172, 173, 174, 175, 21, 22, 23, 176, 177, 178, 179, 274, 275, 276, 277, 278, 279, 280, 281, 282, 283, 284, 285, 286, 287, 288, 289, 290] (by decide +kernel) (by decide +kernel)) (goodIn_sub (fun _ h => List.mem_append_right _ h) (by decide +kernel))) (goodIn_sub (fun _ h => List.mem_append_left _ (List.mem_append_right _ h)) (by decide +kernel))
set_option maxRecDepth 20000 in
theorem gL_law_L_comes : GoodIn wsL_law (va_wsS RL 107 yL_comes wsL_comes) := goodIn_app (goodIn_of _ (by decide +kernel)) ggL_law_L_comes
set_option maxRecDepth 20000 in
theorem ggL_law_X0_placeOf : GoodIn wsL_law wsX0_placeOf := goodIn_ca (goodIn_r _ [86, 17, 87, 88, 89, 2, 90, 48, 49, 33, 274, 275, 276, 277, 278, 279, 280, 281, 282, 283, 284, 285, 286, 287, 288, 289, 290] (by decide +kernel) (by decide +kernel)) (goodIn_sub (fun _ h => List.mem_append_left _ (List.mem_append_right _ h)) (by decide +kernel))
set_option maxRecDepth 20000 in
theorem gL_law_X0_placeOf : GoodIn wsL_law (wsV RL 50 RX0 yX0_placeOf wsX0_placeOf) := goodIn_app (goodIn_of _ (by decide +kernel)) ggL_law_X0_placeOf
set_option maxRecDepth 20000 in
theorem ggL_law_L_scanned : GoodIn wsL_law wsL_scanned := goodIn_ca (goodIn_r _ [182, 100, 101, 102, 2, 103, 95, 183, 184, 185, 186, 21, 187, 188, 189, 190, 48, 49, 191, 192, 193, 194, 22, 83, 84, 85, 86, 17, 87, 88, 89, 90, 33, 274, 275, 276, 277, 278, 279, 280, 281, 282, 283, 284, 285, 286, 287, 288, 289, 290] (by decide +kernel) (by decide +kernel)) (goodIn_sub (fun _ h => List.mem_append_left _ (List.mem_append_right _ h)) (by decide +kernel))
set_option maxRecDepth 20000 in
theorem gL_law_L_scanned : GoodIn wsL_law (va_wsS RL 79 yL_scanned wsL_scanned) := goodIn_app (goodIn_of _ (by decide +kernel)) ggL_law_L_scanned
set_option maxRecDepth 20000 in
theorem ggL_law_L_works : GoodIn wsL_law wsL_works := goodIn_ca (goodIn_ca (goodIn_ca (goodIn_r _ [197, 29, 30, 31, 2, 32, 33, 108, 109, 36, 110, 111, 83, 84, 85, 86, 17, 87, 88, 89, 90, 48, 49, 100, 101, 102, 103, 95, 198, 199, 200, 115, 201, 202, 203, 204, 120, 121, 28, 19, 205, 206, 207, 152, 153, 154, 155, 14, 156, 157, 158, 159, 11, 20, 160, 161, 162, 163, 79, 80, 81, 82, 10, 164, 165, 166, 167, 168, 169, 170, 171, 18, 172, 173, 174, 175, 21, 22, 23, 208, 209, 210, 180, 181, 182, 183, 184, 185, 186, 187, 188, 189, 190, 191, 192, 193, 194, 211, 212, 213, 214, 215, 216, 217, 218, 219, 220, 221, 222, 223, 224, 225, 226, 63, 64, 65, 66, 38, 39, 40, 41, 42, 43, 227, 228, 229, 230, 231, 232, 233, 234, 235, 236, 237, 16, 54, 55, 56, 57, 58, 148, 149, 150, 151, 96, 97, 98, 99, 274, 275, 276, 277, 278, 279, 280, 281, 282, 283, 284, 285, 286, 287, 288, 289, 290] (by decide +kernel) (by decide +kernel)) (goodIn_sub (fun _ h => List.mem_append_left _ (List.mem_append_right _ h)) (by decide +kernel))) (goodIn_sub (fun _ h => List.mem_append_right _ h) (by decide +kernel))) (goodIn_sub (fun _ h => List.mem_append_left _ (List.mem_append_left _ (List.mem_append_right _ h))) (by decide +kernel))
set_option maxRecDepth 20000 in
theorem gL_law_L_works : GoodIn wsL_law (va_wsS RL 111 yL_works wsL_works) := goodIn_app (goodIn_of _ (by decide +kernel)) ggL_law_L_works
set_option maxRecDepth 20000 in
theorem ggL_law_X0_board : GoodIn wsL_law wsX0_board := goodIn_ca (goodIn_r _ [241, 13, 144, 145, 146, 2, 147, 48, 49, 274, 275, 276, 277, 278, 279, 280, 281, 282, 283, 284, 285, 286, 287, 288, 289, 290] (by decide +kernel) (by decide +kernel)) (goodIn_sub (fun _ h => List.mem_append_left _ (List.mem_append_right _ h)) (by decide +kernel))
set_option maxRecDepth 20000 in
theorem gL_law_X0_board : GoodIn wsL_law (wsV RL 115 RX0 yX0_board wsX0_board) := goodIn_app (goodIn_of _ (by decide +kernel)) ggL_law_X0_board
set_option maxRecDepth 20000 in
theorem ggL_law_X0_pass : GoodIn wsL_law wsX0_pass := goodIn_ca (goodIn_r _ [245, 42, 43, 95, 246, 247, 248, 2, 249, 28, 250, 251, 252, 253, 254, 255, 256, 257, 20, 33, 17, 14, 18, 164, 165, 166, 167, 10, 168, 169, 170, 171, 19, 172, 173, 174, 175, 21, 22, 23, 258, 259, 260, 261, 152, 153, 154, 155, 156, 157, 158, 159, 11, 160, 161, 162, 163, 79, 80, 81, 82, 262, 263, 264, 265, 58, 266, 267, 268, 269, 270, 271, 272, 273, 67, 68, 69, 70, 16, 13, 15, 274, 275, 276, 277, 278, 279, 280, 281, 282, 283, 284, 285, 286, 287, 288, 289, 290] (by decide +kernel) (by decide +kernel)) (goodIn_sub (fun _ h => List.mem_append_left _ (List.mem_append_left _ (List.mem_append_right _ h))) (by decide +kernel))
set_option maxRecDepth 20000 in
theorem gL_law_X0_pass : GoodIn wsL_law (wsV RL 119 RX0 yX0_pass wsX0_pass) := goodIn_app (goodIn_of _ (by decide +kernel)) ggL_law_X0_pass
theorem dL_law_0 : decode cL_law 0 = .ok (.new 10, 3) := by decide +kernel
theorem dL_law_3 : decode cL_law 3 = .ok (.dup, 1) := by decide +kernel
theorem dL_law_4 : decode cL_law 4 = .ok (.invokespecial 95, 3) := by decide +kernel
theorem dL_law_7 : decode cL_law 7 = .ok (.astore_n 1, 1) := by decide +kernel
theorem dL_law_8 : decode cL_law 8 = .ok (.iconst 0, 1) := by decide +kernel
theorem dL_law_9 : decode cL_law 9 = .ok (.istore_n 2, 1) := by decide +kernel
theorem dL_law_10 : decode cL_law 10 = .ok (.aload_n 1, 1) := by decide +kernel
theorem dL_law_11 : decode cL_law 11 = .ok (.invokevirtual 53, 3) := by decide +kernel
theorem dL_law_14 : decode cL_law 14 = .ok (.ifCond .ne 22, 3) := by decide +kernel
theorem dL_law_17 : decode cL_law 17 = .ok (.aload_n 1, 1) := by decide +kernel
theorem dL_law_18 : decode cL_law 18 = .ok (.invokevirtual 46, 3) := by decide +kernel
theorem dL_law_21 : decode cL_law 21 = .ok (.ifCond .ne 15, 3) := by decide +kernel
theorem dL_law_24 : decode cL_law 24 = .ok (.aload_n 1, 1) := by decide +kernel
theorem dL_law_25 : decode cL_law 25 = .ok (.iconst 0, 1) := by decide +kernel
theorem dL_law_26 : decode cL_law 26 = .ok (.invokestatic 96, 3) := by decide +kernel
theorem dL_law_29 : decode cL_law 29 = .ok (.ifCond .eq 7, 3) := by decide +kernel
theorem dL_law_32 : decode cL_law 32 = .ok (.iconst 1, 1) := by decide +kernel
theorem dL_law_33 : decode cL_law 33 = .ok (.goto 4, 3) := by decide +kernel
theorem dL_law_36 : decode cL_law 36 = .ok (.iconst 0, 1) := by decide +kernel
theorem dL_law_37 : decode cL_law 37 = .ok (.istore_n 3, 1) := by decide +kernel
theorem dL_law_38 : decode cL_law 38 = .ok (.iconst 5, 1) := by decide +kernel
theorem dL_law_39 : decode cL_law 39 = .ok (.aload_n 0, 1) := by decide +kernel
theorem dL_law_40 : decode cL_law 40 = .ok (.iconst 0, 1) := by decide +kernel
theorem dL_law_41 : decode cL_law 41 = .ok (.invokestatic 100, 3) := by decide +kernel
theorem dL_law_44 : decode cL_law 44 = .ok (.bipush 55, 2) := by decide +kernel
theorem dL_law_46 : decode cL_law 46 = .ok (.invokestatic 71, 3) := by decide +kernel
theorem dL_law_49 : decode cL_law 49 = .ok (.iadd, 1) := by decide +kernel
theorem dL_law_50 : decode cL_law 50 = .ok (.istore 4, 2) := by decide +kernel
theorem dL_law_52 : decode cL_law 52 = .ok (.iconst 0, 1) := by decide +kernel
theorem dL_law_53 : decode cL_law 53 = .ok (.istore 5, 2) := by decide +kernel
theorem dL_law_55 : decode cL_law 55 = .ok (.iload 5, 2) := by decide +kernel
theorem dL_law_57 : decode cL_law 57 = .ok (.iload 4, 2) := by decide +kernel
theorem dL_law_59 : decode cL_law 59 = .ok (.if_icmp .ge 452, 3) := by decide +kernel
theorem dL_law_62 : decode cL_law 62 = .ok (.iload_n 3, 1) := by decide +kernel
theorem dL_law_63 : decode cL_law 63 = .ok (.ifCond .eq 448, 3) := by decide +kernel
theorem dL_law_66 : decode cL_law 66 = .ok (.aload_n 0, 1) := by decide +kernel
theorem dL_law_67 : decode cL_law 67 = .ok (.iconst 1, 1) := by decide +kernel
theorem dL_law_68 : decode cL_law 68 = .ok (.iload 5, 2) := by decide +kernel
theorem dL_law_70 : decode cL_law 70 = .ok (.iadd, 1) := by decide +kernel
theorem dL_law_71 : decode cL_law 71 = .ok (.invokestatic 100, 3) := by decide +kernel
theorem dL_law_74 : decode cL_law 74 = .ok (.istore 6, 2) := by decide +kernel
theorem dL_law_76 : decode cL_law 76 = .ok (.iload 6, 2) := by decide +kernel
theorem dL_law_78 : decode cL_law 78 = .ok (.bipush 20, 2) := by decide +kernel
theorem dL_law_80 : decode cL_law 80 = .ok (.ishr, 1) := by decide +kernel
theorem dL_law_81 : decode cL_law 81 = .ok (.bipush 14, 2) := by decide +kernel
theorem dL_law_83 : decode cL_law 83 = .ok (.invokestatic 71, 3) := by decide +kernel
theorem dL_law_86 : decode cL_law 86 = .ok (.istore 7, 2) := by decide +kernel
theorem dL_law_88 : decode cL_law 88 = .ok (.iload_n 2, 1) := by decide +kernel
theorem dL_law_89 : decode cL_law 89 = .ok (.ifCond .eq 9, 3) := by decide +kernel
theorem dL_law_92 : decode cL_law 92 = .ok (.iload 7, 2) := by decide +kernel
theorem dL_law_94 : decode cL_law 94 = .ok (.iconst 2, 1) := by decide +kernel
theorem dL_law_95 : decode cL_law 95 = .ok (.if_icmp .ge 87, 3) := by decide +kernel
theorem dL_law_98 : decode cL_law 98 = .ok (.aload_n 1, 1) := by decide +kernel
theorem dL_law_99 : decode cL_law 99 = .ok (.iconst 1, 1) := by decide +kernel
theorem dL_law_100 : decode cL_law 100 = .ok (.iload 6, 2) := by decide +kernel
theorem dL_law_102 : decode cL_law 102 = .ok (.iload 6, 2) := by decide +kernel
theorem dL_law_104 : decode cL_law 104 = .ok (.bipush 12, 2) := by decide +kernel
theorem dL_law_106 : decode cL_law 106 = .ok (.ishr, 1) := by decide +kernel
theorem dL_law_107 : decode cL_law 107 = .ok (.iconst 2, 1) := by decide +kernel
theorem dL_law_108 : decode cL_law 108 = .ok (.invokestatic 71, 3) := by decide +kernel
theorem dL_law_111 : decode cL_law 111 = .ok (.ifCond .ne 9, 3) := by decide +kernel
theorem dL_law_114 : decode cL_law 114 = .ok (.sipush 150, 3) := by decide +kernel
theorem dL_law_117 : decode cL_law 117 = .ok (.goto 5, 3) := by decide +kernel
theorem dL_law_120 : decode cL_law 120 = .ok (.bipush 90, 2) := by decide +kernel
theorem dL_law_122 : decode cL_law 122 = .ok (.invokestatic 71, 3) := by decide +kernel
theorem dL_law_125 : decode cL_law 125 = .ok (.iadd, 1) := by decide +kernel
theorem dL_law_126 : decode cL_law 126 = .ok (.invokestatic 104, 3) := by decide +kernel
theorem dL_law_129 : decode cL_law 129 = .ok (.istore 8, 2) := by decide +kernel
theorem dL_law_131 : decode cL_law 131 = .ok (.iload 8, 2) := by decide +kernel
theorem dL_law_133 : decode cL_law 133 = .ok (.bipush (-3), 2) := by decide +kernel
theorem dL_law_135 : decode cL_law 135 = .ok (.if_icmp .ne 17, 3) := by decide +kernel
theorem dL_law_138 : decode cL_law 138 = .ok (.iload_n 2, 1) := by decide +kernel
theorem dL_law_139 : decode cL_law 139 = .ok (.bipush 10, 2) := by decide +kernel
theorem dL_law_141 : decode cL_law 141 = .ok (.if_icmp .ne 7, 3) := by decide +kernel
theorem dL_law_144 : decode cL_law 144 = .ok (.iconst 1, 1) := by decide +kernel
theorem dL_law_145 : decode cL_law 145 = .ok (.goto 18, 3) := by decide +kernel
theorem dL_law_148 : decode cL_law 148 = .ok (.iconst 0, 1) := by decide +kernel
theorem dL_law_149 : decode cL_law 149 = .ok (.goto 14, 3) := by decide +kernel
theorem dL_law_152 : decode cL_law 152 = .ok (.iload 8, 2) := by decide +kernel
theorem dL_law_154 : decode cL_law 154 = .ok (.iload_n 2, 1) := by decide +kernel
theorem dL_law_155 : decode cL_law 155 = .ok (.if_icmp .ne 7, 3) := by decide +kernel
theorem dL_law_158 : decode cL_law 158 = .ok (.iconst 1, 1) := by decide +kernel
theorem dL_law_159 : decode cL_law 159 = .ok (.goto 4, 3) := by decide +kernel
theorem dL_law_162 : decode cL_law 162 = .ok (.iconst 0, 1) := by decide +kernel
theorem dL_law_163 : decode cL_law 163 = .ok (.istore_n 3, 1) := by decide +kernel
theorem dL_law_164 : decode cL_law 164 = .ok (.iload_n 2, 1) := by decide +kernel
theorem dL_law_165 : decode cL_law 165 = .ok (.iload 8, 2) := by decide +kernel
theorem dL_law_167 : decode cL_law 167 = .ok (.bipush (-3), 2) := by decide +kernel
theorem dL_law_169 : decode cL_law 169 = .ok (.if_icmp .ne 7, 3) := by decide +kernel
theorem dL_law_172 : decode cL_law 172 = .ok (.iconst 0, 1) := by decide +kernel
theorem dL_law_173 : decode cL_law 173 = .ok (.goto 4, 3) := by decide +kernel
theorem dL_law_176 : decode cL_law 176 = .ok (.iconst 1, 1) := by decide +kernel
theorem dL_law_177 : decode cL_law 177 = .ok (.iadd, 1) := by decide +kernel
theorem dL_law_178 : decode cL_law 178 = .ok (.istore_n 2, 1) := by decide +kernel
theorem dL_law_179 : decode cL_law 179 = .ok (.goto 308, 3) := by decide +kernel
theorem dL_law_182 : decode cL_law 182 = .ok (.iload 7, 2) := by decide +kernel
theorem dL_law_184 : decode cL_law 184 = .ok (.bipush 6, 2) := by decide +kernel
theorem dL_law_186 : decode cL_law 186 = .ok (.if_icmp .ge 132, 3) := by decide +kernel
theorem dL_law_189 : decode cL_law 189 = .ok (.aload_n 1, 1) := by decide +kernel
theorem dL_law_190 : decode cL_law 190 = .ok (.invokevirtual 46, 3) := by decide +kernel
theorem dL_law_193 : decode cL_law 193 = .ok (.istore 8, 2) := by decide +kernel
theorem dL_law_195 : decode cL_law 195 = .ok (.aload_n 1, 1) := by decide +kernel
theorem dL_law_196 : decode cL_law 196 = .ok (.invokevirtual 62, 3) := by decide +kernel
theorem dL_law_199 : decode cL_law 199 = .ok (.istore 9, 2) := by decide +kernel
theorem dL_law_201 : decode cL_law 201 = .ok (.aload_n 1, 1) := by decide +kernel
theorem dL_law_202 : decode cL_law 202 = .ok (.iload 6, 2) := by decide +kernel
theorem dL_law_204 : decode cL_law 204 = .ok (.iconst 3, 1) := by decide +kernel
theorem dL_law_205 : decode cL_law 205 = .ok (.ishr, 1) := by decide +kernel
theorem dL_law_206 : decode cL_law 206 = .ok (.iload_n 2, 1) := by decide +kernel
theorem dL_law_207 : decode cL_law 207 = .ok (.invokestatic 71, 3) := by decide +kernel
theorem dL_law_210 : decode cL_law 210 = .ok (.iload 6, 2) := by decide +kernel
theorem dL_law_212 : decode cL_law 212 = .ok (.bipush 7, 2) := by decide +kernel
theorem dL_law_214 : decode cL_law 214 = .ok (.ishr, 1) := by decide +kernel
theorem dL_law_215 : decode cL_law 215 = .ok (.bipush 40, 2) := by decide +kernel
theorem dL_law_217 : decode cL_law 217 = .ok (.invokestatic 71, 3) := by decide +kernel
theorem dL_law_220 : decode cL_law 220 = .ok (.iload 7, 2) := by decide +kernel
theorem dL_law_222 : decode cL_law 222 = .ok (.iconst 4, 1) := by decide +kernel
theorem dL_law_223 : decode cL_law 223 = .ok (.if_icmp .ge 7, 3) := by decide +kernel
theorem dL_law_226 : decode cL_law 226 = .ok (.iconst 1, 1) := by decide +kernel
theorem dL_law_227 : decode cL_law 227 = .ok (.goto 4, 3) := by decide +kernel
theorem dL_law_230 : decode cL_law 230 = .ok (.iconst 0, 1) := by decide +kernel
theorem dL_law_231 : decode cL_law 231 = .ok (.invokestatic 107, 3) := by decide +kernel
theorem dL_law_234 : decode cL_law 234 = .ok (.istore 10, 2) := by decide +kernel
theorem dL_law_236 : decode cL_law 236 = .ok (.iload 10, 2) := by decide +kernel
theorem dL_law_238 : decode cL_law 238 = .ok (.bipush (-3), 2) := by decide +kernel
theorem dL_law_240 : decode cL_law 240 = .ok (.if_icmp .ne 29, 3) := by decide +kernel
theorem dL_law_243 : decode cL_law 243 = .ok (.aload_n 1, 1) := by decide +kernel
theorem dL_law_244 : decode cL_law 244 = .ok (.invokevirtual 46, 3) := by decide +kernel
theorem dL_law_247 : decode cL_law 247 = .ok (.iload 8, 2) := by decide +kernel
theorem dL_law_249 : decode cL_law 249 = .ok (.if_icmp .ne 16, 3) := by decide +kernel
theorem dL_law_252 : decode cL_law 252 = .ok (.aload_n 1, 1) := by decide +kernel
theorem dL_law_253 : decode cL_law 253 = .ok (.invokevirtual 62, 3) := by decide +kernel
theorem dL_law_256 : decode cL_law 256 = .ok (.iload 9, 2) := by decide +kernel
theorem dL_law_258 : decode cL_law 258 = .ok (.if_icmp .ne 7, 3) := by decide +kernel
theorem dL_law_261 : decode cL_law 261 = .ok (.iconst 1, 1) := by decide +kernel
theorem dL_law_262 : decode cL_law 262 = .ok (.goto 52, 3) := by decide +kernel
theorem dL_law_265 : decode cL_law 265 = .ok (.iconst 0, 1) := by decide +kernel
theorem dL_law_266 : decode cL_law 266 = .ok (.goto 48, 3) := by decide +kernel
theorem dL_law_269 : decode cL_law 269 = .ok (.iload 10, 2) := by decide +kernel
theorem dL_law_271 : decode cL_law 271 = .ok (.iload 8, 2) := by decide +kernel
theorem dL_law_273 : decode cL_law 273 = .ok (.if_icmp .ne 40, 3) := by decide +kernel
theorem dL_law_276 : decode cL_law 276 = .ok (.aload_n 1, 1) := by decide +kernel
theorem dL_law_277 : decode cL_law 277 = .ok (.iload 9, 2) := by decide +kernel
theorem dL_law_279 : decode cL_law 279 = .ok (.iload 8, 2) := by decide +kernel
theorem dL_law_281 : decode cL_law 281 = .ok (.aload_n 1, 1) := by decide +kernel
theorem dL_law_282 : decode cL_law 282 = .ok (.iload 8, 2) := by decide +kernel
theorem dL_law_284 : decode cL_law 284 = .ok (.invokevirtual 50, 3) := by decide +kernel
theorem dL_law_287 : decode cL_law 287 = .ok (.invokestatic 79, 3) := by decide +kernel
theorem dL_law_290 : decode cL_law 290 = .ok (.ifCond .eq 23, 3) := by decide +kernel
theorem dL_law_293 : decode cL_law 293 = .ok (.iload 7, 2) := by decide +kernel
theorem dL_law_295 : decode cL_law 295 = .ok (.iconst 4, 1) := by decide +kernel
theorem dL_law_296 : decode cL_law 296 = .ok (.if_icmp .lt 13, 3) := by decide +kernel
theorem dL_law_299 : decode cL_law 299 = .ok (.aload_n 1, 1) := by decide +kernel
theorem dL_law_300 : decode cL_law 300 = .ok (.iload 8, 2) := by decide +kernel
theorem dL_law_302 : decode cL_law 302 = .ok (.invokevirtual 50, 3) := by decide +kernel
theorem dL_law_305 : decode cL_law 305 = .ok (.iconst 1, 1) := by decide +kernel
theorem dL_law_306 : decode cL_law 306 = .ok (.if_icmp .ne 7, 3) := by decide +kernel
theorem dL_law_309 : decode cL_law 309 = .ok (.iconst 1, 1) := by decide +kernel
theorem dL_law_310 : decode cL_law 310 = .ok (.goto 4, 3) := by decide +kernel
theorem dL_law_313 : decode cL_law 313 = .ok (.iconst 0, 1) := by decide +kernel
theorem dL_law_314 : decode cL_law 314 = .ok (.istore_n 3, 1) := by decide +kernel
theorem dL_law_315 : decode cL_law 315 = .ok (.goto 172, 3) := by decide +kernel
theorem dL_law_318 : decode cL_law 318 = .ok (.iload 7, 2) := by decide +kernel
theorem dL_law_320 : decode cL_law 320 = .ok (.bipush 10, 2) := by decide +kernel
theorem dL_law_322 : decode cL_law 322 = .ok (.if_icmp .ge 21, 3) := by decide +kernel
theorem dL_law_325 : decode cL_law 325 = .ok (.aload_n 1, 1) := by decide +kernel
theorem dL_law_326 : decode cL_law 326 = .ok (.invokevirtual 46, 3) := by decide +kernel
theorem dL_law_329 : decode cL_law 329 = .ok (.ifCond .le 14, 3) := by decide +kernel
theorem dL_law_332 : decode cL_law 332 = .ok (.aload_n 1, 1) := by decide +kernel
theorem dL_law_333 : decode cL_law 333 = .ok (.iload 6, 2) := by decide +kernel
theorem dL_law_335 : decode cL_law 335 = .ok (.iload_n 2, 1) := by decide +kernel
theorem dL_law_336 : decode cL_law 336 = .ok (.invokestatic 111, 3) := by decide +kernel
theorem dL_law_339 : decode cL_law 339 = .ok (.istore_n 3, 1) := by decide +kernel
theorem dL_law_340 : decode cL_law 340 = .ok (.goto 147, 3) := by decide +kernel
theorem dL_law_343 : decode cL_law 343 = .ok (.iload 7, 2) := by decide +kernel
theorem dL_law_345 : decode cL_law 345 = .ok (.bipush 11, 2) := by decide +kernel
theorem dL_law_347 : decode cL_law 347 = .ok (.if_icmp .ge 66, 3) := by decide +kernel
theorem dL_law_350 : decode cL_law 350 = .ok (.iload 6, 2) := by decide +kernel
theorem dL_law_352 : decode cL_law 352 = .ok (.iconst 2, 1) := by decide +kernel
theorem dL_law_353 : decode cL_law 353 = .ok (.invokestatic 71, 3) := by decide +kernel
theorem dL_law_356 : decode cL_law 356 = .ok (.ifCond .ne 7, 3) := by decide +kernel
theorem dL_law_359 : decode cL_law 359 = .ok (.iconst 1, 1) := by decide +kernel
theorem dL_law_360 : decode cL_law 360 = .ok (.goto 4, 3) := by decide +kernel
theorem dL_law_363 : decode cL_law 363 = .ok (.iconst 0, 1) := by decide +kernel
theorem dL_law_364 : decode cL_law 364 = .ok (.istore 8, 2) := by decide +kernel
theorem dL_law_366 : decode cL_law 366 = .ok (.aload_n 1, 1) := by decide +kernel
theorem dL_law_367 : decode cL_law 367 = .ok (.iload 6, 2) := by decide +kernel
theorem dL_law_369 : decode cL_law 369 = .ok (.bipush 7, 2) := by decide +kernel
theorem dL_law_371 : decode cL_law 371 = .ok (.ishr, 1) := by decide +kernel
theorem dL_law_372 : decode cL_law 372 = .ok (.bipush 40, 2) := by decide +kernel
theorem dL_law_374 : decode cL_law 374 = .ok (.invokestatic 71, 3) := by decide +kernel
theorem dL_law_377 : decode cL_law 377 = .ok (.iload 8, 2) := by decide +kernel
theorem dL_law_379 : decode cL_law 379 = .ok (.invokevirtual 115, 3) := by decide +kernel
theorem dL_law_382 : decode cL_law 382 = .ok (.pop, 1) := by decide +kernel
theorem dL_law_383 : decode cL_law 383 = .ok (.aload_n 1, 1) := by decide +kernel
theorem dL_law_384 : decode cL_law 384 = .ok (.iload 6, 2) := by decide +kernel
theorem dL_law_386 : decode cL_law 386 = .ok (.bipush 7, 2) := by decide +kernel
theorem dL_law_388 : decode cL_law 388 = .ok (.ishr, 1) := by decide +kernel
theorem dL_law_389 : decode cL_law 389 = .ok (.bipush 40, 2) := by decide +kernel
theorem dL_law_391 : decode cL_law 391 = .ok (.invokestatic 71, 3) := by decide +kernel
theorem dL_law_394 : decode cL_law 394 = .ok (.iload 8, 2) := by decide +kernel
theorem dL_law_396 : decode cL_law 396 = .ok (.invokevirtual 115, 3) := by decide +kernel
theorem dL_law_399 : decode cL_law 399 = .ok (.iload 8, 2) := by decide +kernel
theorem dL_law_401 : decode cL_law 401 = .ok (.if_icmp .ne 7, 3) := by decide +kernel
theorem dL_law_404 : decode cL_law 404 = .ok (.iconst 1, 1) := by decide +kernel
theorem dL_law_405 : decode cL_law 405 = .ok (.goto 4, 3) := by decide +kernel
theorem dL_law_408 : decode cL_law 408 = .ok (.iconst 0, 1) := by decide +kernel
theorem dL_law_409 : decode cL_law 409 = .ok (.istore_n 3, 1) := by decide +kernel
theorem dL_law_410 : decode cL_law 410 = .ok (.goto 77, 3) := by decide +kernel
theorem dL_law_413 : decode cL_law 413 = .ok (.aload_n 1, 1) := by decide +kernel
theorem dL_law_414 : decode cL_law 414 = .ok (.invokevirtual 53, 3) := by decide +kernel
theorem dL_law_417 : decode cL_law 417 = .ok (.istore 8, 2) := by decide +kernel
theorem dL_law_419 : decode cL_law 419 = .ok (.aload_n 1, 1) := by decide +kernel
theorem dL_law_420 : decode cL_law 420 = .ok (.invokevirtual 62, 3) := by decide +kernel
theorem dL_law_423 : decode cL_law 423 = .ok (.istore 9, 2) := by decide +kernel
theorem dL_law_425 : decode cL_law 425 = .ok (.iconst 1, 1) := by decide +kernel
theorem dL_law_426 : decode cL_law 426 = .ok (.iload 6, 2) := by decide +kernel
theorem dL_law_428 : decode cL_law 428 = .ok (.iload 6, 2) := by decide +kernel
theorem dL_law_430 : decode cL_law 430 = .ok (.bipush 9, 2) := by decide +kernel
theorem dL_law_432 : decode cL_law 432 = .ok (.ishr, 1) := by decide +kernel
theorem dL_law_433 : decode cL_law 433 = .ok (.iconst 3, 1) := by decide +kernel
theorem dL_law_434 : decode cL_law 434 = .ok (.invokestatic 71, 3) := by decide +kernel
theorem dL_law_437 : decode cL_law 437 = .ok (.ifCond .ne 8, 3) := by decide +kernel
theorem dL_law_440 : decode cL_law 440 = .ok (.bipush 60, 2) := by decide +kernel
theorem dL_law_442 : decode cL_law 442 = .ok (.goto 5, 3) := by decide +kernel
theorem dL_law_445 : decode cL_law 445 = .ok (.bipush 6, 2) := by decide +kernel
theorem dL_law_447 : decode cL_law 447 = .ok (.invokestatic 71, 3) := by decide +kernel
theorem dL_law_450 : decode cL_law 450 = .ok (.iadd, 1) := by decide +kernel
theorem dL_law_451 : decode cL_law 451 = .ok (.istore 10, 2) := by decide +kernel
theorem dL_law_453 : decode cL_law 453 = .ok (.aload_n 1, 1) := by decide +kernel
theorem dL_law_454 : decode cL_law 454 = .ok (.iload 10, 2) := by decide +kernel
theorem dL_law_456 : decode cL_law 456 = .ok (.invokevirtual 119, 3) := by decide +kernel
theorem dL_law_459 : decode cL_law 459 = .ok (.aload_n 1, 1) := by decide +kernel
theorem dL_law_460 : decode cL_law 460 = .ok (.invokevirtual 62, 3) := by decide +kernel
theorem dL_law_463 : decode cL_law 463 = .ok (.iload 9, 2) := by decide +kernel
theorem dL_law_465 : decode cL_law 465 = .ok (.isub, 1) := by decide +kernel
theorem dL_law_466 : decode cL_law 466 = .ok (.if_icmp .ne 19, 3) := by decide +kernel
theorem dL_law_469 : decode cL_law 469 = .ok (.aload_n 1, 1) := by decide +kernel
theorem dL_law_470 : decode cL_law 470 = .ok (.invokevirtual 53, 3) := by decide +kernel
theorem dL_law_473 : decode cL_law 473 = .ok (.iload 8, 2) := by decide +kernel
theorem dL_law_475 : decode cL_law 475 = .ok (.iload 10, 2) := by decide +kernel
theorem dL_law_477 : decode cL_law 477 = .ok (.iadd, 1) := by decide +kernel
theorem dL_law_478 : decode cL_law 478 = .ok (.if_icmp .ne 7, 3) := by decide +kernel
theorem dL_law_481 : decode cL_law 481 = .ok (.iconst 1, 1) := by decide +kernel
theorem dL_law_482 : decode cL_law 482 = .ok (.goto 4, 3) := by decide +kernel
theorem dL_law_485 : decode cL_law 485 = .ok (.iconst 0, 1) := by decide +kernel
theorem dL_law_486 : decode cL_law 486 = .ok (.istore_n 3, 1) := by decide +kernel
theorem dL_law_487 : decode cL_law 487 = .ok (.iload_n 3, 1) := by decide +kernel
theorem dL_law_488 : decode cL_law 488 = .ok (.ifCond .eq 15, 3) := by decide +kernel
theorem dL_law_491 : decode cL_law 491 = .ok (.aload_n 1, 1) := by decide +kernel
theorem dL_law_492 : decode cL_law 492 = .ok (.iload_n 2, 1) := by decide +kernel
theorem dL_law_493 : decode cL_law 493 = .ok (.invokestatic 96, 3) := by decide +kernel
theorem dL_law_496 : decode cL_law 496 = .ok (.ifCond .eq 7, 3) := by decide +kernel
theorem dL_law_499 : decode cL_law 499 = .ok (.iconst 1, 1) := by decide +kernel
theorem dL_law_500 : decode cL_law 500 = .ok (.goto 4, 3) := by decide +kernel
theorem dL_law_503 : decode cL_law 503 = .ok (.iconst 0, 1) := by decide +kernel
theorem dL_law_504 : decode cL_law 504 = .ok (.istore_n 3, 1) := by decide +kernel
theorem dL_law_505 : decode cL_law 505 = .ok (.iinc 5 1, 3) := by decide +kernel
theorem dL_law_508 : decode cL_law 508 = .ok (.goto (-453), 3) := by decide +kernel
theorem dL_law_511 : decode cL_law 511 = .ok (.iload_n 3, 1) := by decide +kernel
theorem dL_law_512 : decode cL_law 512 = .ok (.ireturn, 1) := by decide +kernel
abbrev vwCl : List vw_C := [(RX0, TX0, 17)]
