theorem dX1_addFlight_57 : decode cX1_addFlight 57 = .ok (.aload_n 0, 1) := by decide +kernel
theorem dX1_addFlight_58 : decode cX1_addFlight 58 = .ok (.getfield 41, 3) := by decide +kernel
theorem dX1_addFlight_61 : decode cX1_addFlight 61 = .ok (.if_icmp .ge 86, 3) := by decide +kernel
theorem dX1_addFlight_64 : decode cX1_addFlight 64 = .ok (.iload_n 2, 1) := by decide +kernel
theorem dX1_addFlight_65 : decode cX1_addFlight 65 = .ok (.iconst 4, 1) := by decide +kernel
theorem dX1_addFlight_66 : decode cX1_addFlight 66 = .ok (.if_icmp .ge 81, 3) := by decide +kernel
theorem dX1_addFlight_69 : decode cX1_addFlight 69 = .ok (.aload_n 0, 1) := by decide +kernel
theorem dX1_addFlight_70 : decode cX1_addFlight 70 = .ok (.getfield 7, 3) := by decide +kernel
theorem dX1_addFlight_73 : decode cX1_addFlight 73 = .ok (.aload_n 0, 1) := by decide +kernel
theorem dX1_addFlight_74 : decode cX1_addFlight 74 = .ok (.getfield 41, 3) := by decide +kernel
theorem dX1_addFlight_77 : decode cX1_addFlight 77 = .ok (.iaload, 1) := by decide +kernel
theorem dX1_addFlight_78 : decode cX1_addFlight 78 = .ok (.aload_n 0, 1) := by decide +kernel
theorem dX1_addFlight_79 : decode cX1_addFlight 79 = .ok (.getfield 7, 3) := by decide +kernel
theorem dX1_addFlight_82 : decode cX1_addFlight 82 = .ok (.iload_n 3, 1) := by decide +kernel
theorem dX1_addFlight_83 : decode cX1_addFlight 83 = .ok (.iaload, 1) := by decide +kernel
theorem dX1_addFlight_84 : decode cX1_addFlight 84 = .ok (.isub, 1) := by decide +kernel
theorem dX1_addFlight_85 : decode cX1_addFlight 85 = .ok (.istore 4, 2) := by decide +kernel
theorem dX1_addFlight_87 : decode cX1_addFlight 87 = .ok (.aload_n 0, 1) := by decide +kernel
theorem dX1_addFlight_88 : decode cX1_addFlight 88 = .ok (.getfield 13, 3) := by decide +kernel
theorem dX1_addFlight_91 : decode cX1_addFlight 91 = .ok (.iload_n 3, 1) := by decide +kernel
theorem dX1_addFlight_92 : decode cX1_addFlight 92 = .ok (.iaload, 1) := by decide +kernel
theorem dX1_addFlight_93 : decode cX1_addFlight 93 = .ok (.iload_n 2, 1) := by decide +kernel
theorem dX1_addFlight_94 : decode cX1_addFlight 94 = .ok (.if_icmp .ne 21, 3) := by decide +kernel
theorem dX1_addFlight_97 : decode cX1_addFlight 97 = .ok (.iload 4, 2) := by decide +kernel
theorem dX1_addFlight_99 : decode cX1_addFlight 99 = .ok (.bipush 60, 2) := by decide +kernel
theorem dX1_addFlight_101 : decode cX1_addFlight 101 = .ok (.if_icmp .ge 14, 3) := by decide +kernel
theorem dX1_addFlight_104 : decode cX1_addFlight 104 = .ok (.iload 4, 2) := by decide +kernel
theorem dX1_addFlight_106 : decode cX1_addFlight 106 = .ok (.bipush (-60), 2) := by decide +kernel
theorem dX1_addFlight_108 : decode cX1_addFlight 108 = .ok (.if_icmp .le 7, 3) := by decide +kernel
theorem dX1_addFlight_111 : decode cX1_addFlight 111 = .ok (.iconst 1, 1) := by decide +kernel
theorem dX1_addFlight_112 : decode cX1_addFlight 112 = .ok (.goto 4, 3) := by decide +kernel
theorem dX1_addFlight_115 : decode cX1_addFlight 115 = .ok (.iconst 0, 1) := by decide +kernel
theorem dX1_addFlight_116 : decode cX1_addFlight 116 = .ok (.istore 5, 2) := by decide +kernel
theorem dX1_addFlight_118 : decode cX1_addFlight 118 = .ok (.iload_n 2, 1) := by decide +kernel
theorem dX1_addFlight_119 : decode cX1_addFlight 119 = .ok (.iload 5, 2) := by decide +kernel
theorem dX1_addFlight_121 : decode cX1_addFlight 121 = .ok (.ifCond .eq 7, 3) := by decide +kernel
theorem dX1_addFlight_124 : decode cX1_addFlight 124 = .ok (.iconst 1, 1) := by decide +kernel
theorem dX1_addFlight_125 : decode cX1_addFlight 125 = .ok (.goto 4, 3) := by decide +kernel
theorem dX1_addFlight_128 : decode cX1_addFlight 128 = .ok (.iconst 0, 1) := by decide +kernel
theorem dX1_addFlight_129 : decode cX1_addFlight 129 = .ok (.iadd, 1) := by decide +kernel
theorem dX1_addFlight_130 : decode cX1_addFlight 130 = .ok (.istore_n 2, 1) := by decide +kernel
theorem dX1_addFlight_131 : decode cX1_addFlight 131 = .ok (.iload 5, 2) := by decide +kernel
theorem dX1_addFlight_133 : decode cX1_addFlight 133 = .ok (.ifCond .eq 7, 3) := by decide +kernel
theorem dX1_addFlight_136 : decode cX1_addFlight 136 = .ok (.iconst 0, 1) := by decide +kernel
theorem dX1_addFlight_137 : decode cX1_addFlight 137 = .ok (.goto 6, 3) := by decide +kernel
theorem dX1_addFlight_140 : decode cX1_addFlight 140 = .ok (.iload_n 3, 1) := by decide +kernel
theorem dX1_addFlight_141 : decode cX1_addFlight 141 = .ok (.iconst 1, 1) := by decide +kernel
theorem dX1_addFlight_142 : decode cX1_addFlight 142 = .ok (.iadd, 1) := by decide +kernel
theorem dX1_addFlight_143 : decode cX1_addFlight 143 = .ok (.istore_n 3, 1) := by decide +kernel
theorem dX1_addFlight_144 : decode cX1_addFlight 144 = .ok (.goto (-88), 3) := by decide +kernel
theorem dX1_addFlight_147 : decode cX1_addFlight 147 = .ok (.aload_n 0, 1) := by decide +kernel
theorem dX1_addFlight_148 : decode cX1_addFlight 148 = .ok (.getfield 13, 3) := by decide +kernel
theorem dX1_addFlight_151 : decode cX1_addFlight 151 = .ok (.aload_n 0, 1) := by decide +kernel
theorem dX1_addFlight_152 : decode cX1_addFlight 152 = .ok (.getfield 41, 3) := by decide +kernel
theorem dX1_addFlight_155 : decode cX1_addFlight 155 = .ok (.iload_n 2, 1) := by decide +kernel
theorem dX1_addFlight_156 : decode cX1_addFlight 156 = .ok (.iconst 4, 1) := by decide +kernel
theorem dX1_addFlight_157 : decode cX1_addFlight 157 = .ok (.if_icmp .ge 7, 3) := by decide +kernel
theorem dX1_addFlight_160 : decode cX1_addFlight 160 = .ok (.iload_n 2, 1) := by decide +kernel
theorem dX1_addFlight_161 : decode cX1_addFlight 161 = .ok (.goto 4, 3) := by decide +kernel
theorem dX1_addFlight_164 : decode cX1_addFlight 164 = .ok (.iconst (-1), 1) := by decide +kernel
theorem dX1_addFlight_165 : decode cX1_addFlight 165 = .ok (.iastore, 1) := by decide +kernel
theorem dX1_addFlight_166 : decode cX1_addFlight 166 = .ok (.aload_n 0, 1) := by decide +kernel
theorem dX1_addFlight_167 : decode cX1_addFlight 167 = .ok (.dup, 1) := by decide +kernel
theorem dX1_addFlight_168 : decode cX1_addFlight 168 = .ok (.getfield 41, 3) := by decide +kernel
theorem dX1_addFlight_171 : decode cX1_addFlight 171 = .ok (.iconst 1, 1) := by decide +kernel
theorem dX1_addFlight_172 : decode cX1_addFlight 172 = .ok (.iadd, 1) := by decide +kernel
theorem dX1_addFlight_173 : decode cX1_addFlight 173 = .ok (.putfield 41, 3) := by decide +kernel
theorem dX1_addFlight_176 : decode cX1_addFlight 176 = .ok (.aload_n 0, 1) := by decide +kernel
theorem dX1_addFlight_177 : decode cX1_addFlight 177 = .ok (.getfield 41, 3) := by decide +kernel
theorem dX1_addFlight_180 : decode cX1_addFlight 180 = .ok (.iconst 1, 1) := by decide +kernel
theorem dX1_addFlight_181 : decode cX1_addFlight 181 = .ok (.isub, 1) := by decide +kernel
theorem dX1_addFlight_182 : decode cX1_addFlight 182 = .ok (.ireturn, 1) := by decide +kernel
set_option maxRecDepth 20000 in
theorem ggX1_board_X1_in : GoodIn wsX1_board wsX1_in := goodIn_r _ [6] (by decide +kernel) (by decide +kernel)
set_option maxRecDepth 20000 in
theorem gX1_board_X1_in : GoodIn wsX1_board (va_wsS RX1 44 yX1_in wsX1_in) := goodIn_app (goodIn_of _ (by decide +kernel)) ggX1_board_X1_in
theorem dX1_board_0 : decode cX1_board 0 = .ok (.aload_n 0, 1) := by decide +kernel
theorem dX1_board_1 : decode cX1_board 1 = .ok (.iload_n 1, 1) := by decide +kernel
theorem dX1_board_2 : decode cX1_board 2 = .ok (.iconst 0, 1) := by decide +kernel
theorem dX1_board_3 : decode cX1_board 3 = .ok (.bipush 39, 2) := by decide +kernel
theorem dX1_board_5 : decode cX1_board 5 = .ok (.invokestatic 44, 3) := by decide +kernel
theorem dX1_board_8 : decode cX1_board 8 = .ok (.ifCond .eq 7, 3) := by decide +kernel
theorem dX1_board_11 : decode cX1_board 11 = .ok (.iconst 0, 1) := by decide +kernel
theorem dX1_board_12 : decode cX1_board 12 = .ok (.goto 4, 3) := by decide +kernel
theorem dX1_board_15 : decode cX1_board 15 = .ok (.iconst 1, 1) := by decide +kernel
theorem dX1_board_16 : decode cX1_board 16 = .ok (.putfield 37, 3) := by decide +kernel
theorem dX1_board_19 : decode cX1_board 19 = .ok (.aload_n 0, 1) := by decide +kernel
theorem dX1_board_20 : decode cX1_board 20 = .ok (.getfield 37, 3) := by decide +kernel
theorem dX1_board_23 : decode cX1_board 23 = .ok (.ifCond .le 5, 3) := by decide +kernel
theorem dX1_board_26 : decode cX1_board 26 = .ok (.iconst 0, 1) := by decide +kernel
theorem dX1_board_27 : decode cX1_board 27 = .ok (.ireturn, 1) := by decide +kernel
theorem dX1_board_28 : decode cX1_board 28 = .ok (.aload_n 0, 1) := by decide +kernel
theorem dX1_board_29 : decode cX1_board 29 = .ok (.getfield 16, 3) := by decide +kernel
theorem dX1_board_32 : decode cX1_board 32 = .ok (.iload_n 1, 1) := by decide +kernel
theorem dX1_board_33 : decode cX1_board 33 = .ok (.iaload, 1) := by decide +kernel
theorem dX1_board_34 : decode cX1_board 34 = .ok (.iconst 1, 1) := by decide +kernel
theorem dX1_board_35 : decode cX1_board 35 = .ok (.if_icmp .ne 7, 3) := by decide +kernel
theorem dX1_board_38 : decode cX1_board 38 = .ok (.iconst 1, 1) := by decide +kernel
theorem dX1_board_39 : decode cX1_board 39 = .ok (.goto 4, 3) := by decide +kernel
theorem dX1_board_42 : decode cX1_board 42 = .ok (.iconst 0, 1) := by decide +kernel
theorem dX1_board_43 : decode cX1_board 43 = .ok (.istore_n 3, 1) := by decide +kernel
theorem dX1_board_44 : decode cX1_board 44 = .ok (.aload_n 0, 1) := by decide +kernel
theorem dX1_board_45 : decode cX1_board 45 = .ok (.getfield 16, 3) := by decide +kernel
theorem dX1_board_48 : decode cX1_board 48 = .ok (.iload_n 1, 1) := by decide +kernel
theorem dX1_board_49 : decode cX1_board 49 = .ok (.iload_n 2, 1) := by decide +kernel
theorem dX1_board_50 : decode cX1_board 50 = .ok (.ifCond .eq 7, 3) := by decide +kernel
theorem dX1_board_53 : decode cX1_board 53 = .ok (.iconst 1, 1) := by decide +kernel
theorem dX1_board_54 : decode cX1_board 54 = .ok (.goto 4, 3) := by decide +kernel
theorem dX1_board_57 : decode cX1_board 57 = .ok (.iconst 0, 1) := by decide +kernel
theorem dX1_board_58 : decode cX1_board 58 = .ok (.iastore, 1) := by decide +kernel
theorem dX1_board_59 : decode cX1_board 59 = .ok (.iload_n 3, 1) := by decide +kernel
theorem dX1_board_60 : decode cX1_board 60 = .ok (.ireturn, 1) := by decide +kernel
set_option maxRecDepth 20000 in
theorem ggX1_pass_X1_in : GoodIn wsX1_pass wsX1_in := goodIn_r _ [6] (by decide +kernel) (by decide +kernel)
set_option maxRecDepth 20000 in
theorem gX1_pass_X1_in : GoodIn wsX1_pass (va_wsS RX1 44 yX1_in wsX1_in) := goodIn_app (goodIn_of _ (by decide +kernel)) ggX1_pass_X1_in
set_option maxRecDepth 20000 in
theorem ggX1_pass_X1_minute : GoodIn wsX1_pass wsX1_minute := goodIn_r _ [10, 11, 12, 13, 14, 15, 16, 17, 18, 5, 19, 20, 21, 22, 23, 24, 25, 2, 26, 27, 28, 29, 30, 31, 32, 33, 34, 35, 36, 37, 38, 39, 40, 41, 42, 43, 44, 45, 46, 47, 48, 49, 50, 51, 52, 53, 54, 55, 56, 57, 58, 59, 60, 61, 62, 63, 64] (by decide +kernel) (by decide +kernel)
set_option maxRecDepth 20000 in
theorem gX1_pass_X1_minute : GoodIn wsX1_pass (wsV RX1 86 RX1 yX1_minute wsX1_minute) := goodIn_app (goodIn_of _ (by decide +kernel)) ggX1_pass_X1_minute
theorem dX1_pass_0 : decode cX1_pass 0 = .ok (.aload_n 0, 1) := by decide +kernel
theorem dX1_pass_1 : decode cX1_pass 1 = .ok (.iload_n 1, 1) := by decide +kernel
theorem dX1_pass_2 : decode cX1_pass 2 = .ok (.iconst 1, 1) := by decide +kernel
theorem dX1_pass_3 : decode cX1_pass 3 = .ok (.sipush 200, 3) := by decide +kernel
theorem dX1_pass_6 : decode cX1_pass 6 = .ok (.invokestatic 44, 3) := by decide +kernel
theorem dX1_pass_9 : decode cX1_pass 9 = .ok (.ifCond .eq 7, 3) := by decide +kernel
theorem dX1_pass_12 : decode cX1_pass 12 = .ok (.iconst 0, 1) := by decide +kernel
theorem dX1_pass_13 : decode cX1_pass 13 = .ok (.goto 4, 3) := by decide +kernel
theorem dX1_pass_16 : decode cX1_pass 16 = .ok (.iconst 1, 1) := by decide +kernel
theorem dX1_pass_17 : decode cX1_pass 17 = .ok (.putfield 37, 3) := by decide +kernel
theorem dX1_pass_20 : decode cX1_pass 20 = .ok (.aload_n 0, 1) := by decide +kernel
theorem dX1_pass_21 : decode cX1_pass 21 = .ok (.getfield 51, 3) := by decide +kernel
theorem dX1_pass_24 : decode cX1_pass 24 = .ok (.istore_n 2, 1) := by decide +kernel
theorem dX1_pass_25 : decode cX1_pass 25 = .ok (.iconst 0, 1) := by decide +kernel
theorem dX1_pass_26 : decode cX1_pass 26 = .ok (.istore_n 3, 1) := by decide +kernel
theorem dX1_pass_27 : decode cX1_pass 27 = .ok (.iload_n 3, 1) := by decide +kernel
theorem dX1_pass_28 : decode cX1_pass 28 = .ok (.iload_n 1, 1) := by decide +kernel
theorem dX1_pass_29 : decode cX1_pass 29 = .ok (.if_icmp .ge 20, 3) := by decide +kernel
theorem dX1_pass_32 : decode cX1_pass 32 = .ok (.aload_n 0, 1) := by decide +kernel
theorem dX1_pass_33 : decode cX1_pass 33 = .ok (.getfield 37, 3) := by decide +kernel
theorem dX1_pass_36 : decode cX1_pass 36 = .ok (.ifCond .ne 13, 3) := by decide +kernel
theorem dX1_pass_39 : decode cX1_pass 39 = .ok (.aload_n 0, 1) := by decide +kernel
theorem dX1_pass_40 : decode cX1_pass 40 = .ok (.invokevirtual 86, 3) := by decide +kernel
theorem dX1_pass_43 : decode cX1_pass 43 = .ok (.iinc 3 1, 3) := by decide +kernel
theorem dX1_pass_46 : decode cX1_pass 46 = .ok (.goto (-19), 3) := by decide +kernel
theorem dX1_pass_49 : decode cX1_pass 49 = .ok (.aload_n 0, 1) := by decide +kernel
theorem dX1_pass_50 : decode cX1_pass 50 = .ok (.getfield 51, 3) := by decide +kernel
theorem dX1_pass_53 : decode cX1_pass 53 = .ok (.iload_n 2, 1) := by decide +kernel
theorem dX1_pass_54 : decode cX1_pass 54 = .ok (.isub, 1) := by decide +kernel
theorem dX1_pass_55 : decode cX1_pass 55 = .ok (.ireturn, 1) := by decide +kernel
theorem dX1_time_0 : decode cX1_time 0 = .ok (.aload_n 0, 1) := by decide +kernel
theorem dX1_time_1 : decode cX1_time 1 = .ok (.iconst 0, 1) := by decide +kernel
theorem dX1_time_2 : decode cX1_time 2 = .ok (.putfield 37, 3) := by decide +kernel
theorem dX1_time_5 : decode cX1_time 5 = .ok (.aload_n 0, 1) := by decide +kernel
theorem dX1_time_6 : decode cX1_time 6 = .ok (.getfield 54, 3) := by decide +kernel
theorem dX1_time_9 : decode cX1_time 9 = .ok (.ireturn, 1) := by decide +kernel
set_option maxRecDepth 20000 in
theorem ggX1_lateralOf_X1_isFlight : GoodIn wsX1_lateralOf wsX1_isFlight := goodIn_r _ [6, 7, 8, 9, 10, 5, 11, 12, 13, 14, 15, 16, 17, 18, 19, 20, 21, 22, 23, 24, 25] (by decide +kernel) (by decide +kernel)
set_option maxRecDepth 20000 in
theorem gX1_lateralOf_X1_isFlight : GoodIn wsX1_lateralOf (wsV RX1 89 RX1 yX1_isFlight wsX1_isFlight) := goodIn_app (goodIn_of _ (by decide +kernel)) ggX1_lateralOf_X1_isFlight
theorem dX1_lateralOf_0 : decode cX1_lateralOf 0 = .ok (.aload_n 0, 1) := by decide +kernel
theorem dX1_lateralOf_1 : decode cX1_lateralOf 1 = .ok (.iload_n 1, 1) := by decide +kernel
theorem dX1_lateralOf_2 : decode cX1_lateralOf 2 = .ok (.invokevirtual 89, 3) := by decide +kernel
theorem dX1_lateralOf_5 : decode cX1_lateralOf 5 = .ok (.ifCond .eq 12, 3) := by decide +kernel
theorem dX1_lateralOf_8 : decode cX1_lateralOf 8 = .ok (.aload_n 0, 1) := by decide +kernel
theorem dX1_lateralOf_9 : decode cX1_lateralOf 9 = .ok (.getfield 13, 3) := by decide +kernel
theorem dX1_lateralOf_12 : decode cX1_lateralOf 12 = .ok (.iload_n 1, 1) := by decide +kernel
theorem dX1_lateralOf_13 : decode cX1_lateralOf 13 = .ok (.iaload, 1) := by decide +kernel
theorem dX1_lateralOf_14 : decode cX1_lateralOf 14 = .ok (.goto 4, 3) := by decide +kernel
theorem dX1_lateralOf_17 : decode cX1_lateralOf 17 = .ok (.iconst 0, 1) := by decide +kernel
theorem dX1_lateralOf_18 : decode cX1_lateralOf 18 = .ok (.ireturn, 1) := by decide +kernel
set_option maxRecDepth 20000 in
theorem ggX1_canCome_X1_in : GoodIn wsX1_canCome wsX1_in := goodIn_r _ [9] (by decide +kernel) (by decide +kernel)
set_option maxRecDepth 20000 in
theorem gX1_canCome_X1_in : GoodIn wsX1_canCome (va_wsS RX1 44 yX1_in wsX1_in) := goodIn_app (goodIn_of _ (by decide +kernel)) ggX1_canCome_X1_in
theorem dX1_canCome_0 : decode cX1_canCome 0 = .ok (.aload_n 0, 1) := by decide +kernel
theorem dX1_canCome_1 : decode cX1_canCome 1 = .ok (.iload_n 1, 1) := by decide +kernel
theorem dX1_canCome_2 : decode cX1_canCome 2 = .ok (.iconst 0, 1) := by decide +kernel
theorem dX1_canCome_3 : decode cX1_canCome 3 = .ok (.aload_n 0, 1) := by decide +kernel
theorem dX1_canCome_4 : decode cX1_canCome 4 = .ok (.getfield 41, 3) := by decide +kernel
theorem dX1_canCome_7 : decode cX1_canCome 7 = .ok (.iconst 1, 1) := by decide +kernel
theorem dX1_canCome_8 : decode cX1_canCome 8 = .ok (.isub, 1) := by decide +kernel
theorem dX1_canCome_9 : decode cX1_canCome 9 = .ok (.invokestatic 44, 3) := by decide +kernel
theorem dX1_canCome_12 : decode cX1_canCome 12 = .ok (.ifCond .eq 13, 3) := by decide +kernel
theorem dX1_canCome_15 : decode cX1_canCome 15 = .ok (.iload_n 2, 1) := by decide +kernel
theorem dX1_canCome_16 : decode cX1_canCome 16 = .ok (.iconst 0, 1) := by decide +kernel
theorem dX1_canCome_17 : decode cX1_canCome 17 = .ok (.bipush 39, 2) := by decide +kernel
theorem dX1_canCome_19 : decode cX1_canCome 19 = .ok (.invokestatic 44, 3) := by decide +kernel
theorem dX1_canCome_22 : decode cX1_canCome 22 = .ok (.ifCond .ne 7, 3) := by decide +kernel
theorem dX1_canCome_25 : decode cX1_canCome 25 = .ok (.iconst 1, 1) := by decide +kernel
theorem dX1_canCome_26 : decode cX1_canCome 26 = .ok (.goto 4, 3) := by decide +kernel
theorem dX1_canCome_29 : decode cX1_canCome 29 = .ok (.iconst 0, 1) := by decide +kernel
theorem dX1_canCome_30 : decode cX1_canCome 30 = .ok (.putfield 37, 3) := by decide +kernel
theorem dX1_canCome_33 : decode cX1_canCome 33 = .ok (.aload_n 0, 1) := by decide +kernel
theorem dX1_canCome_34 : decode cX1_canCome 34 = .ok (.getfield 37, 3) := by decide +kernel
theorem dX1_canCome_37 : decode cX1_canCome 37 = .ok (.ifCond .ne 30, 3) := by decide +kernel
theorem dX1_canCome_40 : decode cX1_canCome 40 = .ok (.aload_n 0, 1) := by decide +kernel
theorem dX1_canCome_41 : decode cX1_canCome 41 = .ok (.getfield 48, 3) := by decide +kernel
theorem dX1_canCome_44 : decode cX1_canCome 44 = .ok (.bipush 48, 2) := by decide +kernel
theorem dX1_canCome_46 : decode cX1_canCome 46 = .ok (.if_icmp .eq 16, 3) := by decide +kernel
theorem dX1_canCome_49 : decode cX1_canCome 49 = .ok (.aload_n 0, 1) := by decide +kernel
theorem dX1_canCome_50 : decode cX1_canCome 50 = .ok (.getfield 54, 3) := by decide +kernel
theorem dX1_canCome_53 : decode cX1_canCome 53 = .ok (.aload_n 0, 1) := by decide +kernel
theorem dX1_canCome_54 : decode cX1_canCome 54 = .ok (.getfield 7, 3) := by decide +kernel
theorem dX1_canCome_57 : decode cX1_canCome 57 = .ok (.iload_n 1, 1) := by decide +kernel
theorem dX1_canCome_58 : decode cX1_canCome 58 = .ok (.iaload, 1) := by decide +kernel
theorem dX1_canCome_59 : decode cX1_canCome 59 = .ok (.if_icmp .lt 8, 3) := by decide +kernel
theorem dX1_canCome_62 : decode cX1_canCome 62 = .ok (.aload_n 0, 1) := by decide +kernel
theorem dX1_canCome_63 : decode cX1_canCome 63 = .ok (.iconst 2, 1) := by decide +kernel
theorem dX1_canCome_64 : decode cX1_canCome 64 = .ok (.putfield 37, 3) := by decide +kernel
theorem dX1_canCome_67 : decode cX1_canCome 67 = .ok (.aload_n 0, 1) := by decide +kernel
theorem dX1_canCome_68 : decode cX1_canCome 68 = .ok (.getfield 37, 3) := by decide +kernel
theorem dX1_canCome_71 : decode cX1_canCome 71 = .ok (.ifCond .ne 7, 3) := by decide +kernel
theorem dX1_canCome_74 : decode cX1_canCome 74 = .ok (.iconst 1, 1) := by decide +kernel
theorem dX1_canCome_75 : decode cX1_canCome 75 = .ok (.goto 4, 3) := by decide +kernel
theorem dX1_canCome_78 : decode cX1_canCome 78 = .ok (.iconst 0, 1) := by decide +kernel
theorem dX1_canCome_79 : decode cX1_canCome 79 = .ok (.ireturn, 1) := by decide +kernel
theorem dX1_added_0 : decode cX1_added 0 = .ok (.aload_n 0, 1) := by decide +kernel
theorem dX1_added_1 : decode cX1_added 1 = .ok (.getfield 22, 3) := by decide +kernel
theorem dX1_added_4 : decode cX1_added 4 = .ok (.aload_n 0, 1) := by decide +kernel
theorem dX1_added_5 : decode cX1_added 5 = .ok (.getfield 48, 3) := by decide +kernel
theorem dX1_added_8 : decode cX1_added 8 = .ok (.iload_n 1, 1) := by decide +kernel
theorem dX1_added_9 : decode cX1_added 9 = .ok (.iastore, 1) := by decide +kernel
theorem dX1_added_10 : decode cX1_added 10 = .ok (.aload_n 0, 1) := by decide +kernel
theorem dX1_added_11 : decode cX1_added 11 = .ok (.getfield 25, 3) := by decide +kernel
theorem dX1_added_14 : decode cX1_added 14 = .ok (.aload_n 0, 1) := by decide +kernel
theorem dX1_added_15 : decode cX1_added 15 = .ok (.getfield 48, 3) := by decide +kernel
theorem dX1_added_18 : decode cX1_added 18 = .ok (.iload_n 2, 1) := by decide +kernel
theorem dX1_added_19 : decode cX1_added 19 = .ok (.iastore, 1) := by decide +kernel
theorem dX1_added_20 : decode cX1_added 20 = .ok (.aload_n 0, 1) := by decide +kernel
theorem dX1_added_21 : decode cX1_added 21 = .ok (.getfield 28, 3) := by decide +kernel
theorem dX1_added_24 : decode cX1_added 24 = .ok (.aload_n 0, 1) := by decide +kernel
theorem dX1_added_25 : decode cX1_added 25 = .ok (.getfield 48, 3) := by decide +kernel
theorem dX1_added_28 : decode cX1_added 28 = .ok (.iconst 0, 1) := by decide +kernel
theorem dX1_added_29 : decode cX1_added 29 = .ok (.iastore, 1) := by decide +kernel
theorem dX1_added_30 : decode cX1_added 30 = .ok (.aload_n 0, 1) := by decide +kernel
theorem dX1_added_31 : decode cX1_added 31 = .ok (.getfield 19, 3) := by decide +kernel
theorem dX1_added_34 : decode cX1_added 34 = .ok (.aload_n 0, 1) := by decide +kernel
theorem dX1_added_35 : decode cX1_added 35 = .ok (.getfield 48, 3) := by decide +kernel
theorem dX1_added_38 : decode cX1_added 38 = .ok (.iconst 0, 1) := by decide +kernel
theorem dX1_added_39 : decode cX1_added 39 = .ok (.iastore, 1) := by decide +kernel
theorem dX1_added_40 : decode cX1_added 40 = .ok (.aload_n 0, 1) := by decide +kernel
theorem dX1_added_41 : decode cX1_added 41 = .ok (.dup, 1) := by decide +kernel
theorem dX1_added_42 : decode cX1_added 42 = .ok (.getfield 48, 3) := by decide +kernel
theorem dX1_added_45 : decode cX1_added 45 = .ok (.iconst 1, 1) := by decide +kernel
theorem dX1_added_46 : decode cX1_added 46 = .ok (.iadd, 1) := by decide +kernel
theorem dX1_added_47 : decode cX1_added 47 = .ok (.putfield 48, 3) := by decide +kernel
theorem dX1_added_50 : decode cX1_added 50 = .ok (.aload_n 0, 1) := by decide +kernel
theorem dX1_added_51 : decode cX1_added 51 = .ok (.getfield 48, 3) := by decide +kernel
theorem dX1_added_54 : decode cX1_added 54 = .ok (.iconst 1, 1) := by decide +kernel
theorem dX1_added_55 : decode cX1_added 55 = .ok (.isub, 1) := by decide +kernel
theorem dX1_added_56 : decode cX1_added 56 = .ok (.ireturn, 1) := by decide +kernel
set_option maxRecDepth 20000 in
theorem ggX1_checkIn_X1_canCome : GoodIn wsX1_checkIn wsX1_canCome := goodIn_r _ [5, 6, 7, 8, 9, 10, 11, 12, 4, 13, 29, 30, 31, 32, 33, 34, 35, 36, 37, 38, 39, 40, 41, 42] (by decide +kernel) (by decide +kernel)
set_option maxRecDepth 20000 in
theorem gX1_checkIn_X1_canCome : GoodIn wsX1_checkIn (wsV RX1 92 RX1 yX1_canCome wsX1_canCome) := goodIn_app (goodIn_of _ (by decide +kernel)) ggX1_checkIn_X1_canCome
set_option maxRecDepth 20000 in
theorem ggX1_checkIn_X1_added : GoodIn wsX1_checkIn wsX1_added := goodIn_r _ [17, 18, 8, 19, 20, 21, 29, 30, 31, 32, 33, 34, 35, 36, 37, 38, 39, 40, 41, 42] (by decide +kernel) (by decide +kernel)
set_option maxRecDepth 20000 in
theorem gX1_checkIn_X1_added : GoodIn wsX1_checkIn (wsV RX1 96 RX1 yX1_added wsX1_added) := goodIn_app (goodIn_of _ (by decide +kernel)) ggX1_checkIn_X1_added
set_option maxRecDepth 20000 in
theorem ggX1_checkIn_X1_comes : GoodIn wsX1_checkIn wsX1_comes := goodIn_r _ [25, 21, 26, 27, 28, 9, 29, 30, 31, 32, 33, 34, 35, 36, 37, 38, 39, 40, 41, 42] (by decide +kernel) (by decide +kernel)
set_option maxRecDepth 20000 in
theorem gX1_checkIn_X1_comes : GoodIn wsX1_checkIn (wsV RX1 64 RX1 yX1_comes wsX1_comes) := goodIn_app (goodIn_of _ (by decide +kernel)) ggX1_checkIn_X1_comes
theorem dX1_checkIn_0 : decode cX1_checkIn 0 = .ok (.aload_n 0, 1) := by decide +kernel
theorem dX1_checkIn_1 : decode cX1_checkIn 1 = .ok (.iload_n 1, 1) := by decide +kernel
theorem dX1_checkIn_2 : decode cX1_checkIn 2 = .ok (.iload_n 2, 1) := by decide +kernel
theorem dX1_checkIn_3 : decode cX1_checkIn 3 = .ok (.invokevirtual 92, 3) := by decide +kernel
theorem dX1_checkIn_6 : decode cX1_checkIn 6 = .ok (.ifCond .ne 5, 3) := by decide +kernel
theorem dX1_checkIn_9 : decode cX1_checkIn 9 = .ok (.iconst 0, 1) := by decide +kernel
theorem dX1_checkIn_10 : decode cX1_checkIn 10 = .ok (.ireturn, 1) := by decide +kernel
theorem dX1_checkIn_11 : decode cX1_checkIn 11 = .ok (.aload_n 0, 1) := by decide +kernel
theorem dX1_checkIn_12 : decode cX1_checkIn 12 = .ok (.iload_n 1, 1) := by decide +kernel
theorem dX1_checkIn_13 : decode cX1_checkIn 13 = .ok (.iload_n 2, 1) := by decide +kernel
theorem dX1_checkIn_14 : decode cX1_checkIn 14 = .ok (.invokevirtual 96, 3) := by decide +kernel
theorem dX1_checkIn_17 : decode cX1_checkIn 17 = .ok (.istore_n 3, 1) := by decide +kernel
theorem dX1_checkIn_18 : decode cX1_checkIn 18 = .ok (.aload_n 0, 1) := by decide +kernel
theorem dX1_checkIn_19 : decode cX1_checkIn 19 = .ok (.iload_n 3, 1) := by decide +kernel
theorem dX1_checkIn_20 : decode cX1_checkIn 20 = .ok (.iconst 1, 1) := by decide +kernel
theorem dX1_checkIn_21 : decode cX1_checkIn 21 = .ok (.invokevirtual 64, 3) := by decide +kernel
theorem dX1_checkIn_24 : decode cX1_checkIn 24 = .ok (.iload_n 3, 1) := by decide +kernel
theorem dX1_checkIn_25 : decode cX1_checkIn 25 = .ok (.ireturn, 1) := by decide +kernel
set_option maxRecDepth 20000 in
theorem ggX1_transfer_X1_canCome : GoodIn wsX1_transfer wsX1_canCome := goodIn_r _ [5, 6, 7, 8, 9, 10, 11, 12, 4, 13, 42, 43, 44, 45, 46, 47, 48, 49, 50, 51, 52, 53, 54, 55] (by decide +kernel) (by decide +kernel)
set_option maxRecDepth 20000 in
theorem gX1_transfer_X1_canCome : GoodIn wsX1_transfer (wsV RX1 92 RX1 yX1_canCome wsX1_canCome) := goodIn_app (goodIn_of _ (by decide +kernel)) ggX1_transfer_X1_canCome
set_option maxRecDepth 20000 in
theorem ggX1_transfer_X1_added : GoodIn wsX1_transfer wsX1_added := goodIn_r _ [17, 18, 8, 19, 20, 21, 42, 43, 44, 45, 46, 47, 48, 49, 50, 51, 52, 53, 54, 55] (by decide +kernel) (by decide +kernel)
set_option maxRecDepth 20000 in
theorem gX1_transfer_X1_added : GoodIn wsX1_transfer (wsV RX1 96 RX1 yX1_added wsX1_added) := goodIn_app (goodIn_of _ (by decide +kernel)) ggX1_transfer_X1_added
set_option maxRecDepth 20000 in
theorem ggX1_transfer_X1_routes : GoodIn wsX1_transfer wsX1_routes := goodIn_r _ [25, 21, 26, 27, 28, 4, 29, 18, 9, 10, 30, 31, 32, 33, 34, 8, 35, 36, 37, 38, 39, 40, 41, 42, 43, 44, 45, 46, 47, 48, 49, 50, 51, 52, 53, 54, 55] (by decide +kernel) (by decide +kernel)
set_option maxRecDepth 20000 in
theorem gX1_transfer_X1_routes : GoodIn wsX1_transfer (wsV RX1 76 RX1 yX1_routes wsX1_routes) := goodIn_app (goodIn_of _ (by decide +kernel)) ggX1_transfer_X1_routes
theorem dX1_transfer_0 : decode cX1_transfer 0 = .ok (.aload_n 0, 1) := by decide +kernel
theorem dX1_transfer_1 : decode cX1_transfer 1 = .ok (.iload_n 1, 1) := by decide +kernel
theorem dX1_transfer_2 : decode cX1_transfer 2 = .ok (.iload_n 2, 1) := by decide +kernel
theorem dX1_transfer_3 : decode cX1_transfer 3 = .ok (.invokevirtual 92, 3) := by decide +kernel
theorem dX1_transfer_6 : decode cX1_transfer 6 = .ok (.ifCond .ne 5, 3) := by decide +kernel
theorem dX1_transfer_9 : decode cX1_transfer 9 = .ok (.iconst 0, 1) := by decide +kernel
theorem dX1_transfer_10 : decode cX1_transfer 10 = .ok (.ireturn, 1) := by decide +kernel
theorem dX1_transfer_11 : decode cX1_transfer 11 = .ok (.aload_n 0, 1) := by decide +kernel
theorem dX1_transfer_12 : decode cX1_transfer 12 = .ok (.iload_n 1, 1) := by decide +kernel
theorem dX1_transfer_13 : decode cX1_transfer 13 = .ok (.iload_n 2, 1) := by decide +kernel
theorem dX1_transfer_14 : decode cX1_transfer 14 = .ok (.invokevirtual 96, 3) := by decide +kernel
theorem dX1_transfer_17 : decode cX1_transfer 17 = .ok (.istore_n 3, 1) := by decide +kernel
theorem dX1_transfer_18 : decode cX1_transfer 18 = .ok (.aload_n 0, 1) := by decide +kernel
theorem dX1_transfer_19 : decode cX1_transfer 19 = .ok (.iload_n 3, 1) := by decide +kernel
theorem dX1_transfer_20 : decode cX1_transfer 20 = .ok (.invokevirtual 76, 3) := by decide +kernel
theorem dX1_transfer_23 : decode cX1_transfer 23 = .ok (.pop, 1) := by decide +kernel
theorem dX1_transfer_24 : decode cX1_transfer 24 = .ok (.iload_n 3, 1) := by decide +kernel
theorem dX1_transfer_25 : decode cX1_transfer 25 = .ok (.ireturn, 1) := by decide +kernel
set_option maxRecDepth 20000 in
theorem ggX1_decide_X1_isBag : GoodIn wsX1_decide wsX1_isBag := goodIn_r _ [9, 10, 11, 12, 13, 8, 14, 39, 40, 41, 42, 43, 44, 45, 46, 47, 48, 49, 50, 51, 52] (by decide +kernel) (by decide +kernel)
set_option maxRecDepth 20000 in
theorem gX1_decide_X1_isBag : GoodIn wsX1_decide (wsV RX1 100 RX1 yX1_isBag wsX1_isBag) := goodIn_app (goodIn_of _ (by decide +kernel)) ggX1_decide_X1_isBag
set_option maxRecDepth 20000 in
theorem ggX1_decide_X1_in : GoodIn wsX1_decide wsX1_in := goodIn_r _ [14] (by decide +kernel) (by decide +kernel)
set_option maxRecDepth 20000 in
theorem gX1_decide_X1_in : GoodIn wsX1_decide (va_wsS RX1 44 yX1_in wsX1_in) := goodIn_app (goodIn_of _ (by decide +kernel)) ggX1_decide_X1_in
set_option maxRecDepth 20000 in
theorem ggX1_decide_X1_fails : GoodIn wsX1_decide wsX1_fails := goodIn_r _ [18, 11, 39, 40, 41, 42, 43, 44, 45, 46, 47, 48, 49, 50, 51, 52] (by decide +kernel) (by decide +kernel)
set_option maxRecDepth 20000 in
theorem gX1_decide_X1_fails : GoodIn wsX1_decide (wsV RX1 83 RX1 yX1_fails wsX1_fails) := goodIn_app (goodIn_of _ (by decide +kernel)) ggX1_decide_X1_fails
set_option maxRecDepth 20000 in
theorem ggX1_decide_X1_comes : GoodIn wsX1_decide wsX1_comes := goodIn_r _ [22, 1, 4, 23, 3, 2, 39, 40, 41, 42, 43, 44, 45, 46, 47, 48, 49, 50, 51, 52] (by decide +kernel) (by decide +kernel)
set_option maxRecDepth 20000 in
theorem gX1_decide_X1_comes : GoodIn wsX1_decide (wsV RX1 64 RX1 yX1_comes wsX1_comes) := goodIn_app (goodIn_of _ (by decide +kernel)) ggX1_decide_X1_comes
set_option maxRecDepth 20000 in
theorem ggX1_decide_X1_routes : GoodIn wsX1_decide wsX1_routes := goodIn_r _ [27, 1, 28, 29, 30, 8, 31, 32, 2, 33, 34, 35, 36, 37, 38, 10, 19, 20, 21, 22, 4, 23, 3, 39, 40, 41, 42, 43, 44, 45, 46, 47, 48, 49, 50, 51, 52] (by decide +kernel) (by decide +kernel)
set_option maxRecDepth 20000 in
theorem gX1_decide_X1_routes : GoodIn wsX1_decide (wsV RX1 76 RX1 yX1_routes wsX1_routes) := goodIn_app (goodIn_of _ (by decide +kernel)) ggX1_decide_X1_routes
theorem dX1_decide_0 : decode cX1_decide 0 = .ok (.aload_n 0, 1) := by decide +kernel
theorem dX1_decide_1 : decode cX1_decide 1 = .ok (.iload_n 1, 1) := by decide +kernel
theorem dX1_decide_2 : decode cX1_decide 2 = .ok (.invokevirtual 100, 3) := by decide +kernel
theorem dX1_decide_5 : decode cX1_decide 5 = .ok (.ifCond .ne 5, 3) := by decide +kernel
theorem dX1_decide_8 : decode cX1_decide 8 = .ok (.iconst 0, 1) := by decide +kernel
theorem dX1_decide_9 : decode cX1_decide 9 = .ok (.ireturn, 1) := by decide +kernel
theorem dX1_decide_10 : decode cX1_decide 10 = .ok (.aload_n 0, 1) := by decide +kernel
theorem dX1_decide_11 : decode cX1_decide 11 = .ok (.getfield 19, 3) := by decide +kernel
theorem dX1_decide_14 : decode cX1_decide 14 = .ok (.iload_n 1, 1) := by decide +kernel
theorem dX1_decide_15 : decode cX1_decide 15 = .ok (.iaload, 1) := by decide +kernel
theorem dX1_decide_16 : decode cX1_decide 16 = .ok (.istore_n 3, 1) := by decide +kernel
theorem dX1_decide_17 : decode cX1_decide 17 = .ok (.aload_n 0, 1) := by decide +kernel
theorem dX1_decide_18 : decode cX1_decide 18 = .ok (.getfield 54, 3) := by decide +kernel
theorem dX1_decide_21 : decode cX1_decide 21 = .ok (.aload_n 0, 1) := by decide +kernel
theorem dX1_decide_22 : decode cX1_decide 22 = .ok (.getfield 34, 3) := by decide +kernel
theorem dX1_decide_25 : decode cX1_decide 25 = .ok (.aload_n 0, 1) := by decide +kernel
theorem dX1_decide_26 : decode cX1_decide 26 = .ok (.getfield 31, 3) := by decide +kernel
theorem dX1_decide_29 : decode cX1_decide 29 = .ok (.iload_n 1, 1) := by decide +kernel
theorem dX1_decide_30 : decode cX1_decide 30 = .ok (.iaload, 1) := by decide +kernel
theorem dX1_decide_31 : decode cX1_decide 31 = .ok (.iaload, 1) := by decide +kernel
theorem dX1_decide_32 : decode cX1_decide 32 = .ok (.sipush 1024, 3) := by decide +kernel
theorem dX1_decide_35 : decode cX1_decide 35 = .ok (.idiv, 1) := by decide +kernel
theorem dX1_decide_36 : decode cX1_decide 36 = .ok (.isub, 1) := by decide +kernel
theorem dX1_decide_37 : decode cX1_decide 37 = .ok (.istore 4, 2) := by decide +kernel
theorem dX1_decide_39 : decode cX1_decide 39 = .ok (.iload_n 3, 1) := by decide +kernel
theorem dX1_decide_40 : decode cX1_decide 40 = .ok (.iconst 1, 1) := by decide +kernel
theorem dX1_decide_41 : decode cX1_decide 41 = .ok (.iconst 3, 1) := by decide +kernel
theorem dX1_decide_42 : decode cX1_decide 42 = .ok (.invokestatic 44, 3) := by decide +kernel
theorem dX1_decide_45 : decode cX1_decide 45 = .ok (.ifCond .eq 28, 3) := by decide +kernel
theorem dX1_decide_48 : decode cX1_decide 48 = .ok (.iload 4, 2) := by decide +kernel
theorem dX1_decide_50 : decode cX1_decide 50 = .ok (.iload_n 3, 1) := by decide +kernel
theorem dX1_decide_51 : decode cX1_decide 51 = .ok (.iconst 1, 1) := by decide +kernel
theorem dX1_decide_52 : decode cX1_decide 52 = .ok (.if_icmp .ne 7, 3) := by decide +kernel
theorem dX1_decide_55 : decode cX1_decide 55 = .ok (.iconst 2, 1) := by decide +kernel
theorem dX1_decide_56 : decode cX1_decide 56 = .ok (.goto 14, 3) := by decide +kernel
theorem dX1_decide_59 : decode cX1_decide 59 = .ok (.iload_n 3, 1) := by decide +kernel
theorem dX1_decide_60 : decode cX1_decide 60 = .ok (.iconst 2, 1) := by decide +kernel
theorem dX1_decide_61 : decode cX1_decide 61 = .ok (.if_icmp .ne 7, 3) := by decide +kernel
theorem dX1_decide_64 : decode cX1_decide 64 = .ok (.iconst 4, 1) := by decide +kernel
theorem dX1_decide_65 : decode cX1_decide 65 = .ok (.goto 5, 3) := by decide +kernel
theorem dX1_decide_68 : decode cX1_decide 68 = .ok (.bipush 10, 2) := by decide +kernel
theorem dX1_decide_70 : decode cX1_decide 70 = .ok (.if_icmp .ge 9, 3) := by decide +kernel
theorem dX1_decide_73 : decode cX1_decide 73 = .ok (.aload_n 0, 1) := by decide +kernel
theorem dX1_decide_74 : decode cX1_decide 74 = .ok (.iconst 2, 1) := by decide +kernel
theorem dX1_decide_75 : decode cX1_decide 75 = .ok (.invokevirtual 83, 3) := by decide +kernel
theorem dX1_decide_78 : decode cX1_decide 78 = .ok (.ireturn, 1) := by decide +kernel
theorem dX1_decide_79 : decode cX1_decide 79 = .ok (.iload_n 2, 1) := by decide +kernel
theorem dX1_decide_80 : decode cX1_decide 80 = .ok (.ifCond .ne 15, 3) := by decide +kernel
theorem dX1_decide_83 : decode cX1_decide 83 = .ok (.aload_n 0, 1) := by decide +kernel
theorem dX1_decide_84 : decode cX1_decide 84 = .ok (.iload_n 1, 1) := by decide +kernel
theorem dX1_decide_85 : decode cX1_decide 85 = .ok (.iload_n 3, 1) := by decide +kernel
theorem dX1_decide_86 : decode cX1_decide 86 = .ok (.iconst 1, 1) := by decide +kernel
theorem dX1_decide_87 : decode cX1_decide 87 = .ok (.iadd, 1) := by decide +kernel
theorem dX1_decide_88 : decode cX1_decide 88 = .ok (.invokevirtual 64, 3) := by decide +kernel
theorem dX1_decide_91 : decode cX1_decide 91 = .ok (.iload_n 3, 1) := by decide +kernel
theorem dX1_decide_92 : decode cX1_decide 92 = .ok (.iconst 1, 1) := by decide +kernel
theorem dX1_decide_93 : decode cX1_decide 93 = .ok (.iadd, 1) := by decide +kernel
theorem dX1_decide_94 : decode cX1_decide 94 = .ok (.ireturn, 1) := by decide +kernel
theorem dX1_decide_95 : decode cX1_decide 95 = .ok (.aload_n 0, 1) := by decide +kernel
theorem dX1_decide_96 : decode cX1_decide 96 = .ok (.iload_n 1, 1) := by decide +kernel
theorem dX1_decide_97 : decode cX1_decide 97 = .ok (.invokevirtual 76, 3) := by decide +kernel
theorem dX1_decide_100 : decode cX1_decide 100 = .ok (.ireturn, 1) := by decide +kernel
set_option maxRecDepth 20000 in
theorem ggX1_letGo_X1_isBag : GoodIn wsX1_letGo wsX1_isBag := goodIn_r _ [6, 7, 8, 9, 10, 5, 11, 39, 40, 41, 42, 43, 44, 45, 46, 47, 48, 49, 50, 51, 52] (by decide +kernel) (by decide +kernel)
set_option maxRecDepth 20000 in
theorem gX1_letGo_X1_isBag : GoodIn wsX1_letGo (wsV RX1 100 RX1 yX1_isBag wsX1_isBag) := goodIn_app (goodIn_of _ (by decide +kernel)) ggX1_letGo_X1_isBag
set_option maxRecDepth 20000 in
theorem ggX1_letGo_X1_routes : GoodIn wsX1_letGo wsX1_routes := goodIn_r _ [15, 1, 16, 17, 18, 5, 19, 20, 21, 22, 23, 24, 25, 26, 27, 7, 28, 29, 30, 31, 32, 33, 34, 39, 40, 41, 42, 43, 44, 45, 46, 47, 48, 49, 50, 51, 52] (by decide +kernel) (by decide +kernel)
set_option maxRecDepth 20000 in
theorem gX1_letGo_X1_routes : GoodIn wsX1_letGo (wsV RX1 76 RX1 yX1_routes wsX1_routes) := goodIn_app (goodIn_of _ (by decide +kernel)) ggX1_letGo_X1_routes
set_option maxRecDepth 20000 in
theorem ggX1_letGo_X1_fails : GoodIn wsX1_letGo wsX1_fails := goodIn_r _ [38, 8, 39, 40, 41, 42, 43, 44, 45, 46, 47, 48, 49, 50, 51, 52] (by decide +kernel) (by decide +kernel)
set_option maxRecDepth 20000 in
theorem gX1_letGo_X1_fails : GoodIn wsX1_letGo (wsV RX1 83 RX1 yX1_fails wsX1_fails) := goodIn_app (goodIn_of _ (by decide +kernel)) ggX1_letGo_X1_fails
theorem dX1_letGo_0 : decode cX1_letGo 0 = .ok (.aload_n 0, 1) := by decide +kernel
theorem dX1_letGo_1 : decode cX1_letGo 1 = .ok (.iload_n 1, 1) := by decide +kernel
theorem dX1_letGo_2 : decode cX1_letGo 2 = .ok (.invokevirtual 100, 3) := by decide +kernel
theorem dX1_letGo_5 : decode cX1_letGo 5 = .ok (.ifCond .ne 5, 3) := by decide +kernel
theorem dX1_letGo_8 : decode cX1_letGo 8 = .ok (.iconst 0, 1) := by decide +kernel
theorem dX1_letGo_9 : decode cX1_letGo 9 = .ok (.ireturn, 1) := by decide +kernel
theorem dX1_letGo_10 : decode cX1_letGo 10 = .ok (.aload_n 0, 1) := by decide +kernel
theorem dX1_letGo_11 : decode cX1_letGo 11 = .ok (.getfield 19, 3) := by decide +kernel
theorem dX1_letGo_14 : decode cX1_letGo 14 = .ok (.iload_n 1, 1) := by decide +kernel
theorem dX1_letGo_15 : decode cX1_letGo 15 = .ok (.iaload, 1) := by decide +kernel
theorem dX1_letGo_16 : decode cX1_letGo 16 = .ok (.iconst 4, 1) := by decide +kernel
theorem dX1_letGo_17 : decode cX1_letGo 17 = .ok (.if_icmp .ne 11, 3) := by decide +kernel
theorem dX1_letGo_20 : decode cX1_letGo 20 = .ok (.aload_n 0, 1) := by decide +kernel
theorem dX1_letGo_21 : decode cX1_letGo 21 = .ok (.iload_n 1, 1) := by decide +kernel
theorem dX1_letGo_22 : decode cX1_letGo 22 = .ok (.invokevirtual 76, 3) := by decide +kernel
theorem dX1_letGo_25 : decode cX1_letGo 25 = .ok (.goto 8, 3) := by decide +kernel
theorem dX1_letGo_28 : decode cX1_letGo 28 = .ok (.aload_n 0, 1) := by decide +kernel
theorem dX1_letGo_29 : decode cX1_letGo 29 = .ok (.iconst 2, 1) := by decide +kernel
theorem dX1_letGo_30 : decode cX1_letGo 30 = .ok (.invokevirtual 83, 3) := by decide +kernel
theorem dX1_letGo_33 : decode cX1_letGo 33 = .ok (.ireturn, 1) := by decide +kernel
theorem dX1_loaded_0 : decode cX1_loaded 0 = .ok (.iconst 0, 1) := by decide +kernel
theorem dX1_loaded_1 : decode cX1_loaded 1 = .ok (.istore_n 2, 1) := by decide +kernel
theorem dX1_loaded_2 : decode cX1_loaded 2 = .ok (.iconst 0, 1) := by decide +kernel
theorem dX1_loaded_3 : decode cX1_loaded 3 = .ok (.istore_n 3, 1) := by decide +kernel
theorem dX1_loaded_4 : decode cX1_loaded 4 = .ok (.iload_n 3, 1) := by decide +kernel
theorem dX1_loaded_5 : decode cX1_loaded 5 = .ok (.aload_n 0, 1) := by decide +kernel
theorem dX1_loaded_6 : decode cX1_loaded 6 = .ok (.getfield 48, 3) := by decide +kernel
theorem dX1_loaded_9 : decode cX1_loaded 9 = .ok (.if_icmp .ge 38, 3) := by decide +kernel
theorem dX1_loaded_12 : decode cX1_loaded 12 = .ok (.iload_n 2, 1) := by decide +kernel
theorem dX1_loaded_13 : decode cX1_loaded 13 = .ok (.aload_n 0, 1) := by decide +kernel
theorem dX1_loaded_14 : decode cX1_loaded 14 = .ok (.getfield 19, 3) := by decide +kernel
theorem dX1_loaded_17 : decode cX1_loaded 17 = .ok (.iload_n 3, 1) := by decide +kernel
theorem dX1_loaded_18 : decode cX1_loaded 18 = .ok (.iaload, 1) := by decide +kernel
theorem dX1_loaded_19 : decode cX1_loaded 19 = .ok (.bipush 8, 2) := by decide +kernel
theorem dX1_loaded_21 : decode cX1_loaded 21 = .ok (.if_icmp .ne 17, 3) := by decide +kernel
theorem dX1_loaded_24 : decode cX1_loaded 24 = .ok (.aload_n 0, 1) := by decide +kernel
theorem dX1_loaded_25 : decode cX1_loaded 25 = .ok (.getfield 22, 3) := by decide +kernel
theorem dX1_loaded_28 : decode cX1_loaded 28 = .ok (.iload_n 3, 1) := by decide +kernel
theorem dX1_loaded_29 : decode cX1_loaded 29 = .ok (.iaload, 1) := by decide +kernel
theorem dX1_loaded_30 : decode cX1_loaded 30 = .ok (.iload_n 1, 1) := by decide +kernel
theorem dX1_loaded_31 : decode cX1_loaded 31 = .ok (.if_icmp .ne 7, 3) := by decide +kernel
theorem dX1_loaded_34 : decode cX1_loaded 34 = .ok (.iconst 1, 1) := by decide +kernel
theorem dX1_loaded_35 : decode cX1_loaded 35 = .ok (.goto 4, 3) := by decide +kernel
theorem dX1_loaded_38 : decode cX1_loaded 38 = .ok (.iconst 0, 1) := by decide +kernel
theorem dX1_loaded_39 : decode cX1_loaded 39 = .ok (.iadd, 1) := by decide +kernel
theorem dX1_loaded_40 : decode cX1_loaded 40 = .ok (.istore_n 2, 1) := by decide +kernel
theorem dX1_loaded_41 : decode cX1_loaded 41 = .ok (.iinc 3 1, 3) := by decide +kernel
theorem dX1_loaded_44 : decode cX1_loaded 44 = .ok (.goto (-40), 3) := by decide +kernel
theorem dX1_loaded_47 : decode cX1_loaded 47 = .ok (.iload_n 2, 1) := by decide +kernel
theorem dX1_loaded_48 : decode cX1_loaded 48 = .ok (.ireturn, 1) := by decide +kernel
set_option maxRecDepth 20000 in
theorem ggX1_load_X1_isBag : GoodIn wsX1_load wsX1_isBag := goodIn_r _ [7, 8, 9, 10, 11, 6, 12, 29, 30, 31, 32, 33, 34, 35, 36, 37, 38, 39, 40, 41, 42] (by decide +kernel) (by decide +kernel)
set_option maxRecDepth 20000 in
theorem gX1_load_X1_isBag : GoodIn wsX1_load (wsV RX1 100 RX1 yX1_isBag wsX1_isBag) := goodIn_app (goodIn_of _ (by decide +kernel)) ggX1_load_X1_isBag
set_option maxRecDepth 20000 in
theorem ggX1_load_X1_fails : GoodIn wsX1_load wsX1_fails := goodIn_r _ [16, 9, 29, 30, 31, 32, 33, 34, 35, 36, 37, 38, 39, 40, 41, 42] (by decide +kernel) (by decide +kernel)
set_option maxRecDepth 20000 in
theorem gX1_load_X1_fails : GoodIn wsX1_load (wsV RX1 83 RX1 yX1_fails wsX1_fails) := goodIn_app (goodIn_of _ (by decide +kernel)) ggX1_load_X1_fails
set_option maxRecDepth 20000 in
theorem ggX1_load_X1_comes : GoodIn wsX1_load wsX1_comes := goodIn_r _ [20, 1, 21, 22, 23, 24, 29, 30, 31, 32, 33, 34, 35, 36, 37, 38, 39, 40, 41, 42] (by decide +kernel) (by decide +kernel)
set_option maxRecDepth 20000 in
theorem gX1_load_X1_comes : GoodIn wsX1_load (wsV RX1 64 RX1 yX1_comes wsX1_comes) := goodIn_app (goodIn_of _ (by decide +kernel)) ggX1_load_X1_comes
set_option maxRecDepth 20000 in
theorem ggX1_load_X1_loaded : GoodIn wsX1_load wsX1_loaded := goodIn_r _ [28, 8, 1, 2, 29, 30, 31, 32, 33, 34, 35, 36, 37, 38, 39, 40, 41, 42] (by decide +kernel) (by decide +kernel)
set_option maxRecDepth 20000 in
theorem gX1_load_X1_loaded : GoodIn wsX1_load (wsV RX1 103 RX1 yX1_loaded wsX1_loaded) := goodIn_app (goodIn_of _ (by decide +kernel)) ggX1_load_X1_loaded
theorem dX1_load_0 : decode cX1_load 0 = .ok (.aload_n 0, 1) := by decide +kernel
theorem dX1_load_1 : decode cX1_load 1 = .ok (.iload_n 1, 1) := by decide +kernel
theorem dX1_load_2 : decode cX1_load 2 = .ok (.invokevirtual 100, 3) := by decide +kernel
theorem dX1_load_5 : decode cX1_load 5 = .ok (.ifCond .ne 5, 3) := by decide +kernel
theorem dX1_load_8 : decode cX1_load 8 = .ok (.iconst 0, 1) := by decide +kernel
theorem dX1_load_9 : decode cX1_load 9 = .ok (.ireturn, 1) := by decide +kernel
theorem dX1_load_10 : decode cX1_load 10 = .ok (.aload_n 0, 1) := by decide +kernel
theorem dX1_load_11 : decode cX1_load 11 = .ok (.getfield 19, 3) := by decide +kernel
theorem dX1_load_14 : decode cX1_load 14 = .ok (.iload_n 1, 1) := by decide +kernel
theorem dX1_load_15 : decode cX1_load 15 = .ok (.iaload, 1) := by decide +kernel
theorem dX1_load_16 : decode cX1_load 16 = .ok (.bipush 7, 2) := by decide +kernel
theorem dX1_load_18 : decode cX1_load 18 = .ok (.if_icmp .eq 9, 3) := by decide +kernel
theorem dX1_load_21 : decode cX1_load 21 = .ok (.aload_n 0, 1) := by decide +kernel
theorem dX1_load_22 : decode cX1_load 22 = .ok (.iconst 2, 1) := by decide +kernel
theorem dX1_load_23 : decode cX1_load 23 = .ok (.invokevirtual 83, 3) := by decide +kernel
theorem dX1_load_26 : decode cX1_load 26 = .ok (.ireturn, 1) := by decide +kernel
theorem dX1_load_27 : decode cX1_load 27 = .ok (.aload_n 0, 1) := by decide +kernel
theorem dX1_load_28 : decode cX1_load 28 = .ok (.iload_n 1, 1) := by decide +kernel
theorem dX1_load_29 : decode cX1_load 29 = .ok (.bipush 8, 2) := by decide +kernel
theorem dX1_load_31 : decode cX1_load 31 = .ok (.invokevirtual 64, 3) := by decide +kernel
theorem dX1_load_34 : decode cX1_load 34 = .ok (.aload_n 0, 1) := by decide +kernel
theorem dX1_load_35 : decode cX1_load 35 = .ok (.aload_n 0, 1) := by decide +kernel
theorem dX1_load_36 : decode cX1_load 36 = .ok (.getfield 22, 3) := by decide +kernel
theorem dX1_load_39 : decode cX1_load 39 = .ok (.iload_n 1, 1) := by decide +kernel
theorem dX1_load_40 : decode cX1_load 40 = .ok (.iaload, 1) := by decide +kernel
theorem dX1_load_41 : decode cX1_load 41 = .ok (.invokevirtual 103, 3) := by decide +kernel
theorem dX1_load_44 : decode cX1_load 44 = .ok (.ireturn, 1) := by decide +kernel
set_option maxRecDepth 20000 in
theorem ggX1_offload_X1_isBag : GoodIn wsX1_offload wsX1_isBag := goodIn_r _ [7, 8, 9, 10, 11, 6, 12, 29, 30, 31, 32, 33, 34, 35, 36, 37, 38, 39, 40, 41, 42] (by decide +kernel) (by decide +kernel)
set_option maxRecDepth 20000 in
theorem gX1_offload_X1_isBag : GoodIn wsX1_offload (wsV RX1 100 RX1 yX1_isBag wsX1_isBag) := goodIn_app (goodIn_of _ (by decide +kernel)) ggX1_offload_X1_isBag
set_option maxRecDepth 20000 in
theorem ggX1_offload_X1_fails : GoodIn wsX1_offload wsX1_fails := goodIn_r _ [16, 9, 29, 30, 31, 32, 33, 34, 35, 36, 37, 38, 39, 40, 41, 42] (by decide +kernel) (by decide +kernel)
set_option maxRecDepth 20000 in
theorem gX1_offload_X1_fails : GoodIn wsX1_offload (wsV RX1 83 RX1 yX1_fails wsX1_fails) := goodIn_app (goodIn_of _ (by decide +kernel)) ggX1_offload_X1_fails
set_option maxRecDepth 20000 in
theorem ggX1_offload_X1_comes : GoodIn wsX1_offload wsX1_comes := goodIn_r _ [20, 1, 21, 22, 23, 24, 29, 30, 31, 32, 33, 34, 35, 36, 37, 38, 39, 40, 41, 42] (by decide +kernel) (by decide +kernel)
set_option maxRecDepth 20000 in
theorem gX1_offload_X1_comes : GoodIn wsX1_offload (wsV RX1 64 RX1 yX1_comes wsX1_comes) := goodIn_app (goodIn_of _ (by decide +kernel)) ggX1_offload_X1_comes
set_option maxRecDepth 20000 in
theorem ggX1_offload_X1_loaded : GoodIn wsX1_offload wsX1_loaded := goodIn_r _ [28, 8, 1, 2, 29, 30, 31, 32, 33, 34, 35, 36, 37, 38, 39, 40, 41, 42] (by decide +kernel) (by decide +kernel)
set_option maxRecDepth 20000 in
theorem gX1_offload_X1_loaded : GoodIn wsX1_offload (wsV RX1 103 RX1 yX1_loaded wsX1_loaded) := goodIn_app (goodIn_of _ (by decide +kernel)) ggX1_offload_X1_loaded
theorem dX1_offload_0 : decode cX1_offload 0 = .ok (.aload_n 0, 1) := by decide +kernel
theorem dX1_offload_1 : decode cX1_offload 1 = .ok (.iload_n 1, 1) := by decide +kernel
theorem dX1_offload_2 : decode cX1_offload 2 = .ok (.invokevirtual 100, 3) := by decide +kernel
theorem dX1_offload_5 : decode cX1_offload 5 = .ok (.ifCond .ne 5, 3) := by decide +kernel
theorem dX1_offload_8 : decode cX1_offload 8 = .ok (.iconst 0, 1) := by decide +kernel
theorem dX1_offload_9 : decode cX1_offload 9 = .ok (.ireturn, 1) := by decide +kernel
theorem dX1_offload_10 : decode cX1_offload 10 = .ok (.aload_n 0, 1) := by decide +kernel
theorem dX1_offload_11 : decode cX1_offload 11 = .ok (.getfield 19, 3) := by decide +kernel
theorem dX1_offload_14 : decode cX1_offload 14 = .ok (.iload_n 1, 1) := by decide +kernel
theorem dX1_offload_15 : decode cX1_offload 15 = .ok (.iaload, 1) := by decide +kernel
theorem dX1_offload_16 : decode cX1_offload 16 = .ok (.bipush 8, 2) := by decide +kernel
theorem dX1_offload_18 : decode cX1_offload 18 = .ok (.if_icmp .eq 9, 3) := by decide +kernel
theorem dX1_offload_21 : decode cX1_offload 21 = .ok (.aload_n 0, 1) := by decide +kernel
theorem dX1_offload_22 : decode cX1_offload 22 = .ok (.iconst 2, 1) := by decide +kernel
theorem dX1_offload_23 : decode cX1_offload 23 = .ok (.invokevirtual 83, 3) := by decide +kernel
theorem dX1_offload_26 : decode cX1_offload 26 = .ok (.ireturn, 1) := by decide +kernel
theorem dX1_offload_27 : decode cX1_offload 27 = .ok (.aload_n 0, 1) := by decide +kernel
theorem dX1_offload_28 : decode cX1_offload 28 = .ok (.iload_n 1, 1) := by decide +kernel
theorem dX1_offload_29 : decode cX1_offload 29 = .ok (.bipush 10, 2) := by decide +kernel
theorem dX1_offload_31 : decode cX1_offload 31 = .ok (.invokevirtual 64, 3) := by decide +kernel
theorem dX1_offload_34 : decode cX1_offload 34 = .ok (.aload_n 0, 1) := by decide +kernel
theorem dX1_offload_35 : decode cX1_offload 35 = .ok (.aload_n 0, 1) := by decide +kernel
theorem dX1_offload_36 : decode cX1_offload 36 = .ok (.getfield 22, 3) := by decide +kernel
theorem dX1_offload_39 : decode cX1_offload 39 = .ok (.iload_n 1, 1) := by decide +kernel
theorem dX1_offload_40 : decode cX1_offload 40 = .ok (.iaload, 1) := by decide +kernel
theorem dX1_offload_41 : decode cX1_offload 41 = .ok (.invokevirtual 103, 3) := by decide +kernel
theorem dX1_offload_44 : decode cX1_offload 44 = .ok (.ireturn, 1) := by decide +kernel
set_option maxRecDepth 20000 in
theorem ggX1_sendOn_X1_in : GoodIn wsX1_sendOn wsX1_in := goodIn_r _ [12] (by decide +kernel) (by decide +kernel)
set_option maxRecDepth 20000 in
theorem gX1_sendOn_X1_in : GoodIn wsX1_sendOn (va_wsS RX1 44 yX1_in wsX1_in) := goodIn_app (goodIn_of _ (by decide +kernel)) ggX1_sendOn_X1_in
set_option maxRecDepth 20000 in
theorem ggX1_sendOn_X1_fails : GoodIn wsX1_sendOn wsX1_fails := goodIn_r _ [16, 3, 37, 38, 39, 40, 41, 42, 43, 44, 45, 46, 47, 48, 49, 50] (by decide +kernel) (by decide +kernel)
set_option maxRecDepth 20000 in
theorem gX1_sendOn_X1_fails : GoodIn wsX1_sendOn (wsV RX1 83 RX1 yX1_fails wsX1_fails) := goodIn_app (goodIn_of _ (by decide +kernel)) ggX1_sendOn_X1_fails
set_option maxRecDepth 20000 in
theorem ggX1_sendOn_X1_routes : GoodIn wsX1_sendOn wsX1_routes := goodIn_r _ [20, 4, 21, 22, 23, 11, 24, 7, 5, 6, 25, 26, 27, 28, 29, 1, 30, 31, 32, 33, 34, 35, 36, 37, 38, 39, 40, 41, 42, 43, 44, 45, 46, 47, 48, 49, 50] (by decide +kernel) (by decide +kernel)
set_option maxRecDepth 20000 in
theorem gX1_sendOn_X1_routes : GoodIn wsX1_sendOn (wsV RX1 76 RX1 yX1_routes wsX1_routes) := goodIn_app (goodIn_of _ (by decide +kernel)) ggX1_sendOn_X1_routes
theorem dX1_sendOn_0 : decode cX1_sendOn 0 = .ok (.aload_n 0, 1) := by decide +kernel
theorem dX1_sendOn_1 : decode cX1_sendOn 1 = .ok (.iload_n 1, 1) := by decide +kernel
theorem dX1_sendOn_2 : decode cX1_sendOn 2 = .ok (.iconst 0, 1) := by decide +kernel
theorem dX1_sendOn_3 : decode cX1_sendOn 3 = .ok (.aload_n 0, 1) := by decide +kernel
theorem dX1_sendOn_4 : decode cX1_sendOn 4 = .ok (.getfield 48, 3) := by decide +kernel
theorem dX1_sendOn_7 : decode cX1_sendOn 7 = .ok (.iconst 1, 1) := by decide +kernel
theorem dX1_sendOn_8 : decode cX1_sendOn 8 = .ok (.isub, 1) := by decide +kernel
theorem dX1_sendOn_9 : decode cX1_sendOn 9 = .ok (.invokestatic 44, 3) := by decide +kernel
theorem dX1_sendOn_12 : decode cX1_sendOn 12 = .ok (.ifCond .eq 21, 3) := by decide +kernel
theorem dX1_sendOn_15 : decode cX1_sendOn 15 = .ok (.iload_n 2, 1) := by decide +kernel
theorem dX1_sendOn_16 : decode cX1_sendOn 16 = .ok (.iconst 0, 1) := by decide +kernel
theorem dX1_sendOn_17 : decode cX1_sendOn 17 = .ok (.aload_n 0, 1) := by decide +kernel
theorem dX1_sendOn_18 : decode cX1_sendOn 18 = .ok (.getfield 41, 3) := by decide +kernel
theorem dX1_sendOn_21 : decode cX1_sendOn 21 = .ok (.iconst 1, 1) := by decide +kernel
theorem dX1_sendOn_22 : decode cX1_sendOn 22 = .ok (.isub, 1) := by decide +kernel
theorem dX1_sendOn_23 : decode cX1_sendOn 23 = .ok (.invokestatic 44, 3) := by decide +kernel
theorem dX1_sendOn_26 : decode cX1_sendOn 26 = .ok (.ifCond .eq 7, 3) := by decide +kernel
theorem dX1_sendOn_29 : decode cX1_sendOn 29 = .ok (.iconst 0, 1) := by decide +kernel
theorem dX1_sendOn_30 : decode cX1_sendOn 30 = .ok (.goto 4, 3) := by decide +kernel
theorem dX1_sendOn_33 : decode cX1_sendOn 33 = .ok (.iconst 1, 1) := by decide +kernel
theorem dX1_sendOn_34 : decode cX1_sendOn 34 = .ok (.putfield 37, 3) := by decide +kernel
theorem dX1_sendOn_37 : decode cX1_sendOn 37 = .ok (.aload_n 0, 1) := by decide +kernel
theorem dX1_sendOn_38 : decode cX1_sendOn 38 = .ok (.getfield 37, 3) := by decide +kernel
theorem dX1_sendOn_41 : decode cX1_sendOn 41 = .ok (.ifCond .le 5, 3) := by decide +kernel
theorem dX1_sendOn_44 : decode cX1_sendOn 44 = .ok (.iconst 0, 1) := by decide +kernel
theorem dX1_sendOn_45 : decode cX1_sendOn 45 = .ok (.ireturn, 1) := by decide +kernel
theorem dX1_sendOn_46 : decode cX1_sendOn 46 = .ok (.aload_n 0, 1) := by decide +kernel
theorem dX1_sendOn_47 : decode cX1_sendOn 47 = .ok (.getfield 19, 3) := by decide +kernel
theorem dX1_sendOn_50 : decode cX1_sendOn 50 = .ok (.iload_n 1, 1) := by decide +kernel
theorem dX1_sendOn_51 : decode cX1_sendOn 51 = .ok (.iaload, 1) := by decide +kernel
theorem dX1_sendOn_52 : decode cX1_sendOn 52 = .ok (.bipush 10, 2) := by decide +kernel
theorem dX1_sendOn_54 : decode cX1_sendOn 54 = .ok (.if_icmp .eq 14, 3) := by decide +kernel
theorem dX1_sendOn_57 : decode cX1_sendOn 57 = .ok (.aload_n 0, 1) := by decide +kernel
theorem dX1_sendOn_58 : decode cX1_sendOn 58 = .ok (.getfield 19, 3) := by decide +kernel
theorem dX1_sendOn_61 : decode cX1_sendOn 61 = .ok (.iload_n 1, 1) := by decide +kernel
theorem dX1_sendOn_62 : decode cX1_sendOn 62 = .ok (.iaload, 1) := by decide +kernel
theorem dX1_sendOn_63 : decode cX1_sendOn 63 = .ok (.bipush 11, 2) := by decide +kernel
theorem dX1_sendOn_65 : decode cX1_sendOn 65 = .ok (.if_icmp .ne 16, 3) := by decide +kernel
theorem dX1_sendOn_68 : decode cX1_sendOn 68 = .ok (.aload_n 0, 1) := by decide +kernel
theorem dX1_sendOn_69 : decode cX1_sendOn 69 = .ok (.getfield 54, 3) := by decide +kernel
theorem dX1_sendOn_72 : decode cX1_sendOn 72 = .ok (.aload_n 0, 1) := by decide +kernel
theorem dX1_sendOn_73 : decode cX1_sendOn 73 = .ok (.getfield 7, 3) := by decide +kernel
theorem dX1_sendOn_76 : decode cX1_sendOn 76 = .ok (.iload_n 2, 1) := by decide +kernel
theorem dX1_sendOn_77 : decode cX1_sendOn 77 = .ok (.iaload, 1) := by decide +kernel
theorem dX1_sendOn_78 : decode cX1_sendOn 78 = .ok (.if_icmp .lt 9, 3) := by decide +kernel
theorem dX1_sendOn_81 : decode cX1_sendOn 81 = .ok (.aload_n 0, 1) := by decide +kernel
theorem dX1_sendOn_82 : decode cX1_sendOn 82 = .ok (.iconst 2, 1) := by decide +kernel
theorem dX1_sendOn_83 : decode cX1_sendOn 83 = .ok (.invokevirtual 83, 3) := by decide +kernel
theorem dX1_sendOn_86 : decode cX1_sendOn 86 = .ok (.ireturn, 1) := by decide +kernel
theorem dX1_sendOn_87 : decode cX1_sendOn 87 = .ok (.aload_n 0, 1) := by decide +kernel
theorem dX1_sendOn_88 : decode cX1_sendOn 88 = .ok (.getfield 22, 3) := by decide +kernel
theorem dX1_sendOn_91 : decode cX1_sendOn 91 = .ok (.iload_n 1, 1) := by decide +kernel
theorem dX1_sendOn_92 : decode cX1_sendOn 92 = .ok (.iload_n 2, 1) := by decide +kernel
theorem dX1_sendOn_93 : decode cX1_sendOn 93 = .ok (.iastore, 1) := by decide +kernel
theorem dX1_sendOn_94 : decode cX1_sendOn 94 = .ok (.aload_n 0, 1) := by decide +kernel
theorem dX1_sendOn_95 : decode cX1_sendOn 95 = .ok (.getfield 28, 3) := by decide +kernel
theorem dX1_sendOn_98 : decode cX1_sendOn 98 = .ok (.iload_n 1, 1) := by decide +kernel
theorem dX1_sendOn_99 : decode cX1_sendOn 99 = .ok (.iconst 1, 1) := by decide +kernel
theorem dX1_sendOn_100 : decode cX1_sendOn 100 = .ok (.iastore, 1) := by decide +kernel
theorem dX1_sendOn_101 : decode cX1_sendOn 101 = .ok (.aload_n 0, 1) := by decide +kernel
theorem dX1_sendOn_102 : decode cX1_sendOn 102 = .ok (.iload_n 1, 1) := by decide +kernel
theorem dX1_sendOn_103 : decode cX1_sendOn 103 = .ok (.invokevirtual 76, 3) := by decide +kernel
theorem dX1_sendOn_106 : decode cX1_sendOn 106 = .ok (.ireturn, 1) := by decide +kernel
theorem dX1_bags_0 : decode cX1_bags 0 = .ok (.aload_n 0, 1) := by decide +kernel
theorem dX1_bags_1 : decode cX1_bags 1 = .ok (.iconst 0, 1) := by decide +kernel
theorem dX1_bags_2 : decode cX1_bags 2 = .ok (.putfield 37, 3) := by decide +kernel
theorem dX1_bags_5 : decode cX1_bags 5 = .ok (.aload_n 0, 1) := by decide +kernel
theorem dX1_bags_6 : decode cX1_bags 6 = .ok (.getfield 48, 3) := by decide +kernel
theorem dX1_bags_9 : decode cX1_bags 9 = .ok (.ireturn, 1) := by decide +kernel
set_option maxRecDepth 20000 in
theorem ggX1_placeOf_X1_isBag : GoodIn wsX1_placeOf wsX1_isBag := goodIn_r _ [6, 7, 8, 9, 10, 5, 11, 12, 13, 14, 15, 16, 17, 18, 19, 20, 21, 22, 23, 24, 25] (by decide +kernel) (by decide +kernel)
set_option maxRecDepth 20000 in
theorem gX1_placeOf_X1_isBag : GoodIn wsX1_placeOf (wsV RX1 100 RX1 yX1_isBag wsX1_isBag) := goodIn_app (goodIn_of _ (by decide +kernel)) ggX1_placeOf_X1_isBag
theorem dX1_placeOf_0 : decode cX1_placeOf 0 = .ok (.aload_n 0, 1) := by decide +kernel
theorem dX1_placeOf_1 : decode cX1_placeOf 1 = .ok (.iload_n 1, 1) := by decide +kernel
theorem dX1_placeOf_2 : decode cX1_placeOf 2 = .ok (.invokevirtual 100, 3) := by decide +kernel
theorem dX1_placeOf_5 : decode cX1_placeOf 5 = .ok (.ifCond .eq 12, 3) := by decide +kernel
theorem dX1_placeOf_8 : decode cX1_placeOf 8 = .ok (.aload_n 0, 1) := by decide +kernel
theorem dX1_placeOf_9 : decode cX1_placeOf 9 = .ok (.getfield 19, 3) := by decide +kernel
theorem dX1_placeOf_12 : decode cX1_placeOf 12 = .ok (.iload_n 1, 1) := by decide +kernel
theorem dX1_placeOf_13 : decode cX1_placeOf 13 = .ok (.iaload, 1) := by decide +kernel
theorem dX1_placeOf_14 : decode cX1_placeOf 14 = .ok (.goto 4, 3) := by decide +kernel
theorem dX1_placeOf_17 : decode cX1_placeOf 17 = .ok (.iconst 0, 1) := by decide +kernel
theorem dX1_placeOf_18 : decode cX1_placeOf 18 = .ok (.ireturn, 1) := by decide +kernel
set_option maxRecDepth 20000 in
theorem ggX1_placeByScans_X1_isBag : GoodIn wsX1_placeByScans wsX1_isBag := goodIn_r _ [8, 9, 10, 11, 12, 7, 13, 18, 19, 20, 21, 22, 23, 24, 25, 26, 27, 28, 29, 30, 31] (by decide +kernel) (by decide +kernel)
set_option maxRecDepth 20000 in
theorem gX1_placeByScans_X1_isBag : GoodIn wsX1_placeByScans (wsV RX1 100 RX1 yX1_isBag wsX1_isBag) := goodIn_app (goodIn_of _ (by decide +kernel)) ggX1_placeByScans_X1_isBag
set_option maxRecDepth 20000 in
theorem ggX1_placeByScans_X1_in : GoodIn wsX1_placeByScans wsX1_in := goodIn_r _ [13] (by decide +kernel) (by decide +kernel)
set_option maxRecDepth 20000 in
theorem gX1_placeByScans_X1_in : GoodIn wsX1_placeByScans (va_wsS RX1 44 yX1_in wsX1_in) := goodIn_app (goodIn_of _ (by decide +kernel)) ggX1_placeByScans_X1_in
set_option maxRecDepth 20000 in
theorem ggX1_placeByScans_X1_fails : GoodIn wsX1_placeByScans wsX1_fails := goodIn_r _ [17, 10, 18, 19, 20, 21, 22, 23, 24, 25, 26, 27, 28, 29, 30, 31] (by decide +kernel) (by decide +kernel)
set_option maxRecDepth 20000 in
theorem gX1_placeByScans_X1_fails : GoodIn wsX1_placeByScans (wsV RX1 83 RX1 yX1_fails wsX1_fails) := goodIn_app (goodIn_of _ (by decide +kernel)) ggX1_placeByScans_X1_fails
theorem dX1_placeByScans_0 : decode cX1_placeByScans 0 = .ok (.aload_n 0, 1) := by decide +kernel
theorem dX1_placeByScans_1 : decode cX1_placeByScans 1 = .ok (.iload_n 1, 1) := by decide +kernel
theorem dX1_placeByScans_2 : decode cX1_placeByScans 2 = .ok (.invokevirtual 100, 3) := by decide +kernel
theorem dX1_placeByScans_5 : decode cX1_placeByScans 5 = .ok (.ifCond .ne 5, 3) := by decide +kernel
theorem dX1_placeByScans_8 : decode cX1_placeByScans 8 = .ok (.iconst 0, 1) := by decide +kernel
theorem dX1_placeByScans_9 : decode cX1_placeByScans 9 = .ok (.ireturn, 1) := by decide +kernel
theorem dX1_placeByScans_10 : decode cX1_placeByScans 10 = .ok (.iload_n 2, 1) := by decide +kernel
theorem dX1_placeByScans_11 : decode cX1_placeByScans 11 = .ok (.iconst 0, 1) := by decide +kernel
theorem dX1_placeByScans_12 : decode cX1_placeByScans 12 = .ok (.aload_n 0, 1) := by decide +kernel
theorem dX1_placeByScans_13 : decode cX1_placeByScans 13 = .ok (.getfield 54, 3) := by decide +kernel
theorem dX1_placeByScans_16 : decode cX1_placeByScans 16 = .ok (.invokestatic 44, 3) := by decide +kernel
theorem dX1_placeByScans_19 : decode cX1_placeByScans 19 = .ok (.ifCond .ne 9, 3) := by decide +kernel
theorem dX1_placeByScans_22 : decode cX1_placeByScans 22 = .ok (.aload_n 0, 1) := by decide +kernel
theorem dX1_placeByScans_23 : decode cX1_placeByScans 23 = .ok (.iconst 2, 1) := by decide +kernel
theorem dX1_placeByScans_24 : decode cX1_placeByScans 24 = .ok (.invokevirtual 83, 3) := by decide +kernel
theorem dX1_placeByScans_27 : decode cX1_placeByScans 27 = .ok (.ireturn, 1) := by decide +kernel
theorem dX1_placeByScans_28 : decode cX1_placeByScans 28 = .ok (.iconst (-1), 1) := by decide +kernel
theorem dX1_placeByScans_29 : decode cX1_placeByScans 29 = .ok (.istore_n 3, 1) := by decide +kernel
theorem dX1_placeByScans_30 : decode cX1_placeByScans 30 = .ok (.iconst 0, 1) := by decide +kernel
theorem dX1_placeByScans_31 : decode cX1_placeByScans 31 = .ok (.istore 4, 2) := by decide +kernel
theorem dX1_placeByScans_33 : decode cX1_placeByScans 33 = .ok (.iload 4, 2) := by decide +kernel
theorem dX1_placeByScans_35 : decode cX1_placeByScans 35 = .ok (.aload_n 0, 1) := by decide +kernel
theorem dX1_placeByScans_36 : decode cX1_placeByScans 36 = .ok (.getfield 51, 3) := by decide +kernel
theorem dX1_placeByScans_39 : decode cX1_placeByScans 39 = .ok (.if_icmp .ge 56, 3) := by decide +kernel
theorem dX1_placeByScans_42 : decode cX1_placeByScans 42 = .ok (.aload_n 0, 1) := by decide +kernel
theorem dX1_placeByScans_43 : decode cX1_placeByScans 43 = .ok (.getfield 34, 3) := by decide +kernel
theorem dX1_placeByScans_46 : decode cX1_placeByScans 46 = .ok (.iload 4, 2) := by decide +kernel
theorem dX1_placeByScans_48 : decode cX1_placeByScans 48 = .ok (.iaload, 1) := by decide +kernel
theorem dX1_placeByScans_49 : decode cX1_placeByScans 49 = .ok (.bipush 64, 2) := by decide +kernel
theorem dX1_placeByScans_51 : decode cX1_placeByScans 51 = .ok (.irem, 1) := by decide +kernel
theorem dX1_placeByScans_52 : decode cX1_placeByScans 52 = .ok (.iload_n 1, 1) := by decide +kernel
theorem dX1_placeByScans_53 : decode cX1_placeByScans 53 = .ok (.if_icmp .ne 34, 3) := by decide +kernel
theorem dX1_placeByScans_56 : decode cX1_placeByScans 56 = .ok (.aload_n 0, 1) := by decide +kernel
theorem dX1_placeByScans_57 : decode cX1_placeByScans 57 = .ok (.getfield 34, 3) := by decide +kernel
theorem dX1_placeByScans_60 : decode cX1_placeByScans 60 = .ok (.iload 4, 2) := by decide +kernel
theorem dX1_placeByScans_62 : decode cX1_placeByScans 62 = .ok (.iaload, 1) := by decide +kernel
theorem dX1_placeByScans_63 : decode cX1_placeByScans 63 = .ok (.sipush 1024, 3) := by decide +kernel
theorem dX1_placeByScans_66 : decode cX1_placeByScans 66 = .ok (.idiv, 1) := by decide +kernel
theorem dX1_placeByScans_67 : decode cX1_placeByScans 67 = .ok (.iload_n 2, 1) := by decide +kernel
theorem dX1_placeByScans_68 : decode cX1_placeByScans 68 = .ok (.if_icmp .gt 19, 3) := by decide +kernel
theorem dX1_placeByScans_71 : decode cX1_placeByScans 71 = .ok (.aload_n 0, 1) := by decide +kernel
theorem dX1_placeByScans_72 : decode cX1_placeByScans 72 = .ok (.getfield 34, 3) := by decide +kernel
theorem dX1_placeByScans_75 : decode cX1_placeByScans 75 = .ok (.iload 4, 2) := by decide +kernel
theorem dX1_placeByScans_77 : decode cX1_placeByScans 77 = .ok (.iaload, 1) := by decide +kernel
theorem dX1_placeByScans_78 : decode cX1_placeByScans 78 = .ok (.bipush 64, 2) := by decide +kernel
theorem dX1_placeByScans_80 : decode cX1_placeByScans 80 = .ok (.idiv, 1) := by decide +kernel
theorem dX1_placeByScans_81 : decode cX1_placeByScans 81 = .ok (.bipush 16, 2) := by decide +kernel
theorem dX1_placeByScans_83 : decode cX1_placeByScans 83 = .ok (.irem, 1) := by decide +kernel
theorem dX1_placeByScans_84 : decode cX1_placeByScans 84 = .ok (.goto 4, 3) := by decide +kernel
theorem dX1_placeByScans_87 : decode cX1_placeByScans 87 = .ok (.iload_n 3, 1) := by decide +kernel
theorem dX1_placeByScans_88 : decode cX1_placeByScans 88 = .ok (.istore_n 3, 1) := by decide +kernel
theorem dX1_placeByScans_89 : decode cX1_placeByScans 89 = .ok (.iinc 4 1, 3) := by decide +kernel
theorem dX1_placeByScans_92 : decode cX1_placeByScans 92 = .ok (.goto (-59), 3) := by decide +kernel
theorem dX1_placeByScans_95 : decode cX1_placeByScans 95 = .ok (.iload_n 3, 1) := by decide +kernel
theorem dX1_placeByScans_96 : decode cX1_placeByScans 96 = .ok (.ireturn, 1) := by decide +kernel
set_option maxRecDepth 20000 in
theorem ggX1_flightOf_X1_isBag : GoodIn wsX1_flightOf wsX1_isBag := goodIn_r _ [6, 7, 8, 9, 10, 5, 11, 12, 13, 14, 15, 16, 17, 18, 19, 20, 21, 22, 23, 24, 25] (by decide +kernel) (by decide +kernel)
set_option maxRecDepth 20000 in
theorem gX1_flightOf_X1_isBag : GoodIn wsX1_flightOf (wsV RX1 100 RX1 yX1_isBag wsX1_isBag) := goodIn_app (goodIn_of _ (by decide +kernel)) ggX1_flightOf_X1_isBag
theorem dX1_flightOf_0 : decode cX1_flightOf 0 = .ok (.aload_n 0, 1) := by decide +kernel
theorem dX1_flightOf_1 : decode cX1_flightOf 1 = .ok (.iload_n 1, 1) := by decide +kernel
theorem dX1_flightOf_2 : decode cX1_flightOf 2 = .ok (.invokevirtual 100, 3) := by decide +kernel
theorem dX1_flightOf_5 : decode cX1_flightOf 5 = .ok (.ifCond .eq 12, 3) := by decide +kernel
theorem dX1_flightOf_8 : decode cX1_flightOf 8 = .ok (.aload_n 0, 1) := by decide +kernel
theorem dX1_flightOf_9 : decode cX1_flightOf 9 = .ok (.getfield 22, 3) := by decide +kernel
theorem dX1_flightOf_12 : decode cX1_flightOf 12 = .ok (.iload_n 1, 1) := by decide +kernel
theorem dX1_flightOf_13 : decode cX1_flightOf 13 = .ok (.iaload, 1) := by decide +kernel
theorem dX1_flightOf_14 : decode cX1_flightOf 14 = .ok (.goto 4, 3) := by decide +kernel
theorem dX1_flightOf_17 : decode cX1_flightOf 17 = .ok (.iconst 0, 1) := by decide +kernel
theorem dX1_flightOf_18 : decode cX1_flightOf 18 = .ok (.ireturn, 1) := by decide +kernel
set_option maxRecDepth 20000 in
theorem ggX1_count_X1_in : GoodIn wsX1_count wsX1_in := goodIn_r _ [5] (by decide +kernel) (by decide +kernel)
set_option maxRecDepth 20000 in
theorem gX1_count_X1_in : GoodIn wsX1_count (va_wsS RX1 44 yX1_in wsX1_in) := goodIn_app (goodIn_of _ (by decide +kernel)) ggX1_count_X1_in
set_option maxRecDepth 20000 in
theorem ggX1_count_X1_at : GoodIn wsX1_count wsX1_at := goodIn_r _ [9, 10, 11, 12, 13, 14, 15, 16, 17, 18, 19, 20, 21, 22, 23, 24, 25] (by decide +kernel) (by decide +kernel)
set_option maxRecDepth 20000 in
theorem gX1_count_X1_at : GoodIn wsX1_count (wsV RX1 57 RX1 yX1_at wsX1_at) := goodIn_app (goodIn_of _ (by decide +kernel)) ggX1_count_X1_at
theorem dX1_count_0 : decode cX1_count 0 = .ok (.aload_n 0, 1) := by decide +kernel
theorem dX1_count_1 : decode cX1_count 1 = .ok (.iload_n 1, 1) := by decide +kernel
theorem dX1_count_2 : decode cX1_count 2 = .ok (.iconst 1, 1) := by decide +kernel
theorem dX1_count_3 : decode cX1_count 3 = .ok (.bipush 11, 2) := by decide +kernel
theorem dX1_count_5 : decode cX1_count 5 = .ok (.invokestatic 44, 3) := by decide +kernel
theorem dX1_count_8 : decode cX1_count 8 = .ok (.ifCond .eq 7, 3) := by decide +kernel
theorem dX1_count_11 : decode cX1_count 11 = .ok (.iconst 0, 1) := by decide +kernel
theorem dX1_count_12 : decode cX1_count 12 = .ok (.goto 4, 3) := by decide +kernel
theorem dX1_count_15 : decode cX1_count 15 = .ok (.iconst 1, 1) := by decide +kernel
theorem dX1_count_16 : decode cX1_count 16 = .ok (.putfield 37, 3) := by decide +kernel
theorem dX1_count_19 : decode cX1_count 19 = .ok (.aload_n 0, 1) := by decide +kernel
theorem dX1_count_20 : decode cX1_count 20 = .ok (.getfield 37, 3) := by decide +kernel
theorem dX1_count_23 : decode cX1_count 23 = .ok (.ifCond .ne 11, 3) := by decide +kernel
theorem dX1_count_26 : decode cX1_count 26 = .ok (.aload_n 0, 1) := by decide +kernel
theorem dX1_count_27 : decode cX1_count 27 = .ok (.iload_n 1, 1) := by decide +kernel
theorem dX1_count_28 : decode cX1_count 28 = .ok (.invokevirtual 57, 3) := by decide +kernel
theorem dX1_count_31 : decode cX1_count 31 = .ok (.goto 4, 3) := by decide +kernel
theorem dX1_count_34 : decode cX1_count 34 = .ok (.iconst 0, 1) := by decide +kernel
theorem dX1_count_35 : decode cX1_count 35 = .ok (.ireturn, 1) := by decide +kernel
set_option maxRecDepth 20000 in
theorem ggX1_atLateral_X1_in : GoodIn wsX1_atLateral wsX1_in := goodIn_r _ [9] (by decide +kernel) (by decide +kernel)
set_option maxRecDepth 20000 in
theorem gX1_atLateral_X1_in : GoodIn wsX1_atLateral (va_wsS RX1 44 yX1_in wsX1_in) := goodIn_app (goodIn_of _ (by decide +kernel)) ggX1_atLateral_X1_in
theorem dX1_atLateral_0 : decode cX1_atLateral 0 = .ok (.aload_n 0, 1) := by decide +kernel
theorem dX1_atLateral_1 : decode cX1_atLateral 1 = .ok (.iload_n 1, 1) := by decide +kernel
theorem dX1_atLateral_2 : decode cX1_atLateral 2 = .ok (.iconst 0, 1) := by decide +kernel
theorem dX1_atLateral_3 : decode cX1_atLateral 3 = .ok (.iconst 3, 1) := by decide +kernel
theorem dX1_atLateral_4 : decode cX1_atLateral 4 = .ok (.invokestatic 44, 3) := by decide +kernel
theorem dX1_atLateral_7 : decode cX1_atLateral 7 = .ok (.ifCond .eq 7, 3) := by decide +kernel
theorem dX1_atLateral_10 : decode cX1_atLateral 10 = .ok (.iconst 0, 1) := by decide +kernel
theorem dX1_atLateral_11 : decode cX1_atLateral 11 = .ok (.goto 4, 3) := by decide +kernel
theorem dX1_atLateral_14 : decode cX1_atLateral 14 = .ok (.iconst 1, 1) := by decide +kernel
theorem dX1_atLateral_15 : decode cX1_atLateral 15 = .ok (.putfield 37, 3) := by decide +kernel
theorem dX1_atLateral_18 : decode cX1_atLateral 18 = .ok (.iconst 0, 1) := by decide +kernel
theorem dX1_atLateral_19 : decode cX1_atLateral 19 = .ok (.istore_n 2, 1) := by decide +kernel
theorem dX1_atLateral_20 : decode cX1_atLateral 20 = .ok (.iconst 0, 1) := by decide +kernel
theorem dX1_atLateral_21 : decode cX1_atLateral 21 = .ok (.istore_n 3, 1) := by decide +kernel
theorem dX1_atLateral_22 : decode cX1_atLateral 22 = .ok (.iload_n 3, 1) := by decide +kernel
theorem dX1_atLateral_23 : decode cX1_atLateral 23 = .ok (.aload_n 0, 1) := by decide +kernel
theorem dX1_atLateral_24 : decode cX1_atLateral 24 = .ok (.getfield 48, 3) := by decide +kernel
theorem dX1_atLateral_27 : decode cX1_atLateral 27 = .ok (.if_icmp .ge 50, 3) := by decide +kernel
theorem dX1_atLateral_30 : decode cX1_atLateral 30 = .ok (.aload_n 0, 1) := by decide +kernel
theorem dX1_atLateral_31 : decode cX1_atLateral 31 = .ok (.getfield 37, 3) := by decide +kernel
theorem dX1_atLateral_34 : decode cX1_atLateral 34 = .ok (.ifCond .ne 43, 3) := by decide +kernel
theorem dX1_atLateral_37 : decode cX1_atLateral 37 = .ok (.iload_n 2, 1) := by decide +kernel
theorem dX1_atLateral_38 : decode cX1_atLateral 38 = .ok (.aload_n 0, 1) := by decide +kernel
theorem dX1_atLateral_39 : decode cX1_atLateral 39 = .ok (.getfield 19, 3) := by decide +kernel
theorem dX1_atLateral_42 : decode cX1_atLateral 42 = .ok (.iload_n 3, 1) := by decide +kernel
theorem dX1_atLateral_43 : decode cX1_atLateral 43 = .ok (.iaload, 1) := by decide +kernel
theorem dX1_atLateral_44 : decode cX1_atLateral 44 = .ok (.bipush 7, 2) := by decide +kernel
theorem dX1_atLateral_46 : decode cX1_atLateral 46 = .ok (.if_icmp .ne 22, 3) := by decide +kernel
theorem dX1_atLateral_49 : decode cX1_atLateral 49 = .ok (.aload_n 0, 1) := by decide +kernel
theorem dX1_atLateral_50 : decode cX1_atLateral 50 = .ok (.getfield 13, 3) := by decide +kernel
theorem dX1_atLateral_53 : decode cX1_atLateral 53 = .ok (.aload_n 0, 1) := by decide +kernel
theorem dX1_atLateral_54 : decode cX1_atLateral 54 = .ok (.getfield 22, 3) := by decide +kernel
theorem dX1_atLateral_57 : decode cX1_atLateral 57 = .ok (.iload_n 3, 1) := by decide +kernel
theorem dX1_atLateral_58 : decode cX1_atLateral 58 = .ok (.iaload, 1) := by decide +kernel
theorem dX1_atLateral_59 : decode cX1_atLateral 59 = .ok (.iaload, 1) := by decide +kernel
theorem dX1_atLateral_60 : decode cX1_atLateral 60 = .ok (.iload_n 1, 1) := by decide +kernel
theorem dX1_atLateral_61 : decode cX1_atLateral 61 = .ok (.if_icmp .ne 7, 3) := by decide +kernel
theorem dX1_atLateral_64 : decode cX1_atLateral 64 = .ok (.iconst 1, 1) := by decide +kernel
theorem dX1_atLateral_65 : decode cX1_atLateral 65 = .ok (.goto 4, 3) := by decide +kernel
theorem dX1_atLateral_68 : decode cX1_atLateral 68 = .ok (.iconst 0, 1) := by decide +kernel
theorem dX1_atLateral_69 : decode cX1_atLateral 69 = .ok (.iadd, 1) := by decide +kernel
theorem dX1_atLateral_70 : decode cX1_atLateral 70 = .ok (.istore_n 2, 1) := by decide +kernel
theorem dX1_atLateral_71 : decode cX1_atLateral 71 = .ok (.iinc 3 1, 3) := by decide +kernel
theorem dX1_atLateral_74 : decode cX1_atLateral 74 = .ok (.goto (-52), 3) := by decide +kernel
theorem dX1_atLateral_77 : decode cX1_atLateral 77 = .ok (.iload_n 2, 1) := by decide +kernel
theorem dX1_atLateral_78 : decode cX1_atLateral 78 = .ok (.ireturn, 1) := by decide +kernel
set_option maxRecDepth 20000 in
theorem ggX1_unmatched_X1_isFlight : GoodIn wsX1_unmatched wsX1_isFlight := goodIn_r _ [8, 9, 10, 11, 12, 7, 13, 21, 22, 23, 24, 25, 26, 27, 28, 29, 30, 31, 32, 33, 34] (by decide +kernel) (by decide +kernel)
set_option maxRecDepth 20000 in
theorem gX1_unmatched_X1_isFlight : GoodIn wsX1_unmatched (wsV RX1 89 RX1 yX1_isFlight wsX1_isFlight) := goodIn_app (goodIn_of _ (by decide +kernel)) ggX1_unmatched_X1_isFlight
set_option maxRecDepth 20000 in
theorem ggX1_unmatched_X1_isMatched : GoodIn wsX1_unmatched wsX1_isMatched := goodIn_r _ [17, 18, 19, 20, 21, 22, 23, 24, 25, 26, 27, 28, 29, 30, 31, 32, 33, 34] (by decide +kernel) (by decide +kernel)
set_option maxRecDepth 20000 in
theorem gX1_unmatched_X1_isMatched : GoodIn wsX1_unmatched (wsV RX1 68 RX1 yX1_isMatched wsX1_isMatched) := goodIn_app (goodIn_of _ (by decide +kernel)) ggX1_unmatched_X1_isMatched
theorem dX1_unmatched_0 : decode cX1_unmatched 0 = .ok (.iconst 0, 1) := by decide +kernel
theorem dX1_unmatched_1 : decode cX1_unmatched 1 = .ok (.istore_n 2, 1) := by decide +kernel
theorem dX1_unmatched_2 : decode cX1_unmatched 2 = .ok (.iconst 0, 1) := by decide +kernel
theorem dX1_unmatched_3 : decode cX1_unmatched 3 = .ok (.istore_n 3, 1) := by decide +kernel
theorem dX1_unmatched_4 : decode cX1_unmatched 4 = .ok (.aload_n 0, 1) := by decide +kernel
theorem dX1_unmatched_5 : decode cX1_unmatched 5 = .ok (.iload_n 1, 1) := by decide +kernel
theorem dX1_unmatched_6 : decode cX1_unmatched 6 = .ok (.invokevirtual 89, 3) := by decide +kernel
theorem dX1_unmatched_9 : decode cX1_unmatched 9 = .ok (.ifCond .eq 54, 3) := by decide +kernel
theorem dX1_unmatched_12 : decode cX1_unmatched 12 = .ok (.iload_n 3, 1) := by decide +kernel
theorem dX1_unmatched_13 : decode cX1_unmatched 13 = .ok (.aload_n 0, 1) := by decide +kernel
theorem dX1_unmatched_14 : decode cX1_unmatched 14 = .ok (.getfield 48, 3) := by decide +kernel
theorem dX1_unmatched_17 : decode cX1_unmatched 17 = .ok (.if_icmp .ge 46, 3) := by decide +kernel
theorem dX1_unmatched_20 : decode cX1_unmatched 20 = .ok (.iload_n 2, 1) := by decide +kernel
theorem dX1_unmatched_21 : decode cX1_unmatched 21 = .ok (.aload_n 0, 1) := by decide +kernel
theorem dX1_unmatched_22 : decode cX1_unmatched 22 = .ok (.getfield 19, 3) := by decide +kernel
theorem dX1_unmatched_25 : decode cX1_unmatched 25 = .ok (.iload_n 3, 1) := by decide +kernel
theorem dX1_unmatched_26 : decode cX1_unmatched 26 = .ok (.iaload, 1) := by decide +kernel
theorem dX1_unmatched_27 : decode cX1_unmatched 27 = .ok (.bipush 8, 2) := by decide +kernel
theorem dX1_unmatched_29 : decode cX1_unmatched 29 = .ok (.if_icmp .ne 25, 3) := by decide +kernel
theorem dX1_unmatched_32 : decode cX1_unmatched 32 = .ok (.aload_n 0, 1) := by decide +kernel
theorem dX1_unmatched_33 : decode cX1_unmatched 33 = .ok (.getfield 22, 3) := by decide +kernel
theorem dX1_unmatched_36 : decode cX1_unmatched 36 = .ok (.iload_n 3, 1) := by decide +kernel
theorem dX1_unmatched_37 : decode cX1_unmatched 37 = .ok (.iaload, 1) := by decide +kernel
theorem dX1_unmatched_38 : decode cX1_unmatched 38 = .ok (.iload_n 1, 1) := by decide +kernel
theorem dX1_unmatched_39 : decode cX1_unmatched 39 = .ok (.if_icmp .ne 15, 3) := by decide +kernel
theorem dX1_unmatched_42 : decode cX1_unmatched 42 = .ok (.aload_n 0, 1) := by decide +kernel
theorem dX1_unmatched_43 : decode cX1_unmatched 43 = .ok (.iload_n 3, 1) := by decide +kernel
theorem dX1_unmatched_44 : decode cX1_unmatched 44 = .ok (.invokevirtual 68, 3) := by decide +kernel
theorem dX1_unmatched_47 : decode cX1_unmatched 47 = .ok (.ifCond .ne 7, 3) := by decide +kernel
theorem dX1_unmatched_50 : decode cX1_unmatched 50 = .ok (.iconst 1, 1) := by decide +kernel
theorem dX1_unmatched_51 : decode cX1_unmatched 51 = .ok (.goto 4, 3) := by decide +kernel
theorem dX1_unmatched_54 : decode cX1_unmatched 54 = .ok (.iconst 0, 1) := by decide +kernel
theorem dX1_unmatched_55 : decode cX1_unmatched 55 = .ok (.iadd, 1) := by decide +kernel
theorem dX1_unmatched_56 : decode cX1_unmatched 56 = .ok (.istore_n 2, 1) := by decide +kernel
theorem dX1_unmatched_57 : decode cX1_unmatched 57 = .ok (.iinc 3 1, 3) := by decide +kernel
theorem dX1_unmatched_60 : decode cX1_unmatched 60 = .ok (.goto (-56), 3) := by decide +kernel
theorem dX1_unmatched_63 : decode cX1_unmatched 63 = .ok (.iload_n 2, 1) := by decide +kernel
theorem dX1_unmatched_64 : decode cX1_unmatched 64 = .ok (.ireturn, 1) := by decide +kernel
set_option maxRecDepth 20000 in
theorem ggX1_untilClose_X1_isFlight : GoodIn wsX1_untilClose wsX1_isFlight := goodIn_r _ [7, 8, 9, 10, 11, 6, 12, 13, 14, 15, 16, 17, 18, 19, 20, 21, 22, 23, 24, 25, 26] (by decide +kernel) (by decide +kernel)
set_option maxRecDepth 20000 in
theorem gX1_untilClose_X1_isFlight : GoodIn wsX1_untilClose (wsV RX1 89 RX1 yX1_isFlight wsX1_isFlight) := goodIn_app (goodIn_of _ (by decide +kernel)) ggX1_untilClose_X1_isFlight
theorem dX1_untilClose_0 : decode cX1_untilClose 0 = .ok (.aload_n 0, 1) := by decide +kernel
theorem dX1_untilClose_1 : decode cX1_untilClose 1 = .ok (.iload_n 1, 1) := by decide +kernel
theorem dX1_untilClose_2 : decode cX1_untilClose 2 = .ok (.invokevirtual 89, 3) := by decide +kernel
theorem dX1_untilClose_5 : decode cX1_untilClose 5 = .ok (.ifCond .ne 5, 3) := by decide +kernel
theorem dX1_untilClose_8 : decode cX1_untilClose 8 = .ok (.iconst 0, 1) := by decide +kernel
theorem dX1_untilClose_9 : decode cX1_untilClose 9 = .ok (.ireturn, 1) := by decide +kernel
theorem dX1_untilClose_10 : decode cX1_untilClose 10 = .ok (.aload_n 0, 1) := by decide +kernel
theorem dX1_untilClose_11 : decode cX1_untilClose 11 = .ok (.getfield 7, 3) := by decide +kernel
theorem dX1_untilClose_14 : decode cX1_untilClose 14 = .ok (.iload_n 1, 1) := by decide +kernel
theorem dX1_untilClose_15 : decode cX1_untilClose 15 = .ok (.iaload, 1) := by decide +kernel
theorem dX1_untilClose_16 : decode cX1_untilClose 16 = .ok (.bipush 10, 2) := by decide +kernel
theorem dX1_untilClose_18 : decode cX1_untilClose 18 = .ok (.isub, 1) := by decide +kernel
theorem dX1_untilClose_19 : decode cX1_untilClose 19 = .ok (.aload_n 0, 1) := by decide +kernel
theorem dX1_untilClose_20 : decode cX1_untilClose 20 = .ok (.getfield 54, 3) := by decide +kernel
theorem dX1_untilClose_23 : decode cX1_untilClose 23 = .ok (.isub, 1) := by decide +kernel
theorem dX1_untilClose_24 : decode cX1_untilClose 24 = .ok (.istore_n 2, 1) := by decide +kernel
theorem dX1_untilClose_25 : decode cX1_untilClose 25 = .ok (.iload_n 2, 1) := by decide +kernel
theorem dX1_untilClose_26 : decode cX1_untilClose 26 = .ok (.ifCond .le 7, 3) := by decide +kernel
theorem dX1_untilClose_29 : decode cX1_untilClose 29 = .ok (.iload_n 2, 1) := by decide +kernel
theorem dX1_untilClose_30 : decode cX1_untilClose 30 = .ok (.goto 4, 3) := by decide +kernel
theorem dX1_untilClose_33 : decode cX1_untilClose 33 = .ok (.iconst 0, 1) := by decide +kernel
theorem dX1_untilClose_34 : decode cX1_untilClose 34 = .ok (.ireturn, 1) := by decide +kernel
theorem dX1_scans_0 : decode cX1_scans 0 = .ok (.aload_n 0, 1) := by decide +kernel
theorem dX1_scans_1 : decode cX1_scans 1 = .ok (.iconst 0, 1) := by decide +kernel
theorem dX1_scans_2 : decode cX1_scans 2 = .ok (.putfield 37, 3) := by decide +kernel
theorem dX1_scans_5 : decode cX1_scans 5 = .ok (.aload_n 0, 1) := by decide +kernel
theorem dX1_scans_6 : decode cX1_scans 6 = .ok (.getfield 51, 3) := by decide +kernel
theorem dX1_scans_9 : decode cX1_scans 9 = .ok (.ireturn, 1) := by decide +kernel
set_option maxRecDepth 20000 in
theorem ggX1_isScan_X1_in : GoodIn wsX1_isScan wsX1_in := goodIn_r _ [6] (by decide +kernel) (by decide +kernel)
set_option maxRecDepth 20000 in
theorem gX1_isScan_X1_in : GoodIn wsX1_isScan (va_wsS RX1 44 yX1_in wsX1_in) := goodIn_app (goodIn_of _ (by decide +kernel)) ggX1_isScan_X1_in
theorem dX1_isScan_0 : decode cX1_isScan 0 = .ok (.aload_n 0, 1) := by decide +kernel
theorem dX1_isScan_1 : decode cX1_isScan 1 = .ok (.iload_n 1, 1) := by decide +kernel
theorem dX1_isScan_2 : decode cX1_isScan 2 = .ok (.iconst 0, 1) := by decide +kernel
theorem dX1_isScan_3 : decode cX1_isScan 3 = .ok (.aload_n 0, 1) := by decide +kernel
theorem dX1_isScan_4 : decode cX1_isScan 4 = .ok (.getfield 51, 3) := by decide +kernel
theorem dX1_isScan_7 : decode cX1_isScan 7 = .ok (.iconst 1, 1) := by decide +kernel
theorem dX1_isScan_8 : decode cX1_isScan 8 = .ok (.isub, 1) := by decide +kernel
theorem dX1_isScan_9 : decode cX1_isScan 9 = .ok (.invokestatic 44, 3) := by decide +kernel
theorem dX1_isScan_12 : decode cX1_isScan 12 = .ok (.ifCond .eq 7, 3) := by decide +kernel
theorem dX1_isScan_15 : decode cX1_isScan 15 = .ok (.iconst 0, 1) := by decide +kernel
theorem dX1_isScan_16 : decode cX1_isScan 16 = .ok (.goto 4, 3) := by decide +kernel
theorem dX1_isScan_19 : decode cX1_isScan 19 = .ok (.iconst 1, 1) := by decide +kernel
theorem dX1_isScan_20 : decode cX1_isScan 20 = .ok (.putfield 37, 3) := by decide +kernel
theorem dX1_isScan_23 : decode cX1_isScan 23 = .ok (.aload_n 0, 1) := by decide +kernel
theorem dX1_isScan_24 : decode cX1_isScan 24 = .ok (.getfield 37, 3) := by decide +kernel
theorem dX1_isScan_27 : decode cX1_isScan 27 = .ok (.ifCond .ne 7, 3) := by decide +kernel
theorem dX1_isScan_30 : decode cX1_isScan 30 = .ok (.iconst 1, 1) := by decide +kernel
theorem dX1_isScan_31 : decode cX1_isScan 31 = .ok (.goto 4, 3) := by decide +kernel
theorem dX1_isScan_34 : decode cX1_isScan 34 = .ok (.iconst 0, 1) := by decide +kernel
theorem dX1_isScan_35 : decode cX1_isScan 35 = .ok (.ireturn, 1) := by decide +kernel
set_option maxRecDepth 20000 in
theorem ggX1_bagOfScan_X1_isScan : GoodIn wsX1_bagOfScan wsX1_isScan := goodIn_r _ [6, 7, 8, 9, 10, 5, 11, 12, 13, 14, 15, 16, 17, 18, 19, 20, 21, 22, 23, 24, 25] (by decide +kernel) (by decide +kernel)
set_option maxRecDepth 20000 in
theorem gX1_bagOfScan_X1_isScan : GoodIn wsX1_bagOfScan (wsV RX1 106 RX1 yX1_isScan wsX1_isScan) := goodIn_app (goodIn_of _ (by decide +kernel)) ggX1_bagOfScan_X1_isScan
theorem dX1_bagOfScan_0 : decode cX1_bagOfScan 0 = .ok (.aload_n 0, 1) := by decide +kernel
theorem dX1_bagOfScan_1 : decode cX1_bagOfScan 1 = .ok (.iload_n 1, 1) := by decide +kernel
theorem dX1_bagOfScan_2 : decode cX1_bagOfScan 2 = .ok (.invokevirtual 106, 3) := by decide +kernel
theorem dX1_bagOfScan_5 : decode cX1_bagOfScan 5 = .ok (.ifCond .eq 15, 3) := by decide +kernel
theorem dX1_bagOfScan_8 : decode cX1_bagOfScan 8 = .ok (.aload_n 0, 1) := by decide +kernel
theorem dX1_bagOfScan_9 : decode cX1_bagOfScan 9 = .ok (.getfield 34, 3) := by decide +kernel
theorem dX1_bagOfScan_12 : decode cX1_bagOfScan 12 = .ok (.iload_n 1, 1) := by decide +kernel
theorem dX1_bagOfScan_13 : decode cX1_bagOfScan 13 = .ok (.iaload, 1) := by decide +kernel
theorem dX1_bagOfScan_14 : decode cX1_bagOfScan 14 = .ok (.bipush 64, 2) := by decide +kernel
theorem dX1_bagOfScan_16 : decode cX1_bagOfScan 16 = .ok (.irem, 1) := by decide +kernel
theorem dX1_bagOfScan_17 : decode cX1_bagOfScan 17 = .ok (.goto 4, 3) := by decide +kernel
theorem dX1_bagOfScan_20 : decode cX1_bagOfScan 20 = .ok (.iconst 0, 1) := by decide +kernel
theorem dX1_bagOfScan_21 : decode cX1_bagOfScan 21 = .ok (.ireturn, 1) := by decide +kernel
set_option maxRecDepth 20000 in
theorem ggX1_placeOfScan_X1_isScan : GoodIn wsX1_placeOfScan wsX1_isScan := goodIn_r _ [6, 7, 8, 9, 10, 5, 11, 12, 13, 14, 15, 16, 17, 18, 19, 20, 21, 22, 23, 24, 25] (by decide +kernel) (by decide +kernel)
set_option maxRecDepth 20000 in
theorem gX1_placeOfScan_X1_isScan : GoodIn wsX1_placeOfScan (wsV RX1 106 RX1 yX1_isScan wsX1_isScan) := goodIn_app (goodIn_of _ (by decide +kernel)) ggX1_placeOfScan_X1_isScan
theorem dX1_placeOfScan_0 : decode cX1_placeOfScan 0 = .ok (.aload_n 0, 1) := by decide +kernel
theorem dX1_placeOfScan_1 : decode cX1_placeOfScan 1 = .ok (.iload_n 1, 1) := by decide +kernel
theorem dX1_placeOfScan_2 : decode cX1_placeOfScan 2 = .ok (.invokevirtual 106, 3) := by decide +kernel
theorem dX1_placeOfScan_5 : decode cX1_placeOfScan 5 = .ok (.ifCond .eq 18, 3) := by decide +kernel
theorem dX1_placeOfScan_8 : decode cX1_placeOfScan 8 = .ok (.aload_n 0, 1) := by decide +kernel
theorem dX1_placeOfScan_9 : decode cX1_placeOfScan 9 = .ok (.getfield 34, 3) := by decide +kernel
theorem dX1_placeOfScan_12 : decode cX1_placeOfScan 12 = .ok (.iload_n 1, 1) := by decide +kernel
theorem dX1_placeOfScan_13 : decode cX1_placeOfScan 13 = .ok (.iaload, 1) := by decide +kernel
theorem dX1_placeOfScan_14 : decode cX1_placeOfScan 14 = .ok (.bipush 64, 2) := by decide +kernel
theorem dX1_placeOfScan_16 : decode cX1_placeOfScan 16 = .ok (.idiv, 1) := by decide +kernel
theorem dX1_placeOfScan_17 : decode cX1_placeOfScan 17 = .ok (.bipush 16, 2) := by decide +kernel
theorem dX1_placeOfScan_19 : decode cX1_placeOfScan 19 = .ok (.irem, 1) := by decide +kernel
theorem dX1_placeOfScan_20 : decode cX1_placeOfScan 20 = .ok (.goto 4, 3) := by decide +kernel
theorem dX1_placeOfScan_23 : decode cX1_placeOfScan 23 = .ok (.iconst 0, 1) := by decide +kernel
theorem dX1_placeOfScan_24 : decode cX1_placeOfScan 24 = .ok (.ireturn, 1) := by decide +kernel
theorem dJ9_abs_0f7a4_0 : decode cJ9_abs_0f7a4 0 = .ok (.iload_n 0, 1) := by decide +kernel
theorem dJ9_abs_0f7a4_1 : decode cJ9_abs_0f7a4 1 = .ok (.ifCond .ge 8, 3) := by decide +kernel
theorem dJ9_abs_0f7a4_4 : decode cJ9_abs_0f7a4 4 = .ok (.iload_n 0, 1) := by decide +kernel
theorem dJ9_abs_0f7a4_5 : decode cJ9_abs_0f7a4 5 = .ok (.ineg, 1) := by decide +kernel
theorem dJ9_abs_0f7a4_6 : decode cJ9_abs_0f7a4 6 = .ok (.goto 4, 3) := by decide +kernel
theorem dJ9_abs_0f7a4_9 : decode cJ9_abs_0f7a4 9 = .ok (.iload_n 0, 1) := by decide +kernel
theorem dJ9_abs_0f7a4_10 : decode cJ9_abs_0f7a4 10 = .ok (.ireturn, 1) := by decide +kernel
theorem dJ9_max_7cf53_0 : decode cJ9_max_7cf53 0 = .ok (.iload_n 0, 1) := by decide +kernel
theorem dJ9_max_7cf53_1 : decode cJ9_max_7cf53 1 = .ok (.iload_n 1, 1) := by decide +kernel
theorem dJ9_max_7cf53_2 : decode cJ9_max_7cf53 2 = .ok (.if_icmp .lt 7, 3) := by decide +kernel
theorem dJ9_max_7cf53_5 : decode cJ9_max_7cf53 5 = .ok (.iload_n 0, 1) := by decide +kernel
theorem dJ9_max_7cf53_6 : decode cJ9_max_7cf53 6 = .ok (.goto 4, 3) := by decide +kernel
theorem dJ9_max_7cf53_9 : decode cJ9_max_7cf53 9 = .ok (.iload_n 1, 1) := by decide +kernel
theorem dJ9_max_7cf53_10 : decode cJ9_max_7cf53 10 = .ok (.ireturn, 1) := by decide +kernel
set_option maxRecDepth 20000 in
theorem ggL_addFlight_X0_addFlight : GoodIn wsL_addFlight wsX0_addFlight := goodIn_ca (goodIn_ca (goodIn_r _ [7, 8, 9, 10, 11, 12, 13, 14, 15, 16, 17, 18, 6, 19, 20, 21, 22, 23, 24, 25, 26, 27, 28, 29, 30, 31, 32, 33, 34, 35, 36, 37, 38, 39, 40, 41, 42, 43, 44] (by decide +kernel) (by decide +kernel)) (goodIn_sub (fun _ h => List.mem_cons_of_mem _ (List.mem_append_left _ (List.mem_append_right _ h))) (by decide +kernel))) (goodIn_sub (fun _ h => List.mem_cons_of_mem _ (List.mem_append_right _ h)) (by decide +kernel))
set_option maxRecDepth 20000 in
theorem gL_addFlight_X0_addFlight : GoodIn wsL_addFlight (wsV RL 7 RX0 yX0_addFlight wsX0_addFlight) := goodIn_app (goodIn_of _ (by decide +kernel)) ggL_addFlight_X0_addFlight
theorem dL_addFlight_0 : decode cL_addFlight 0 = .ok (.aload_n 2, 1) := by decide +kernel
theorem dL_addFlight_1 : decode cL_addFlight 1 = .ok (.iconst 0, 1) := by decide +kernel
theorem dL_addFlight_2 : decode cL_addFlight 2 = .ok (.aload_n 0, 1) := by decide +kernel
theorem dL_addFlight_3 : decode cL_addFlight 3 = .ok (.iload_n 1, 1) := by decide +kernel
theorem dL_addFlight_4 : decode cL_addFlight 4 = .ok (.invokevirtual 7, 3) := by decide +kernel
theorem dL_addFlight_7 : decode cL_addFlight 7 = .ok (.i2l, 1) := by decide +kernel
theorem dL_addFlight_8 : decode cL_addFlight 8 = .ok (.lastore, 1) := by decide +kernel
theorem dL_addFlight_9 : decode cL_addFlight 9 = .ok (.goto 9, 3) := by decide +kernel
theorem dL_addFlight_12 : decode cL_addFlight 12 = .ok (.astore_n 3, 1) := by decide +kernel
theorem dL_addFlight_13 : decode cL_addFlight 13 = .ok (.iconst 1, 1) := by decide +kernel
theorem dL_addFlight_14 : decode cL_addFlight 14 = .ok (.ireturn, 1) := by decide +kernel
theorem dL_addFlight_15 : decode cL_addFlight 15 = .ok (.astore_n 3, 1) := by decide +kernel
theorem dL_addFlight_16 : decode cL_addFlight 16 = .ok (.iconst 2, 1) := by decide +kernel
theorem dL_addFlight_17 : decode cL_addFlight 17 = .ok (.ireturn, 1) := by decide +kernel
theorem dL_addFlight_18 : decode cL_addFlight 18 = .ok (.iconst 0, 1) := by decide +kernel
theorem dL_addFlight_19 : decode cL_addFlight 19 = .ok (.ireturn, 1) := by decide +kernel
set_option maxRecDepth 20000 in
theorem ggL_board_X0_board : GoodIn wsL_board wsX0_board := goodIn_ca (goodIn_r _ [6, 7, 8, 9, 10, 5, 11, 12, 13, 14, 15, 16, 17, 18, 19, 20, 21, 22, 23, 24, 25, 26, 27, 28, 29, 30] (by decide +kernel) (by decide +kernel)) (goodIn_sub (fun _ h => List.mem_cons_of_mem _ (List.mem_append_right _ h)) (by decide +kernel))
set_option maxRecDepth 20000 in
theorem gL_board_X0_board : GoodIn wsL_board (wsV RL 17 RX0 yX0_board wsX0_board) := goodIn_app (goodIn_of _ (by decide +kernel)) ggL_board_X0_board
theorem dL_board_0 : decode cL_board 0 = .ok (.aload_n 3, 1) := by decide +kernel
theorem dL_board_1 : decode cL_board 1 = .ok (.iconst 0, 1) := by decide +kernel
theorem dL_board_2 : decode cL_board 2 = .ok (.aload_n 0, 1) := by decide +kernel
theorem dL_board_3 : decode cL_board 3 = .ok (.iload_n 1, 1) := by decide +kernel
theorem dL_board_4 : decode cL_board 4 = .ok (.iload_n 2, 1) := by decide +kernel
theorem dL_board_5 : decode cL_board 5 = .ok (.invokevirtual 17, 3) := by decide +kernel
theorem dL_board_8 : decode cL_board 8 = .ok (.ifCond .eq 7, 3) := by decide +kernel
theorem dL_board_11 : decode cL_board 11 = .ok (.lconst 1, 1) := by decide +kernel
theorem dL_board_12 : decode cL_board 12 = .ok (.goto 4, 3) := by decide +kernel
theorem dL_board_15 : decode cL_board 15 = .ok (.lconst 0, 1) := by decide +kernel
theorem dL_board_16 : decode cL_board 16 = .ok (.lastore, 1) := by decide +kernel
theorem dL_board_17 : decode cL_board 17 = .ok (.goto 7, 3) := by decide +kernel
theorem dL_board_20 : decode cL_board 20 = .ok (.astore 4, 2) := by decide +kernel
theorem dL_board_22 : decode cL_board 22 = .ok (.iconst 1, 1) := by decide +kernel
theorem dL_board_23 : decode cL_board 23 = .ok (.ireturn, 1) := by decide +kernel
theorem dL_board_24 : decode cL_board 24 = .ok (.iconst 0, 1) := by decide +kernel
theorem dL_board_25 : decode cL_board 25 = .ok (.ireturn, 1) := by decide +kernel
set_option maxRecDepth 20000 in
theorem ggL_pass_X0_pass : GoodIn wsL_pass wsX0_pass := goodIn_ca (goodIn_r _ [6, 7, 8, 9, 10, 11, 12, 5, 13, 14, 15, 16, 17, 18, 19, 20, 21, 22, 23, 24, 25, 26, 27, 28, 29, 30, 31, 32, 33, 34, 35, 36, 37, 38, 39, 40, 41, 42, 43, 44, 45, 46, 47, 48, 49, 50, 51, 52, 53, 54, 55, 56, 57, 58, 59, 60, 61, 62, 63, 64, 65, 66, 67, 68, 69, 70, 71, 72, 73, 74, 75, 76, 77, 78, 79, 80, 81, 82, 83, 84, 85, 86, 87, 88, 89, 90, 91, 92, 93, 94, 95, 96, 97, 98, 99, 100, 101, 102] (by decide +kernel) (by decide +kernel)) (goodIn_sub (fun _ h => List.mem_cons_of_mem _ (List.mem_append_right _ h)) (by decide +kernel))
set_option maxRecDepth 20000 in
theorem gL_pass_X0_pass : GoodIn wsL_pass (wsV RL 23 RX0 yX0_pass wsX0_pass) := goodIn_app (goodIn_of _ (by decide +kernel)) ggL_pass_X0_pass
theorem dL_pass_0 : decode cL_pass 0 = .ok (.aload_n 2, 1) := by decide +kernel
theorem dL_pass_1 : decode cL_pass 1 = .ok (.iconst 0, 1) := by decide +kernel
theorem dL_pass_2 : decode cL_pass 2 = .ok (.aload_n 0, 1) := by decide +kernel
theorem dL_pass_3 : decode cL_pass 3 = .ok (.iload_n 1, 1) := by decide +kernel
theorem dL_pass_4 : decode cL_pass 4 = .ok (.invokevirtual 23, 3) := by decide +kernel
theorem dL_pass_7 : decode cL_pass 7 = .ok (.i2l, 1) := by decide +kernel
theorem dL_pass_8 : decode cL_pass 8 = .ok (.lastore, 1) := by decide +kernel
theorem dL_pass_9 : decode cL_pass 9 = .ok (.goto 6, 3) := by decide +kernel
theorem dL_pass_12 : decode cL_pass 12 = .ok (.astore_n 3, 1) := by decide +kernel
theorem dL_pass_13 : decode cL_pass 13 = .ok (.iconst 1, 1) := by decide +kernel
theorem dL_pass_14 : decode cL_pass 14 = .ok (.ireturn, 1) := by decide +kernel
theorem dL_pass_15 : decode cL_pass 15 = .ok (.iconst 0, 1) := by decide +kernel
theorem dL_pass_16 : decode cL_pass 16 = .ok (.ireturn, 1) := by decide +kernel
set_option maxRecDepth 20000 in
theorem ggL_lateralOf_X0_lateralOf : GoodIn wsL_lateralOf wsX0_lateralOf := goodIn_ca (goodIn_r _ [6, 7, 8, 9, 10, 5, 11, 12, 13, 14, 15, 16, 17, 18, 19, 20, 21, 22, 23, 24, 25, 26, 27, 28, 29, 30, 31] (by decide +kernel) (by decide +kernel)) (goodIn_sub (fun _ h => List.mem_cons_of_mem _ (List.mem_append_right _ h)) (by decide +kernel))
set_option maxRecDepth 20000 in
theorem gL_lateralOf_X0_lateralOf : GoodIn wsL_lateralOf (wsV RL 26 RX0 yX0_lateralOf wsX0_lateralOf) := goodIn_app (goodIn_of _ (by decide +kernel)) ggL_lateralOf_X0_lateralOf
theorem dL_lateralOf_0 : decode cL_lateralOf 0 = .ok (.aload_n 2, 1) := by decide +kernel
theorem dL_lateralOf_1 : decode cL_lateralOf 1 = .ok (.iconst 0, 1) := by decide +kernel
theorem dL_lateralOf_2 : decode cL_lateralOf 2 = .ok (.aload_n 0, 1) := by decide +kernel
theorem dL_lateralOf_3 : decode cL_lateralOf 3 = .ok (.iload_n 1, 1) := by decide +kernel
theorem dL_lateralOf_4 : decode cL_lateralOf 4 = .ok (.invokevirtual 26, 3) := by decide +kernel
theorem dL_lateralOf_7 : decode cL_lateralOf 7 = .ok (.i2l, 1) := by decide +kernel
theorem dL_lateralOf_8 : decode cL_lateralOf 8 = .ok (.lastore, 1) := by decide +kernel
theorem dL_lateralOf_9 : decode cL_lateralOf 9 = .ok (.goto 6, 3) := by decide +kernel
theorem dL_lateralOf_12 : decode cL_lateralOf 12 = .ok (.astore_n 3, 1) := by decide +kernel
theorem dL_lateralOf_13 : decode cL_lateralOf 13 = .ok (.iconst 1, 1) := by decide +kernel
theorem dL_lateralOf_14 : decode cL_lateralOf 14 = .ok (.ireturn, 1) := by decide +kernel
theorem dL_lateralOf_15 : decode cL_lateralOf 15 = .ok (.iconst 0, 1) := by decide +kernel
theorem dL_lateralOf_16 : decode cL_lateralOf 16 = .ok (.ireturn, 1) := by decide +kernel
set_option maxRecDepth 20000 in
theorem ggL_checkIn_X0_checkIn : GoodIn wsL_checkIn wsX0_checkIn := goodIn_ca (goodIn_ca (goodIn_r _ [7, 8, 9, 10, 6, 11, 12, 13, 14, 15, 16, 17, 18, 19, 20, 21, 22, 23, 24, 25, 26, 27, 28, 29, 30, 31, 32, 33, 34, 35, 36, 37, 38, 39, 40, 41, 42, 43, 44, 45, 46, 47, 48, 49, 50, 51, 52, 53, 54, 55, 56, 57, 58, 59, 60, 61, 62, 63, 64, 65, 66] (by decide +kernel) (by decide +kernel)) (goodIn_sub (fun _ h => List.mem_cons_of_mem _ (List.mem_append_left _ (List.mem_append_right _ h))) (by decide +kernel))) (goodIn_sub (fun _ h => List.mem_cons_of_mem _ (List.mem_append_right _ h)) (by decide +kernel))
set_option maxRecDepth 20000 in
theorem gL_checkIn_X0_checkIn : GoodIn wsL_checkIn (wsV RL 29 RX0 yX0_checkIn wsX0_checkIn) := goodIn_app (goodIn_of _ (by decide +kernel)) ggL_checkIn_X0_checkIn
theorem dL_checkIn_0 : decode cL_checkIn 0 = .ok (.aload_n 3, 1) := by decide +kernel
theorem dL_checkIn_1 : decode cL_checkIn 1 = .ok (.iconst 0, 1) := by decide +kernel
theorem dL_checkIn_2 : decode cL_checkIn 2 = .ok (.aload_n 0, 1) := by decide +kernel
theorem dL_checkIn_3 : decode cL_checkIn 3 = .ok (.iload_n 1, 1) := by decide +kernel
theorem dL_checkIn_4 : decode cL_checkIn 4 = .ok (.iload_n 2, 1) := by decide +kernel
theorem dL_checkIn_5 : decode cL_checkIn 5 = .ok (.invokevirtual 29, 3) := by decide +kernel
theorem dL_checkIn_8 : decode cL_checkIn 8 = .ok (.i2l, 1) := by decide +kernel
theorem dL_checkIn_9 : decode cL_checkIn 9 = .ok (.lastore, 1) := by decide +kernel
theorem dL_checkIn_10 : decode cL_checkIn 10 = .ok (.goto 11, 3) := by decide +kernel
theorem dL_checkIn_13 : decode cL_checkIn 13 = .ok (.astore 4, 2) := by decide +kernel
theorem dL_checkIn_15 : decode cL_checkIn 15 = .ok (.iconst 1, 1) := by decide +kernel
theorem dL_checkIn_16 : decode cL_checkIn 16 = .ok (.ireturn, 1) := by decide +kernel
theorem dL_checkIn_17 : decode cL_checkIn 17 = .ok (.astore 4, 2) := by decide +kernel
theorem dL_checkIn_19 : decode cL_checkIn 19 = .ok (.iconst 2, 1) := by decide +kernel
theorem dL_checkIn_20 : decode cL_checkIn 20 = .ok (.ireturn, 1) := by decide +kernel
theorem dL_checkIn_21 : decode cL_checkIn 21 = .ok (.iconst 0, 1) := by decide +kernel
theorem dL_checkIn_22 : decode cL_checkIn 22 = .ok (.ireturn, 1) := by decide +kernel
set_option maxRecDepth 20000 in
theorem ggL_transfer_X0_transfer : GoodIn wsL_transfer wsX0_transfer := goodIn_ca (goodIn_ca (goodIn_r _ [7, 8, 9, 10, 6, 11, 12, 13, 14, 15, 16, 17, 18, 19, 20, 21, 22, 23, 24, 25, 26, 27, 28, 29, 30, 31, 32, 33, 34, 35, 36, 37, 38, 39, 40, 41, 42, 43, 44, 45, 46, 47, 48, 49, 50, 51, 52, 53, 54, 55, 56, 57, 58, 59, 60, 61, 62, 63, 64, 65, 66, 67, 68, 69, 70, 71, 72, 73, 74, 75, 76, 77, 78, 79, 80, 81, 82, 83, 84, 85, 86, 87] (by decide +kernel) (by decide +kernel)) (goodIn_sub (fun _ h => List.mem_cons_of_mem _ (List.mem_append_left _ (List.mem_append_right _ h))) (by decide +kernel))) (goodIn_sub (fun _ h => List.mem_cons_of_mem _ (List.mem_append_right _ h)) (by decide +kernel))
set_option maxRecDepth 20000 in
theorem gL_transfer_X0_transfer : GoodIn wsL_transfer (wsV RL 33 RX0 yX0_transfer wsX0_transfer) := goodIn_app (goodIn_of _ (by decide +kernel)) ggL_transfer_X0_transfer
theorem dL_transfer_0 : decode cL_transfer 0 = .ok (.aload_n 3, 1) := by decide +kernel
theorem dL_transfer_1 : decode cL_transfer 1 = .ok (.iconst 0, 1) := by decide +kernel
theorem dL_transfer_2 : decode cL_transfer 2 = .ok (.aload_n 0, 1) := by decide +kernel
theorem dL_transfer_3 : decode cL_transfer 3 = .ok (.iload_n 1, 1) := by decide +kernel
theorem dL_transfer_4 : decode cL_transfer 4 = .ok (.iload_n 2, 1) := by decide +kernel
theorem dL_transfer_5 : decode cL_transfer 5 = .ok (.invokevirtual 33, 3) := by decide +kernel
theorem dL_transfer_8 : decode cL_transfer 8 = .ok (.i2l, 1) := by decide +kernel
theorem dL_transfer_9 : decode cL_transfer 9 = .ok (.lastore, 1) := by decide +kernel
theorem dL_transfer_10 : decode cL_transfer 10 = .ok (.goto 11, 3) := by decide +kernel
theorem dL_transfer_13 : decode cL_transfer 13 = .ok (.astore 4, 2) := by decide +kernel
theorem dL_transfer_15 : decode cL_transfer 15 = .ok (.iconst 1, 1) := by decide +kernel
theorem dL_transfer_16 : decode cL_transfer 16 = .ok (.ireturn, 1) := by decide +kernel
theorem dL_transfer_17 : decode cL_transfer 17 = .ok (.astore 4, 2) := by decide +kernel
theorem dL_transfer_19 : decode cL_transfer 19 = .ok (.iconst 2, 1) := by decide +kernel
theorem dL_transfer_20 : decode cL_transfer 20 = .ok (.ireturn, 1) := by decide +kernel
theorem dL_transfer_21 : decode cL_transfer 21 = .ok (.iconst 0, 1) := by decide +kernel
theorem dL_transfer_22 : decode cL_transfer 22 = .ok (.ireturn, 1) := by decide +kernel
set_option maxRecDepth 20000 in
theorem ggL_decide_X0_decide : GoodIn wsL_decide wsX0_decide := goodIn_ca (goodIn_ca (goodIn_r _ [7, 8, 9, 10, 11, 12, 13, 14, 15, 6, 16, 17, 18, 19, 20, 21, 22, 23, 24, 25, 26, 27, 28, 29, 30, 31, 32, 33, 34, 35, 36, 37, 38, 39, 40, 41, 42, 43, 44, 45, 46, 47, 48, 49, 50, 51, 52, 53, 54, 55, 56, 57, 58, 59, 60, 61, 62, 63, 64, 65, 66, 67, 68, 69, 70, 71, 72, 73, 74, 75, 76, 77, 78, 79] (by decide +kernel) (by decide +kernel)) (goodIn_sub (fun _ h => List.mem_cons_of_mem _ (List.mem_append_left _ (List.mem_append_right _ h))) (by decide +kernel))) (goodIn_sub (fun _ h => List.mem_cons_of_mem _ (List.mem_append_right _ h)) (by decide +kernel))
set_option maxRecDepth 20000 in
theorem gL_decide_X0_decide : GoodIn wsL_decide (wsV RL 36 RX0 yX0_decide wsX0_decide) := goodIn_app (goodIn_of _ (by decide +kernel)) ggL_decide_X0_decide
theorem dL_decide_0 : decode cL_decide 0 = .ok (.aload_n 3, 1) := by decide +kernel
theorem dL_decide_1 : decode cL_decide 1 = .ok (.iconst 0, 1) := by decide +kernel
theorem dL_decide_2 : decode cL_decide 2 = .ok (.aload_n 0, 1) := by decide +kernel
theorem dL_decide_3 : decode cL_decide 3 = .ok (.iload_n 1, 1) := by decide +kernel
theorem dL_decide_4 : decode cL_decide 4 = .ok (.iload_n 2, 1) := by decide +kernel
theorem dL_decide_5 : decode cL_decide 5 = .ok (.invokevirtual 36, 3) := by decide +kernel
theorem dL_decide_8 : decode cL_decide 8 = .ok (.i2l, 1) := by decide +kernel
theorem dL_decide_9 : decode cL_decide 9 = .ok (.lastore, 1) := by decide +kernel
theorem dL_decide_10 : decode cL_decide 10 = .ok (.goto 11, 3) := by decide +kernel
theorem dL_decide_13 : decode cL_decide 13 = .ok (.astore 4, 2) := by decide +kernel
theorem dL_decide_15 : decode cL_decide 15 = .ok (.iconst 1, 1) := by decide +kernel
theorem dL_decide_16 : decode cL_decide 16 = .ok (.ireturn, 1) := by decide +kernel
theorem dL_decide_17 : decode cL_decide 17 = .ok (.astore 4, 2) := by decide +kernel
theorem dL_decide_19 : decode cL_decide 19 = .ok (.iconst 2, 1) := by decide +kernel
theorem dL_decide_20 : decode cL_decide 20 = .ok (.ireturn, 1) := by decide +kernel
theorem dL_decide_21 : decode cL_decide 21 = .ok (.iconst 0, 1) := by decide +kernel
theorem dL_decide_22 : decode cL_decide 22 = .ok (.ireturn, 1) := by decide +kernel
set_option maxRecDepth 20000 in
theorem ggL_letGo_X0_letGo : GoodIn wsL_letGo wsX0_letGo := goodIn_ca (goodIn_ca (goodIn_r _ [7, 8, 9, 10, 11, 6, 12, 13, 14, 15, 16, 17, 18, 19, 20, 21, 22, 23, 24, 25, 26, 27, 28, 29, 30, 31, 32, 33, 34, 35, 36, 37, 38, 39, 40, 41, 42, 43, 44, 45, 46, 47, 48, 49, 50, 51, 52, 53, 54, 55, 56, 57, 58, 59, 60, 61, 62, 63, 64, 65, 66, 67, 68, 69, 70, 71, 72, 73, 74, 75, 76, 77] (by decide +kernel) (by decide +kernel)) (goodIn_sub (fun _ h => List.mem_cons_of_mem _ (List.mem_append_left _ (List.mem_append_right _ h))) (by decide +kernel))) (goodIn_sub (fun _ h => List.mem_cons_of_mem _ (List.mem_append_right _ h)) (by decide +kernel))
set_option maxRecDepth 20000 in
theorem gL_letGo_X0_letGo : GoodIn wsL_letGo (wsV RL 40 RX0 yX0_letGo wsX0_letGo) := goodIn_app (goodIn_of _ (by decide +kernel)) ggL_letGo_X0_letGo
theorem dL_letGo_0 : decode cL_letGo 0 = .ok (.aload_n 2, 1) := by decide +kernel
theorem dL_letGo_1 : decode cL_letGo 1 = .ok (.iconst 0, 1) := by decide +kernel
theorem dL_letGo_2 : decode cL_letGo 2 = .ok (.aload_n 0, 1) := by decide +kernel
theorem dL_letGo_3 : decode cL_letGo 3 = .ok (.iload_n 1, 1) := by decide +kernel
theorem dL_letGo_4 : decode cL_letGo 4 = .ok (.invokevirtual 40, 3) := by decide +kernel
theorem dL_letGo_7 : decode cL_letGo 7 = .ok (.i2l, 1) := by decide +kernel
theorem dL_letGo_8 : decode cL_letGo 8 = .ok (.lastore, 1) := by decide +kernel
theorem dL_letGo_9 : decode cL_letGo 9 = .ok (.goto 9, 3) := by decide +kernel
theorem dL_letGo_12 : decode cL_letGo 12 = .ok (.astore_n 3, 1) := by decide +kernel
theorem dL_letGo_13 : decode cL_letGo 13 = .ok (.iconst 1, 1) := by decide +kernel
theorem dL_letGo_14 : decode cL_letGo 14 = .ok (.ireturn, 1) := by decide +kernel
theorem dL_letGo_15 : decode cL_letGo 15 = .ok (.astore_n 3, 1) := by decide +kernel
theorem dL_letGo_16 : decode cL_letGo 16 = .ok (.iconst 2, 1) := by decide +kernel
theorem dL_letGo_17 : decode cL_letGo 17 = .ok (.ireturn, 1) := by decide +kernel
theorem dL_letGo_18 : decode cL_letGo 18 = .ok (.iconst 0, 1) := by decide +kernel
theorem dL_letGo_19 : decode cL_letGo 19 = .ok (.ireturn, 1) := by decide +kernel
set_option maxRecDepth 20000 in
theorem ggL_load_X0_load : GoodIn wsL_load wsX0_load := goodIn_ca (goodIn_ca (goodIn_r _ [7, 8, 9, 10, 11, 6, 12, 13, 14, 15, 16, 17, 18, 19, 20, 21, 22, 23, 24, 25, 26, 27, 28, 29, 30, 31, 32, 33, 34, 35, 36, 37, 38, 39, 40, 41, 42, 43, 44, 45, 46, 47, 48, 49, 50, 51, 52, 53, 54, 55, 56, 57, 58, 59, 60, 61, 62, 63] (by decide +kernel) (by decide +kernel)) (goodIn_sub (fun _ h => List.mem_cons_of_mem _ (List.mem_append_left _ (List.mem_append_right _ h))) (by decide +kernel))) (goodIn_sub (fun _ h => List.mem_cons_of_mem _ (List.mem_append_right _ h)) (by decide +kernel))
set_option maxRecDepth 20000 in
theorem gL_load_X0_load : GoodIn wsL_load (wsV RL 43 RX0 yX0_load wsX0_load) := goodIn_app (goodIn_of _ (by decide +kernel)) ggL_load_X0_load
theorem dL_load_0 : decode cL_load 0 = .ok (.aload_n 2, 1) := by decide +kernel
theorem dL_load_1 : decode cL_load 1 = .ok (.iconst 0, 1) := by decide +kernel
theorem dL_load_2 : decode cL_load 2 = .ok (.aload_n 0, 1) := by decide +kernel
theorem dL_load_3 : decode cL_load 3 = .ok (.iload_n 1, 1) := by decide +kernel
theorem dL_load_4 : decode cL_load 4 = .ok (.invokevirtual 43, 3) := by decide +kernel
theorem dL_load_7 : decode cL_load 7 = .ok (.i2l, 1) := by decide +kernel
theorem dL_load_8 : decode cL_load 8 = .ok (.lastore, 1) := by decide +kernel
theorem dL_load_9 : decode cL_load 9 = .ok (.goto 9, 3) := by decide +kernel
theorem dL_load_12 : decode cL_load 12 = .ok (.astore_n 3, 1) := by decide +kernel
theorem dL_load_13 : decode cL_load 13 = .ok (.iconst 1, 1) := by decide +kernel
theorem dL_load_14 : decode cL_load 14 = .ok (.ireturn, 1) := by decide +kernel
theorem dL_load_15 : decode cL_load 15 = .ok (.astore_n 3, 1) := by decide +kernel
theorem dL_load_16 : decode cL_load 16 = .ok (.iconst 2, 1) := by decide +kernel
theorem dL_load_17 : decode cL_load 17 = .ok (.ireturn, 1) := by decide +kernel
theorem dL_load_18 : decode cL_load 18 = .ok (.iconst 0, 1) := by decide +kernel
theorem dL_load_19 : decode cL_load 19 = .ok (.ireturn, 1) := by decide +kernel
set_option maxRecDepth 20000 in
theorem ggL_offload_X0_offload : GoodIn wsL_offload wsX0_offload := goodIn_ca (goodIn_ca (goodIn_r _ [7, 8, 9, 10, 11, 6, 12, 13, 14, 15, 16, 17, 18, 19, 20, 21, 22, 23, 24, 25, 26, 27, 28, 29, 30, 31, 32, 33, 34, 35, 36, 37, 38, 39, 40, 41, 42, 43, 44, 45, 46, 47, 48, 49, 50, 51, 52, 53, 54, 55, 56, 57, 58, 59, 60, 61, 62, 63] (by decide +kernel) (by decide +kernel)) (goodIn_sub (fun _ h => List.mem_cons_of_mem _ (List.mem_append_left _ (List.mem_append_right _ h))) (by decide +kernel))) (goodIn_sub (fun _ h => List.mem_cons_of_mem _ (List.mem_append_right _ h)) (by decide +kernel))
set_option maxRecDepth 20000 in
theorem gL_offload_X0_offload : GoodIn wsL_offload (wsV RL 46 RX0 yX0_offload wsX0_offload) := goodIn_app (goodIn_of _ (by decide +kernel)) ggL_offload_X0_offload
theorem dL_offload_0 : decode cL_offload 0 = .ok (.aload_n 2, 1) := by decide +kernel
theorem dL_offload_1 : decode cL_offload 1 = .ok (.iconst 0, 1) := by decide +kernel
theorem dL_offload_2 : decode cL_offload 2 = .ok (.aload_n 0, 1) := by decide +kernel
theorem dL_offload_3 : decode cL_offload 3 = .ok (.iload_n 1, 1) := by decide +kernel
theorem dL_offload_4 : decode cL_offload 4 = .ok (.invokevirtual 46, 3) := by decide +kernel
theorem dL_offload_7 : decode cL_offload 7 = .ok (.i2l, 1) := by decide +kernel
theorem dL_offload_8 : decode cL_offload 8 = .ok (.lastore, 1) := by decide +kernel
theorem dL_offload_9 : decode cL_offload 9 = .ok (.goto 9, 3) := by decide +kernel
theorem dL_offload_12 : decode cL_offload 12 = .ok (.astore_n 3, 1) := by decide +kernel
theorem dL_offload_13 : decode cL_offload 13 = .ok (.iconst 1, 1) := by decide +kernel
theorem dL_offload_14 : decode cL_offload 14 = .ok (.ireturn, 1) := by decide +kernel
theorem dL_offload_15 : decode cL_offload 15 = .ok (.astore_n 3, 1) := by decide +kernel
theorem dL_offload_16 : decode cL_offload 16 = .ok (.iconst 2, 1) := by decide +kernel
theorem dL_offload_17 : decode cL_offload 17 = .ok (.ireturn, 1) := by decide +kernel
theorem dL_offload_18 : decode cL_offload 18 = .ok (.iconst 0, 1) := by decide +kernel
theorem dL_offload_19 : decode cL_offload 19 = .ok (.ireturn, 1) := by decide +kernel
set_option maxRecDepth 20000 in
theorem ggL_sendOn_X0_sendOn : GoodIn wsL_sendOn wsX0_sendOn := goodIn_ca (goodIn_ca (goodIn_r _ [7, 8, 9, 10, 11, 12, 13, 14, 15, 6, 16, 17, 18, 19, 20, 21, 22, 23, 24, 25, 26, 27, 28, 29, 30, 31, 32, 33, 34, 35, 36, 37, 38, 39, 40, 41, 42, 43, 44, 45, 46, 47, 48, 49, 50, 51, 52, 53, 54, 55, 56, 57, 58, 59, 60, 61, 62, 63, 64, 65, 66, 67, 68, 69, 70, 71, 72, 73, 74, 75, 76, 77, 78, 79, 80, 81, 82, 83] (by decide +kernel) (by decide +kernel)) (goodIn_sub (fun _ h => List.mem_cons_of_mem _ (List.mem_append_left _ (List.mem_append_right _ h))) (by decide +kernel))) (goodIn_sub (fun _ h => List.mem_cons_of_mem _ (List.mem_append_right _ h)) (by decide +kernel))
set_option maxRecDepth 20000 in
theorem gL_sendOn_X0_sendOn : GoodIn wsL_sendOn (wsV RL 49 RX0 yX0_sendOn wsX0_sendOn) := goodIn_app (goodIn_of _ (by decide +kernel)) ggL_sendOn_X0_sendOn
theorem dL_sendOn_0 : decode cL_sendOn 0 = .ok (.aload_n 3, 1) := by decide +kernel
theorem dL_sendOn_1 : decode cL_sendOn 1 = .ok (.iconst 0, 1) := by decide +kernel
theorem dL_sendOn_2 : decode cL_sendOn 2 = .ok (.aload_n 0, 1) := by decide +kernel
theorem dL_sendOn_3 : decode cL_sendOn 3 = .ok (.iload_n 1, 1) := by decide +kernel
theorem dL_sendOn_4 : decode cL_sendOn 4 = .ok (.iload_n 2, 1) := by decide +kernel
theorem dL_sendOn_5 : decode cL_sendOn 5 = .ok (.invokevirtual 49, 3) := by decide +kernel
theorem dL_sendOn_8 : decode cL_sendOn 8 = .ok (.i2l, 1) := by decide +kernel
theorem dL_sendOn_9 : decode cL_sendOn 9 = .ok (.lastore, 1) := by decide +kernel
theorem dL_sendOn_10 : decode cL_sendOn 10 = .ok (.goto 11, 3) := by decide +kernel
theorem dL_sendOn_13 : decode cL_sendOn 13 = .ok (.astore 4, 2) := by decide +kernel
theorem dL_sendOn_15 : decode cL_sendOn 15 = .ok (.iconst 1, 1) := by decide +kernel
theorem dL_sendOn_16 : decode cL_sendOn 16 = .ok (.ireturn, 1) := by decide +kernel
theorem dL_sendOn_17 : decode cL_sendOn 17 = .ok (.astore 4, 2) := by decide +kernel
theorem dL_sendOn_19 : decode cL_sendOn 19 = .ok (.iconst 2, 1) := by decide +kernel
theorem dL_sendOn_20 : decode cL_sendOn 20 = .ok (.ireturn, 1) := by decide +kernel
theorem dL_sendOn_21 : decode cL_sendOn 21 = .ok (.iconst 0, 1) := by decide +kernel
theorem dL_sendOn_22 : decode cL_sendOn 22 = .ok (.ireturn, 1) := by decide +kernel
set_option maxRecDepth 20000 in
theorem ggL_placeOf_X0_placeOf : GoodIn wsL_placeOf wsX0_placeOf := goodIn_ca (goodIn_r _ [6, 7, 8, 9, 10, 5, 11, 12, 13, 14, 15, 16, 17, 18, 19, 20, 21, 22, 23, 24, 25, 26, 27, 28, 29, 30, 31] (by decide +kernel) (by decide +kernel)) (goodIn_sub (fun _ h => List.mem_cons_of_mem _ (List.mem_append_right _ h)) (by decide +kernel))
set_option maxRecDepth 20000 in
theorem gL_placeOf_X0_placeOf : GoodIn wsL_placeOf (wsV RL 52 RX0 yX0_placeOf wsX0_placeOf) := goodIn_app (goodIn_of _ (by decide +kernel)) ggL_placeOf_X0_placeOf
theorem dL_placeOf_0 : decode cL_placeOf 0 = .ok (.aload_n 2, 1) := by decide +kernel
theorem dL_placeOf_1 : decode cL_placeOf 1 = .ok (.iconst 0, 1) := by decide +kernel
theorem dL_placeOf_2 : decode cL_placeOf 2 = .ok (.aload_n 0, 1) := by decide +kernel
theorem dL_placeOf_3 : decode cL_placeOf 3 = .ok (.iload_n 1, 1) := by decide +kernel
theorem dL_placeOf_4 : decode cL_placeOf 4 = .ok (.invokevirtual 52, 3) := by decide +kernel
theorem dL_placeOf_7 : decode cL_placeOf 7 = .ok (.i2l, 1) := by decide +kernel
theorem dL_placeOf_8 : decode cL_placeOf 8 = .ok (.lastore, 1) := by decide +kernel
theorem dL_placeOf_9 : decode cL_placeOf 9 = .ok (.goto 6, 3) := by decide +kernel
theorem dL_placeOf_12 : decode cL_placeOf 12 = .ok (.astore_n 3, 1) := by decide +kernel
theorem dL_placeOf_13 : decode cL_placeOf 13 = .ok (.iconst 1, 1) := by decide +kernel
theorem dL_placeOf_14 : decode cL_placeOf 14 = .ok (.ireturn, 1) := by decide +kernel
theorem dL_placeOf_15 : decode cL_placeOf 15 = .ok (.iconst 0, 1) := by decide +kernel
theorem dL_placeOf_16 : decode cL_placeOf 16 = .ok (.ireturn, 1) := by decide +kernel
set_option maxRecDepth 20000 in
theorem ggL_placeByScans_X0_placeByScans : GoodIn wsL_placeByScans wsX0_placeByScans := goodIn_ca (goodIn_ca (goodIn_r _ [7, 8, 9, 10, 11, 12, 13, 14, 15, 16, 17, 6, 18, 19, 20, 21, 22, 23, 24, 25, 26, 27, 28, 29, 30, 31, 32, 33, 34, 35, 36, 37, 38] (by decide +kernel) (by decide +kernel)) (goodIn_sub (fun _ h => List.mem_cons_of_mem _ (List.mem_append_left _ (List.mem_append_right _ h))) (by decide +kernel))) (goodIn_sub (fun _ h => List.mem_cons_of_mem _ (List.mem_append_right _ h)) (by decide +kernel))
set_option maxRecDepth 20000 in
theorem gL_placeByScans_X0_placeByScans : GoodIn wsL_placeByScans (wsV RL 55 RX0 yX0_placeByScans wsX0_placeByScans) := goodIn_app (goodIn_of _ (by decide +kernel)) ggL_placeByScans_X0_placeByScans
theorem dL_placeByScans_0 : decode cL_placeByScans 0 = .ok (.aload_n 3, 1) := by decide +kernel
theorem dL_placeByScans_1 : decode cL_placeByScans 1 = .ok (.iconst 0, 1) := by decide +kernel
theorem dL_placeByScans_2 : decode cL_placeByScans 2 = .ok (.aload_n 0, 1) := by decide +kernel
theorem dL_placeByScans_3 : decode cL_placeByScans 3 = .ok (.iload_n 1, 1) := by decide +kernel
theorem dL_placeByScans_4 : decode cL_placeByScans 4 = .ok (.iload_n 2, 1) := by decide +kernel
theorem dL_placeByScans_5 : decode cL_placeByScans 5 = .ok (.invokevirtual 55, 3) := by decide +kernel
theorem dL_placeByScans_8 : decode cL_placeByScans 8 = .ok (.i2l, 1) := by decide +kernel
theorem dL_placeByScans_9 : decode cL_placeByScans 9 = .ok (.lastore, 1) := by decide +kernel
theorem dL_placeByScans_10 : decode cL_placeByScans 10 = .ok (.goto 11, 3) := by decide +kernel
theorem dL_placeByScans_13 : decode cL_placeByScans 13 = .ok (.astore 4, 2) := by decide +kernel
theorem dL_placeByScans_15 : decode cL_placeByScans 15 = .ok (.iconst 1, 1) := by decide +kernel
theorem dL_placeByScans_16 : decode cL_placeByScans 16 = .ok (.ireturn, 1) := by decide +kernel
theorem dL_placeByScans_17 : decode cL_placeByScans 17 = .ok (.astore 4, 2) := by decide +kernel
theorem dL_placeByScans_19 : decode cL_placeByScans 19 = .ok (.iconst 2, 1) := by decide +kernel
theorem dL_placeByScans_20 : decode cL_placeByScans 20 = .ok (.ireturn, 1) := by decide +kernel
theorem dL_placeByScans_21 : decode cL_placeByScans 21 = .ok (.iconst 0, 1) := by decide +kernel
theorem dL_placeByScans_22 : decode cL_placeByScans 22 = .ok (.ireturn, 1) := by decide +kernel
set_option maxRecDepth 20000 in
theorem ggL_flightOf_X0_flightOf : GoodIn wsL_flightOf wsX0_flightOf := goodIn_ca (goodIn_r _ [6, 7, 8, 9, 10, 5, 11, 12, 13, 14, 15, 16, 17, 18, 19, 20, 21, 22, 23, 24, 25, 26, 27, 28, 29, 30, 31] (by decide +kernel) (by decide +kernel)) (goodIn_sub (fun _ h => List.mem_cons_of_mem _ (List.mem_append_right _ h)) (by decide +kernel))
set_option maxRecDepth 20000 in
theorem gL_flightOf_X0_flightOf : GoodIn wsL_flightOf (wsV RL 58 RX0 yX0_flightOf wsX0_flightOf) := goodIn_app (goodIn_of _ (by decide +kernel)) ggL_flightOf_X0_flightOf
theorem dL_flightOf_0 : decode cL_flightOf 0 = .ok (.aload_n 2, 1) := by decide +kernel
theorem dL_flightOf_1 : decode cL_flightOf 1 = .ok (.iconst 0, 1) := by decide +kernel
theorem dL_flightOf_2 : decode cL_flightOf 2 = .ok (.aload_n 0, 1) := by decide +kernel
theorem dL_flightOf_3 : decode cL_flightOf 3 = .ok (.iload_n 1, 1) := by decide +kernel
theorem dL_flightOf_4 : decode cL_flightOf 4 = .ok (.invokevirtual 58, 3) := by decide +kernel
theorem dL_flightOf_7 : decode cL_flightOf 7 = .ok (.i2l, 1) := by decide +kernel
theorem dL_flightOf_8 : decode cL_flightOf 8 = .ok (.lastore, 1) := by decide +kernel
theorem dL_flightOf_9 : decode cL_flightOf 9 = .ok (.goto 6, 3) := by decide +kernel
theorem dL_flightOf_12 : decode cL_flightOf 12 = .ok (.astore_n 3, 1) := by decide +kernel
theorem dL_flightOf_13 : decode cL_flightOf 13 = .ok (.iconst 1, 1) := by decide +kernel
theorem dL_flightOf_14 : decode cL_flightOf 14 = .ok (.ireturn, 1) := by decide +kernel
theorem dL_flightOf_15 : decode cL_flightOf 15 = .ok (.iconst 0, 1) := by decide +kernel
theorem dL_flightOf_16 : decode cL_flightOf 16 = .ok (.ireturn, 1) := by decide +kernel
set_option maxRecDepth 20000 in
theorem ggL_count_X0_count : GoodIn wsL_count wsX0_count := goodIn_ca (goodIn_r _ [6, 7, 8, 9, 10, 11, 12, 13, 14, 15, 16, 17, 18, 19, 20, 21, 22, 23, 24, 25, 26] (by decide +kernel) (by decide +kernel)) (goodIn_sub (fun _ h => List.mem_cons_of_mem _ (List.mem_append_right _ h)) (by decide +kernel))
set_option maxRecDepth 20000 in
theorem gL_count_X0_count : GoodIn wsL_count (wsV RL 61 RX0 yX0_count wsX0_count) := goodIn_app (goodIn_of _ (by decide +kernel)) ggL_count_X0_count
theorem dL_count_0 : decode cL_count 0 = .ok (.aload_n 2, 1) := by decide +kernel
theorem dL_count_1 : decode cL_count 1 = .ok (.iconst 0, 1) := by decide +kernel
theorem dL_count_2 : decode cL_count 2 = .ok (.aload_n 0, 1) := by decide +kernel
theorem dL_count_3 : decode cL_count 3 = .ok (.iload_n 1, 1) := by decide +kernel
theorem dL_count_4 : decode cL_count 4 = .ok (.invokevirtual 61, 3) := by decide +kernel
theorem dL_count_7 : decode cL_count 7 = .ok (.i2l, 1) := by decide +kernel
theorem dL_count_8 : decode cL_count 8 = .ok (.lastore, 1) := by decide +kernel
theorem dL_count_9 : decode cL_count 9 = .ok (.goto 6, 3) := by decide +kernel
theorem dL_count_12 : decode cL_count 12 = .ok (.astore_n 3, 1) := by decide +kernel
theorem dL_count_13 : decode cL_count 13 = .ok (.iconst 1, 1) := by decide +kernel
theorem dL_count_14 : decode cL_count 14 = .ok (.ireturn, 1) := by decide +kernel
theorem dL_count_15 : decode cL_count 15 = .ok (.iconst 0, 1) := by decide +kernel
theorem dL_count_16 : decode cL_count 16 = .ok (.ireturn, 1) := by decide +kernel
set_option maxRecDepth 20000 in
theorem ggL_atLateral_X0_atLateral : GoodIn wsL_atLateral wsX0_atLateral := goodIn_ca (goodIn_r _ [6, 7, 8, 9, 10, 11, 12, 13, 14, 15, 16, 17, 18, 19, 20, 21, 22, 23, 24, 25, 26, 27, 28, 29] (by decide +kernel) (by decide +kernel)) (goodIn_sub (fun _ h => List.mem_cons_of_mem _ (List.mem_append_right _ h)) (by decide +kernel))
set_option maxRecDepth 20000 in
theorem gL_atLateral_X0_atLateral : GoodIn wsL_atLateral (wsV RL 64 RX0 yX0_atLateral wsX0_atLateral) := goodIn_app (goodIn_of _ (by decide +kernel)) ggL_atLateral_X0_atLateral
theorem dL_atLateral_0 : decode cL_atLateral 0 = .ok (.aload_n 2, 1) := by decide +kernel
theorem dL_atLateral_1 : decode cL_atLateral 1 = .ok (.iconst 0, 1) := by decide +kernel
theorem dL_atLateral_2 : decode cL_atLateral 2 = .ok (.aload_n 0, 1) := by decide +kernel
theorem dL_atLateral_3 : decode cL_atLateral 3 = .ok (.iload_n 1, 1) := by decide +kernel
theorem dL_atLateral_4 : decode cL_atLateral 4 = .ok (.invokevirtual 64, 3) := by decide +kernel
theorem dL_atLateral_7 : decode cL_atLateral 7 = .ok (.i2l, 1) := by decide +kernel
theorem dL_atLateral_8 : decode cL_atLateral 8 = .ok (.lastore, 1) := by decide +kernel
theorem dL_atLateral_9 : decode cL_atLateral 9 = .ok (.goto 6, 3) := by decide +kernel
theorem dL_atLateral_12 : decode cL_atLateral 12 = .ok (.astore_n 3, 1) := by decide +kernel
theorem dL_atLateral_13 : decode cL_atLateral 13 = .ok (.iconst 1, 1) := by decide +kernel
theorem dL_atLateral_14 : decode cL_atLateral 14 = .ok (.ireturn, 1) := by decide +kernel
theorem dL_atLateral_15 : decode cL_atLateral 15 = .ok (.iconst 0, 1) := by decide +kernel
theorem dL_atLateral_16 : decode cL_atLateral 16 = .ok (.ireturn, 1) := by decide +kernel
set_option maxRecDepth 20000 in
theorem ggL_unmatched_X0_unmatched : GoodIn wsL_unmatched wsX0_unmatched := goodIn_ca (goodIn_r _ [6, 7, 8, 9, 10, 5, 11, 12, 13, 14, 15, 16, 17, 18, 19, 20, 21, 22, 23, 24, 25, 26, 27, 28, 29, 30, 31, 32, 33, 34, 35, 36, 37, 38, 39, 40, 41, 42, 43, 44] (by decide +kernel) (by decide +kernel)) (goodIn_sub (fun _ h => List.mem_cons_of_mem _ (List.mem_append_right _ h)) (by decide +kernel))
set_option maxRecDepth 20000 in
theorem gL_unmatched_X0_unmatched : GoodIn wsL_unmatched (wsV RL 67 RX0 yX0_unmatched wsX0_unmatched) := goodIn_app (goodIn_of _ (by decide +kernel)) ggL_unmatched_X0_unmatched
theorem dL_unmatched_0 : decode cL_unmatched 0 = .ok (.aload_n 2, 1) := by decide +kernel
theorem dL_unmatched_1 : decode cL_unmatched 1 = .ok (.iconst 0, 1) := by decide +kernel
theorem dL_unmatched_2 : decode cL_unmatched 2 = .ok (.aload_n 0, 1) := by decide +kernel
theorem dL_unmatched_3 : decode cL_unmatched 3 = .ok (.iload_n 1, 1) := by decide +kernel
theorem dL_unmatched_4 : decode cL_unmatched 4 = .ok (.invokevirtual 67, 3) := by decide +kernel
theorem dL_unmatched_7 : decode cL_unmatched 7 = .ok (.i2l, 1) := by decide +kernel
theorem dL_unmatched_8 : decode cL_unmatched 8 = .ok (.lastore, 1) := by decide +kernel
theorem dL_unmatched_9 : decode cL_unmatched 9 = .ok (.goto 6, 3) := by decide +kernel
theorem dL_unmatched_12 : decode cL_unmatched 12 = .ok (.astore_n 3, 1) := by decide +kernel
theorem dL_unmatched_13 : decode cL_unmatched 13 = .ok (.iconst 1, 1) := by decide +kernel
theorem dL_unmatched_14 : decode cL_unmatched 14 = .ok (.ireturn, 1) := by decide +kernel
theorem dL_unmatched_15 : decode cL_unmatched 15 = .ok (.iconst 0, 1) := by decide +kernel
theorem dL_unmatched_16 : decode cL_unmatched 16 = .ok (.ireturn, 1) := by decide +kernel
set_option maxRecDepth 20000 in
theorem ggL_untilClose_X0_untilClose : GoodIn wsL_untilClose wsX0_untilClose := goodIn_ca (goodIn_r _ [6, 7, 8, 9, 10, 11, 12, 13, 14, 5, 15, 16, 17, 18, 19, 20, 21, 22, 23, 24, 25, 26, 27, 28, 29, 30, 31, 32, 33, 34, 35, 36, 37, 38, 39, 40] (by decide +kernel) (by decide +kernel)) (goodIn_sub (fun _ h => List.mem_cons_of_mem _ (List.mem_append_right _ h)) (by decide +kernel))
set_option maxRecDepth 20000 in
theorem gL_untilClose_X0_untilClose : GoodIn wsL_untilClose (wsV RL 70 RX0 yX0_untilClose wsX0_untilClose) := goodIn_app (goodIn_of _ (by decide +kernel)) ggL_untilClose_X0_untilClose
theorem dL_untilClose_0 : decode cL_untilClose 0 = .ok (.aload_n 2, 1) := by decide +kernel
theorem dL_untilClose_1 : decode cL_untilClose 1 = .ok (.iconst 0, 1) := by decide +kernel
theorem dL_untilClose_2 : decode cL_untilClose 2 = .ok (.aload_n 0, 1) := by decide +kernel
theorem dL_untilClose_3 : decode cL_untilClose 3 = .ok (.iload_n 1, 1) := by decide +kernel
theorem dL_untilClose_4 : decode cL_untilClose 4 = .ok (.invokevirtual 70, 3) := by decide +kernel
theorem dL_untilClose_7 : decode cL_untilClose 7 = .ok (.i2l, 1) := by decide +kernel
theorem dL_untilClose_8 : decode cL_untilClose 8 = .ok (.lastore, 1) := by decide +kernel
theorem dL_untilClose_9 : decode cL_untilClose 9 = .ok (.goto 6, 3) := by decide +kernel
theorem dL_untilClose_12 : decode cL_untilClose 12 = .ok (.astore_n 3, 1) := by decide +kernel
theorem dL_untilClose_13 : decode cL_untilClose 13 = .ok (.iconst 1, 1) := by decide +kernel
theorem dL_untilClose_14 : decode cL_untilClose 14 = .ok (.ireturn, 1) := by decide +kernel
theorem dL_untilClose_15 : decode cL_untilClose 15 = .ok (.iconst 0, 1) := by decide +kernel
theorem dL_untilClose_16 : decode cL_untilClose 16 = .ok (.ireturn, 1) := by decide +kernel
set_option maxRecDepth 20000 in
theorem ggL_bagOfScan_X0_bagOfScan : GoodIn wsL_bagOfScan wsX0_bagOfScan := goodIn_ca (goodIn_r _ [6, 7, 8, 9, 10, 5, 11, 12, 13, 14, 15, 16, 17, 18, 19, 20, 21, 22, 23, 24, 25, 26, 27, 28, 29, 30, 31] (by decide +kernel) (by decide +kernel)) (goodIn_sub (fun _ h => List.mem_cons_of_mem _ (List.mem_append_right _ h)) (by decide +kernel))
set_option maxRecDepth 20000 in
theorem gL_bagOfScan_X0_bagOfScan : GoodIn wsL_bagOfScan (wsV RL 73 RX0 yX0_bagOfScan wsX0_bagOfScan) := goodIn_app (goodIn_of _ (by decide +kernel)) ggL_bagOfScan_X0_bagOfScan
theorem dL_bagOfScan_0 : decode cL_bagOfScan 0 = .ok (.aload_n 2, 1) := by decide +kernel
theorem dL_bagOfScan_1 : decode cL_bagOfScan 1 = .ok (.iconst 0, 1) := by decide +kernel
theorem dL_bagOfScan_2 : decode cL_bagOfScan 2 = .ok (.aload_n 0, 1) := by decide +kernel
theorem dL_bagOfScan_3 : decode cL_bagOfScan 3 = .ok (.iload_n 1, 1) := by decide +kernel
theorem dL_bagOfScan_4 : decode cL_bagOfScan 4 = .ok (.invokevirtual 73, 3) := by decide +kernel
theorem dL_bagOfScan_7 : decode cL_bagOfScan 7 = .ok (.i2l, 1) := by decide +kernel
theorem dL_bagOfScan_8 : decode cL_bagOfScan 8 = .ok (.lastore, 1) := by decide +kernel
theorem dL_bagOfScan_9 : decode cL_bagOfScan 9 = .ok (.goto 6, 3) := by decide +kernel
theorem dL_bagOfScan_12 : decode cL_bagOfScan 12 = .ok (.astore_n 3, 1) := by decide +kernel
theorem dL_bagOfScan_13 : decode cL_bagOfScan 13 = .ok (.iconst 1, 1) := by decide +kernel
theorem dL_bagOfScan_14 : decode cL_bagOfScan 14 = .ok (.ireturn, 1) := by decide +kernel
theorem dL_bagOfScan_15 : decode cL_bagOfScan 15 = .ok (.iconst 0, 1) := by decide +kernel
theorem dL_bagOfScan_16 : decode cL_bagOfScan 16 = .ok (.ireturn, 1) := by decide +kernel
set_option maxRecDepth 20000 in
theorem ggL_placeOfScan_X0_placeOfScan : GoodIn wsL_placeOfScan wsX0_placeOfScan := goodIn_ca (goodIn_r _ [6, 7, 8, 9, 10, 5, 11, 12, 13, 14, 15, 16, 17, 18, 19, 20, 21, 22, 23, 24, 25, 26, 27, 28, 29, 30, 31] (by decide +kernel) (by decide +kernel)) (goodIn_sub (fun _ h => List.mem_cons_of_mem _ (List.mem_append_right _ h)) (by decide +kernel))
set_option maxRecDepth 20000 in
theorem gL_placeOfScan_X0_placeOfScan : GoodIn wsL_placeOfScan (wsV RL 76 RX0 yX0_placeOfScan wsX0_placeOfScan) := goodIn_app (goodIn_of _ (by decide +kernel)) ggL_placeOfScan_X0_placeOfScan
theorem dL_placeOfScan_0 : decode cL_placeOfScan 0 = .ok (.aload_n 2, 1) := by decide +kernel
theorem dL_placeOfScan_1 : decode cL_placeOfScan 1 = .ok (.iconst 0, 1) := by decide +kernel
theorem dL_placeOfScan_2 : decode cL_placeOfScan 2 = .ok (.aload_n 0, 1) := by decide +kernel
theorem dL_placeOfScan_3 : decode cL_placeOfScan 3 = .ok (.iload_n 1, 1) := by decide +kernel
theorem dL_placeOfScan_4 : decode cL_placeOfScan 4 = .ok (.invokevirtual 76, 3) := by decide +kernel
theorem dL_placeOfScan_7 : decode cL_placeOfScan 7 = .ok (.i2l, 1) := by decide +kernel
theorem dL_placeOfScan_8 : decode cL_placeOfScan 8 = .ok (.lastore, 1) := by decide +kernel
theorem dL_placeOfScan_9 : decode cL_placeOfScan 9 = .ok (.goto 6, 3) := by decide +kernel
theorem dL_placeOfScan_12 : decode cL_placeOfScan 12 = .ok (.astore_n 3, 1) := by decide +kernel
theorem dL_placeOfScan_13 : decode cL_placeOfScan 13 = .ok (.iconst 1, 1) := by decide +kernel
theorem dL_placeOfScan_14 : decode cL_placeOfScan 14 = .ok (.ireturn, 1) := by decide +kernel
theorem dL_placeOfScan_15 : decode cL_placeOfScan 15 = .ok (.iconst 0, 1) := by decide +kernel
theorem dL_placeOfScan_16 : decode cL_placeOfScan 16 = .ok (.ireturn, 1) := by decide +kernel
set_option maxRecDepth 20000 in
theorem ggL_law_X0_init : GoodIn wsL_law wsX0_init := goodIn_r _ [9, 10, 11, 12, 13, 14, 15, 16, 17, 18, 19, 20, 21, 22, 23, 24, 25, 26, 27, 488, 489, 490, 491, 492, 493, 494, 495, 496, 497, 498, 499, 500, 501, 502, 503, 504] (by decide +kernel) (by decide +kernel)
set_option maxRecDepth 20000 in
theorem gL_law_X0_init : GoodIn wsL_law (wsX0_init) := ggL_law_X0_init
set_option maxRecDepth 20000 in
theorem ggL_law_X1_init : GoodIn wsL_law wsX1_init := goodIn_r _ [30, 31, 11, 12, 13, 32, 33, 34, 35, 36, 37, 38, 39, 40, 505, 506, 507, 508, 509, 510, 511, 512, 513, 514, 515, 516, 517, 518] (by decide +kernel) (by decide +kernel)
set_option maxRecDepth 20000 in
theorem gL_law_X1_init : GoodIn wsL_law (wsX1_init) := ggL_law_X1_init
set_option maxRecDepth 20000 in
theorem ggL_law_L_addFlight : GoodIn wsL_law wsL_addFlight := goodIn_ca (goodIn_ca (goodIn_r _ [44, 45, 46, 47, 48, 49, 2, 50, 51, 52, 53, 54, 55, 56, 15, 14, 57, 58, 59, 60, 61, 62, 63, 64, 65, 66, 67, 68, 488, 489, 490, 491, 492, 493, 494, 495, 496, 497, 498, 499, 500, 501, 502, 503, 504] (by decide +kernel) (by decide +kernel)) (goodIn_sub (fun _ h => List.mem_append_left _ (List.mem_append_left _ (List.mem_append_right _ h))) (by decide +kernel))) (goodIn_sub (fun _ h => List.mem_append_left _ (List.mem_append_right _ h)) (by decide +kernel))
set_option maxRecDepth 20000 in
theorem gL_law_L_addFlight : GoodIn wsL_law (va_wsS RL 83 yL_addFlight wsL_addFlight) := goodIn_app (goodIn_of _ (by decide +kernel)) ggL_law_L_addFlight
set_option maxRecDepth 20000 in
theorem ggL_law_X1_addFlight : GoodIn wsL_law wsX1_addFlight := goodIn_r _ [72, 73, 74, 32, 75, 33, 76, 77, 5, 78, 79, 80, 81, 82, 505, 506, 507, 508, 509, 510, 511, 512, 513, 514, 515, 516, 517, 518] (by decide +kernel) (by decide +kernel)
set_option maxRecDepth 20000 in
theorem gL_law_X1_addFlight : GoodIn wsL_law (wsV RL 88 RX1 yX1_addFlight wsX1_addFlight) := goodIn_app (goodIn_of _ (by decide +kernel)) ggL_law_X1_addFlight
set_option maxRecDepth 20000 in
theorem ggL_law_X1_thrown : GoodIn wsL_law wsX1_thrown := goodIn_r _ [86, 73, 505, 506, 507, 508, 509, 510, 511, 512, 513, 514, 515, 516, 517, 518] (by decide +kernel) (by decide +kernel)
set_option maxRecDepth 20000 in
theorem gL_law_X1_thrown : GoodIn wsL_law (wsV RL 89 RX1 yX1_thrown wsX1_thrown) := goodIn_app (goodIn_of _ (by decide +kernel)) ggL_law_X1_thrown
set_option maxRecDepth 20000 in
theorem ggL_law_L_board : GoodIn wsL_law wsL_board := goodIn_ca (goodIn_r _ [89, 90, 91, 92, 93, 2, 94, 17, 95, 96, 97, 98, 99, 100, 488, 489, 490, 491, 492, 493, 494, 495, 496, 497, 498, 499, 500, 501, 502, 503, 504] (by decide +kernel) (by decide +kernel)) (goodIn_sub (fun _ h => List.mem_append_right _ h) (by decide +kernel))
set_option maxRecDepth 20000 in
theorem gL_law_L_board : GoodIn wsL_law (va_wsS RL 93 yL_board wsL_board) := goodIn_app (goodIn_of _ (by decide +kernel)) ggL_law_L_board
set_option maxRecDepth 20000 in
theorem ggL_law_X1_board : GoodIn wsL_law wsX1_board := goodIn_r _ [104, 73, 34, 76, 77, 5, 78, 505, 506, 507, 508, 509, 510, 511, 512, 513, 514, 515, 516, 517, 518] (by decide +kernel) (by decide +kernel)
set_option maxRecDepth 20000 in
theorem gL_law_X1_board : GoodIn wsL_law (wsV RL 96 RX1 yX1_board wsX1_board) := goodIn_app (goodIn_of _ (by decide +kernel)) ggL_law_X1_board
set_option maxRecDepth 20000 in
theorem ggL_law_L_pass : GoodIn wsL_law wsL_pass := goodIn_ca (goodIn_r _ [107, 45, 108, 109, 110, 2, 111, 51, 52, 112, 113, 114, 115, 116, 56, 117, 118, 119, 120, 121, 122, 123, 124, 24, 125, 21, 18, 22, 126, 127, 128, 129, 14, 130, 131, 132, 133, 23, 134, 135, 136, 137, 25, 26, 27, 138, 139, 140, 141, 142, 143, 144, 145, 146, 147, 148, 149, 15, 150, 151, 152, 153, 154, 155, 156, 157, 158, 159, 160, 161, 55, 162, 163, 164, 165, 166, 167, 168, 169, 170, 171, 172, 173, 20, 17, 19, 488, 489, 490, 491, 492, 493, 494, 495, 496, 497, 498, 499, 500, 501, 502, 503, 504] (by decide +kernel) (by decide +kernel)) (goodIn_sub (fun _ h => List.mem_append_left _ (List.mem_append_left _ (List.mem_append_right _ h))) (by decide +kernel))
set_option maxRecDepth 20000 in
theorem gL_law_L_pass : GoodIn wsL_law (va_wsS RL 97 yL_pass wsL_pass) := goodIn_app (goodIn_of _ (by decide +kernel)) ggL_law_L_pass
set_option maxRecDepth 20000 in
theorem ggL_law_X1_pass : GoodIn wsL_law wsX1_pass := goodIn_r _ [177, 73, 178, 76, 77, 5, 78, 179, 180, 181, 182, 75, 183, 35, 74, 32, 184, 185, 186, 187, 36, 39, 188, 189, 190, 191, 40, 192, 193, 194, 195, 196, 197, 198, 199, 33, 200, 201, 202, 203, 204, 205, 206, 207, 208, 209, 210, 211, 38, 34, 37, 505, 506, 507, 508, 509, 510, 511, 512, 513, 514, 515, 516, 517, 518] (by decide +kernel) (by decide +kernel)
set_option maxRecDepth 20000 in
theorem gL_law_X1_pass : GoodIn wsL_law (wsV RL 99 RX1 yX1_pass wsX1_pass) := goodIn_app (goodIn_of _ (by decide +kernel)) ggL_law_X1_pass
set_option maxRecDepth 20000 in
theorem ggL_law_X0_time : GoodIn wsL_law wsX0_time := goodIn_r _ [215, 56, 488, 489, 490, 491, 492, 493, 494, 495, 496, 497, 498, 499, 500, 501, 502, 503, 504] (by decide +kernel) (by decide +kernel)
set_option maxRecDepth 20000 in
theorem gL_law_X0_time : GoodIn wsL_law (wsV RL 100 RX0 yX0_time wsX0_time) := goodIn_app (goodIn_of _ (by decide +kernel)) ggL_law_X0_time
set_option maxRecDepth 20000 in
theorem ggL_law_X1_time : GoodIn wsL_law wsX1_time := goodIn_r _ [219, 73, 75, 505, 506, 507, 508, 509, 510, 511, 512, 513, 514, 515, 516, 517, 518] (by decide +kernel) (by decide +kernel)
set_option maxRecDepth 20000 in
theorem gL_law_X1_time : GoodIn wsL_law (wsV RL 103 RX1 yX1_time wsX1_time) := goodIn_app (goodIn_of _ (by decide +kernel)) ggL_law_X1_time
set_option maxRecDepth 20000 in
theorem ggL_law_L_lateralOf : GoodIn wsL_law wsL_lateralOf := goodIn_ca (goodIn_r _ [222, 90, 223, 224, 225, 2, 226, 15, 227, 228, 229, 230, 99, 100, 55, 488, 489, 490, 491, 492, 493, 494, 495, 496, 497, 498, 499, 500, 501, 502, 503, 504] (by decide +kernel) (by decide +kernel)) (goodIn_sub (fun _ h => List.mem_append_right _ h) (by decide +kernel))
set_option maxRecDepth 20000 in
theorem gL_law_L_lateralOf : GoodIn wsL_law (va_wsS RL 104 yL_lateralOf wsL_lateralOf) := goodIn_app (goodIn_of _ (by decide +kernel)) ggL_law_L_lateralOf
set_option maxRecDepth 20000 in
theorem ggL_law_X1_lateralOf : GoodIn wsL_law wsX1_lateralOf := goodIn_r _ [234, 33, 235, 236, 237, 5, 238, 74, 73, 76, 77, 78, 505, 506, 507, 508, 509, 510, 511, 512, 513, 514, 515, 516, 517, 518] (by decide +kernel) (by decide +kernel)
set_option maxRecDepth 20000 in
theorem gL_law_X1_lateralOf : GoodIn wsL_law (wsV RL 106 RX1 yX1_lateralOf wsX1_lateralOf) := goodIn_app (goodIn_of _ (by decide +kernel)) ggL_law_X1_lateralOf
set_option maxRecDepth 20000 in
theorem ggL_law_L_checkIn : GoodIn wsL_law wsL_checkIn := goodIn_ca (goodIn_ca (goodIn_r _ [241, 90, 46, 242, 243, 244, 2, 245, 246, 247, 248, 249, 53, 54, 125, 18, 19, 21, 227, 228, 229, 230, 99, 100, 55, 95, 96, 97, 98, 250, 251, 252, 253, 56, 14, 130, 131, 132, 133, 24, 23, 22, 112, 134, 135, 136, 137, 25, 26, 27, 488, 489, 490, 491, 492, 493, 494, 495, 496, 497, 498, 499, 500, 501, 502, 503, 504] (by decide +kernel) (by decide +kernel)) (goodIn_sub (fun _ h => List.mem_append_left _ (List.mem_append_right _ h)) (by decide +kernel))) (goodIn_sub (fun _ h => List.mem_append_right _ h) (by decide +kernel))
set_option maxRecDepth 20000 in
theorem gL_law_L_checkIn : GoodIn wsL_law (va_wsS RL 107 yL_checkIn wsL_checkIn) := goodIn_app (goodIn_of _ (by decide +kernel)) ggL_law_L_checkIn
set_option maxRecDepth 20000 in
theorem ggL_law_X1_checkIn : GoodIn wsL_law wsX1_checkIn := goodIn_r _ [257, 258, 259, 260, 5, 261, 74, 73, 183, 75, 32, 76, 77, 78, 262, 263, 264, 265, 36, 37, 38, 35, 188, 189, 190, 191, 39, 178, 40, 505, 506, 507, 508, 509, 510, 511, 512, 513, 514, 515, 516, 517, 518] (by decide +kernel) (by decide +kernel)
set_option maxRecDepth 20000 in
theorem gL_law_X1_checkIn : GoodIn wsL_law (wsV RL 110 RX1 yX1_checkIn wsX1_checkIn) := goodIn_app (goodIn_of _ (by decide +kernel)) ggL_law_X1_checkIn
set_option maxRecDepth 20000 in
theorem ggL_law_L_transfer : GoodIn wsL_law wsL_transfer := goodIn_ca (goodIn_ca (goodIn_r _ [268, 90, 46, 269, 270, 271, 2, 272, 246, 247, 248, 249, 53, 54, 125, 18, 19, 21, 227, 228, 229, 230, 99, 100, 55, 95, 96, 97, 98, 250, 251, 252, 253, 56, 14, 142, 143, 144, 145, 146, 147, 148, 149, 15, 24, 150, 151, 152, 153, 154, 155, 156, 157, 126, 127, 128, 129, 130, 131, 132, 133, 23, 22, 112, 134, 135, 136, 137, 25, 26, 27, 488, 489, 490, 491, 492, 493, 494, 495, 496, 497, 498, 499, 500, 501, 502, 503, 504] (by decide +kernel) (by decide +kernel)) (goodIn_sub (fun _ h => List.mem_append_left _ (List.mem_append_right _ h)) (by decide +kernel))) (goodIn_sub (fun _ h => List.mem_append_right _ h) (by decide +kernel))
set_option maxRecDepth 20000 in
theorem gL_law_L_transfer : GoodIn wsL_law (va_wsS RL 111 yL_transfer wsL_transfer) := goodIn_app (goodIn_of _ (by decide +kernel)) ggL_law_L_transfer
set_option maxRecDepth 20000 in
theorem ggL_law_X1_transfer : GoodIn wsL_law wsX1_transfer := goodIn_r _ [276, 258, 259, 260, 5, 261, 74, 73, 183, 75, 32, 76, 77, 78, 262, 263, 264, 265, 36, 37, 38, 35, 192, 193, 194, 195, 196, 197, 198, 199, 33, 200, 201, 202, 203, 188, 189, 190, 191, 39, 178, 40, 505, 506, 507, 508, 509, 510, 511, 512, 513, 514, 515, 516, 517, 518] (by decide +kernel) (by decide +kernel)
set_option maxRecDepth 20000 in
theorem gL_law_X1_transfer : GoodIn wsL_law (wsV RL 113 RX1 yX1_transfer wsX1_transfer) := goodIn_app (goodIn_of _ (by decide +kernel)) ggL_law_X1_transfer
set_option maxRecDepth 20000 in
theorem ggL_law_L_decide : GoodIn wsL_law wsL_decide := goodIn_ca (goodIn_ca (goodIn_r _ [279, 90, 46, 280, 281, 282, 2, 283, 53, 54, 21, 56, 23, 284, 285, 286, 287, 99, 100, 125, 288, 289, 290, 142, 143, 144, 145, 18, 146, 147, 148, 149, 15, 24, 150, 151, 152, 153, 154, 155, 156, 157, 14, 126, 127, 128, 129, 130, 131, 132, 133, 22, 112, 134, 135, 136, 137, 25, 26, 27, 291, 292, 293, 488, 489, 490, 491, 492, 493, 494, 495, 496, 497, 498, 499, 500, 501, 502, 503, 504] (by decide +kernel) (by decide +kernel)) (goodIn_sub (fun _ h => List.mem_append_left _ (List.mem_append_right _ h)) (by decide +kernel))) (goodIn_sub (fun _ h => List.mem_append_right _ h) (by decide +kernel))
set_option maxRecDepth 20000 in
theorem gL_law_L_decide : GoodIn wsL_law (va_wsS RL 114 yL_decide wsL_decide) := goodIn_app (goodIn_of _ (by decide +kernel)) ggL_law_L_decide
set_option maxRecDepth 20000 in
theorem ggL_law_X1_decide : GoodIn wsL_law wsX1_decide := goodIn_r _ [297, 35, 75, 40, 39, 298, 299, 300, 5, 301, 183, 73, 76, 77, 78, 79, 80, 81, 82, 188, 189, 190, 191, 178, 192, 193, 194, 195, 196, 197, 198, 199, 36, 32, 33, 200, 201, 202, 203, 505, 506, 507, 508, 509, 510, 511, 512, 513, 514, 515, 516, 517, 518] (by decide +kernel) (by decide +kernel)
set_option maxRecDepth 20000 in
theorem gL_law_X1_decide : GoodIn wsL_law (wsV RL 116 RX1 yX1_decide wsX1_decide) := goodIn_app (goodIn_of _ (by decide +kernel)) ggL_law_X1_decide
set_option maxRecDepth 20000 in
theorem ggL_law_L_letGo : GoodIn wsL_law wsL_letGo := goodIn_ca (goodIn_ca (goodIn_r _ [304, 90, 46, 305, 306, 307, 2, 308, 21, 284, 285, 286, 287, 99, 100, 125, 309, 310, 311, 312, 53, 54, 142, 143, 144, 145, 18, 146, 147, 148, 149, 15, 24, 150, 151, 152, 153, 56, 154, 155, 156, 157, 14, 126, 127, 128, 129, 130, 131, 132, 133, 23, 22, 112, 134, 135, 136, 137, 25, 26, 27, 488, 489, 490, 491, 492, 493, 494, 495, 496, 497, 498, 499, 500, 501, 502, 503, 504] (by decide +kernel) (by decide +kernel)) (goodIn_sub (fun _ h => List.mem_append_right _ h) (by decide +kernel))) (goodIn_sub (fun _ h => List.mem_append_left _ (List.mem_append_right _ h)) (by decide +kernel))
set_option maxRecDepth 20000 in
theorem gL_law_L_letGo : GoodIn wsL_law (va_wsS RL 117 yL_letGo wsL_letGo) := goodIn_app (goodIn_of _ (by decide +kernel)) ggL_law_L_letGo
set_option maxRecDepth 20000 in
theorem ggL_law_X1_letGo : GoodIn wsL_law wsX1_letGo := goodIn_r _ [316, 35, 298, 299, 300, 5, 301, 183, 73, 76, 77, 78, 192, 193, 194, 195, 196, 197, 198, 199, 36, 75, 32, 33, 200, 201, 202, 203, 188, 189, 190, 191, 39, 178, 40, 79, 80, 81, 82, 505, 506, 507, 508, 509, 510, 511, 512, 513, 514, 515, 516, 517, 518] (by decide +kernel) (by decide +kernel)
set_option maxRecDepth 20000 in
theorem gL_law_X1_letGo : GoodIn wsL_law (wsV RL 119 RX1 yX1_letGo wsX1_letGo) := goodIn_app (goodIn_of _ (by decide +kernel)) ggL_law_X1_letGo
set_option maxRecDepth 20000 in
theorem ggL_law_L_load : GoodIn wsL_law wsL_load := goodIn_ca (goodIn_ca (goodIn_r _ [319, 90, 46, 320, 321, 322, 2, 323, 18, 284, 285, 286, 287, 99, 100, 125, 309, 310, 311, 312, 53, 54, 21, 130, 131, 132, 133, 24, 23, 56, 22, 112, 134, 135, 136, 137, 25, 26, 27, 324, 325, 326, 327, 328, 329, 330, 331, 488, 489, 490, 491, 492, 493, 494, 495, 496, 497, 498, 499, 500, 501, 502, 503, 504] (by decide +kernel) (by decide +kernel)) (goodIn_sub (fun _ h => List.mem_append_right _ h) (by decide +kernel))) (goodIn_sub (fun _ h => List.mem_append_left _ (List.mem_append_right _ h)) (by decide +kernel))
set_option maxRecDepth 20000 in
theorem gL_law_L_load : GoodIn wsL_law (va_wsS RL 120 yL_load wsL_load) := goodIn_app (goodIn_of _ (by decide +kernel)) ggL_law_L_load
set_option maxRecDepth 20000 in
theorem ggL_law_X1_load : GoodIn wsL_law wsX1_load := goodIn_r _ [335, 35, 36, 298, 299, 300, 5, 301, 183, 73, 76, 77, 78, 79, 80, 81, 82, 188, 189, 190, 191, 39, 178, 40, 75, 336, 337, 338, 339, 505, 506, 507, 508, 509, 510, 511, 512, 513, 514, 515, 516, 517, 518] (by decide +kernel) (by decide +kernel)
set_option maxRecDepth 20000 in
theorem gL_law_X1_load : GoodIn wsL_law (wsV RL 122 RX1 yX1_load wsX1_load) := goodIn_app (goodIn_of _ (by decide +kernel)) ggL_law_X1_load
set_option maxRecDepth 20000 in
theorem ggL_law_L_offload : GoodIn wsL_law wsL_offload := goodIn_ca (goodIn_ca (goodIn_r _ [342, 90, 46, 343, 344, 345, 2, 346, 18, 284, 285, 286, 287, 99, 100, 125, 309, 310, 311, 312, 53, 54, 21, 130, 131, 132, 133, 24, 23, 56, 22, 112, 134, 135, 136, 137, 25, 26, 27, 324, 325, 326, 327, 328, 329, 330, 331, 488, 489, 490, 491, 492, 493, 494, 495, 496, 497, 498, 499, 500, 501, 502, 503, 504] (by decide +kernel) (by decide +kernel)) (goodIn_sub (fun _ h => List.mem_append_right _ h) (by decide +kernel))) (goodIn_sub (fun _ h => List.mem_append_left _ (List.mem_append_right _ h)) (by decide +kernel))
set_option maxRecDepth 20000 in
theorem gL_law_L_offload : GoodIn wsL_law (va_wsS RL 123 yL_offload wsL_offload) := goodIn_app (goodIn_of _ (by decide +kernel)) ggL_law_L_offload
set_option maxRecDepth 20000 in
theorem ggL_law_X1_offload : GoodIn wsL_law wsX1_offload := goodIn_r _ [350, 35, 36, 298, 299, 300, 5, 301, 183, 73, 76, 77, 78, 79, 80, 81, 82, 188, 189, 190, 191, 39, 178, 40, 75, 336, 337, 338, 339, 505, 506, 507, 508, 509, 510, 511, 512, 513, 514, 515, 516, 517, 518] (by decide +kernel) (by decide +kernel)
set_option maxRecDepth 20000 in
theorem gL_law_X1_offload : GoodIn wsL_law (wsV RL 125 RX1 yX1_offload wsX1_offload) := goodIn_app (goodIn_of _ (by decide +kernel)) ggL_law_X1_offload
set_option maxRecDepth 20000 in
theorem ggL_law_L_sendOn : GoodIn wsL_law wsL_sendOn := goodIn_ca (goodIn_ca (goodIn_r _ [353, 90, 46, 354, 355, 356, 2, 357, 53, 54, 21, 18, 20, 284, 285, 286, 287, 99, 100, 125, 227, 228, 229, 230, 55, 250, 251, 252, 253, 56, 14, 142, 143, 144, 145, 146, 147, 148, 149, 15, 24, 150, 151, 152, 153, 154, 155, 156, 157, 126, 127, 128, 129, 130, 131, 132, 133, 23, 22, 112, 134, 135, 136, 137, 25, 26, 27, 488, 489, 490, 491, 492, 493, 494, 495, 496, 497, 498, 499, 500, 501, 502, 503, 504] (by decide +kernel) (by decide +kernel)) (goodIn_sub (fun _ h => List.mem_append_left _ (List.mem_append_right _ h)) (by decide +kernel))) (goodIn_sub (fun _ h => List.mem_append_right _ h) (by decide +kernel))
set_option maxRecDepth 20000 in
theorem gL_law_L_sendOn : GoodIn wsL_law (va_wsS RL 126 yL_sendOn wsL_sendOn) := goodIn_app (goodIn_of _ (by decide +kernel)) ggL_law_L_sendOn
set_option maxRecDepth 20000 in
theorem ggL_law_X1_sendOn : GoodIn wsL_law wsX1_sendOn := goodIn_r _ [361, 183, 74, 73, 35, 75, 32, 36, 38, 76, 77, 5, 78, 79, 80, 81, 82, 192, 193, 194, 195, 196, 197, 198, 199, 33, 200, 201, 202, 203, 188, 189, 190, 191, 39, 178, 40, 505, 506, 507, 508, 509, 510, 511, 512, 513, 514, 515, 516, 517, 518] (by decide +kernel) (by decide +kernel)
set_option maxRecDepth 20000 in
theorem gL_law_X1_sendOn : GoodIn wsL_law (wsV RL 128 RX1 yX1_sendOn wsX1_sendOn) := goodIn_app (goodIn_of _ (by decide +kernel)) ggL_law_X1_sendOn
set_option maxRecDepth 20000 in
theorem ggL_law_X0_bags : GoodIn wsL_law wsX0_bags := goodIn_r _ [365, 125, 488, 489, 490, 491, 492, 493, 494, 495, 496, 497, 498, 499, 500, 501, 502, 503, 504] (by decide +kernel) (by decide +kernel)
set_option maxRecDepth 20000 in
theorem gL_law_X0_bags : GoodIn wsL_law (wsV RL 129 RX0 yX0_bags wsX0_bags) := goodIn_app (goodIn_of _ (by decide +kernel)) ggL_law_X0_bags
set_option maxRecDepth 20000 in
theorem ggL_law_X1_bags : GoodIn wsL_law wsX1_bags := goodIn_r _ [369, 73, 183, 505, 506, 507, 508, 509, 510, 511, 512, 513, 514, 515, 516, 517, 518] (by decide +kernel) (by decide +kernel)
set_option maxRecDepth 20000 in
theorem gL_law_X1_bags : GoodIn wsL_law (wsV RL 132 RX1 yX1_bags wsX1_bags) := goodIn_app (goodIn_of _ (by decide +kernel)) ggL_law_X1_bags
set_option maxRecDepth 20000 in
theorem ggL_law_L_placeOf : GoodIn wsL_law wsL_placeOf := goodIn_ca (goodIn_r _ [372, 90, 373, 374, 375, 2, 376, 21, 284, 285, 286, 287, 99, 100, 125, 488, 489, 490, 491, 492, 493, 494, 495, 496, 497, 498, 499, 500, 501, 502, 503, 504] (by decide +kernel) (by decide +kernel)) (goodIn_sub (fun _ h => List.mem_append_right _ h) (by decide +kernel))
set_option maxRecDepth 20000 in
theorem gL_law_L_placeOf : GoodIn wsL_law (va_wsS RL 133 yL_placeOf wsL_placeOf) := goodIn_app (goodIn_of _ (by decide +kernel)) ggL_law_L_placeOf
set_option maxRecDepth 20000 in
theorem ggL_law_X1_placeOf : GoodIn wsL_law wsX1_placeOf := goodIn_r _ [380, 35, 298, 299, 300, 5, 301, 183, 73, 76, 77, 78, 505, 506, 507, 508, 509, 510, 511, 512, 513, 514, 515, 516, 517, 518] (by decide +kernel) (by decide +kernel)
set_option maxRecDepth 20000 in
theorem gL_law_X1_placeOf : GoodIn wsL_law (wsV RL 135 RX1 yX1_placeOf wsX1_placeOf) := goodIn_app (goodIn_of _ (by decide +kernel)) ggL_law_X1_placeOf
set_option maxRecDepth 20000 in
theorem ggL_law_L_placeByScans : GoodIn wsL_law wsL_placeByScans := goodIn_ca (goodIn_ca (goodIn_r _ [383, 90, 45, 384, 385, 386, 2, 387, 51, 52, 56, 112, 25, 27, 26, 284, 285, 286, 287, 99, 100, 125, 488, 489, 490, 491, 492, 493, 494, 495, 496, 497, 498, 499, 500, 501, 502, 503, 504] (by decide +kernel) (by decide +kernel)) (goodIn_sub (fun _ h => List.mem_append_left _ (List.mem_append_left _ (List.mem_append_right _ h))) (by decide +kernel))) (goodIn_sub (fun _ h => List.mem_append_right _ h) (by decide +kernel))
set_option maxRecDepth 20000 in
theorem gL_law_L_placeByScans : GoodIn wsL_law (va_wsS RL 136 yL_placeByScans wsL_placeByScans) := goodIn_app (goodIn_of _ (by decide +kernel)) ggL_law_L_placeByScans
set_option maxRecDepth 20000 in
theorem ggL_law_X1_placeByScans : GoodIn wsL_law wsX1_placeByScans := goodIn_r _ [391, 75, 178, 40, 298, 299, 300, 5, 301, 183, 73, 76, 77, 78, 79, 80, 81, 82, 505, 506, 507, 508, 509, 510, 511, 512, 513, 514, 515, 516, 517, 518] (by decide +kernel) (by decide +kernel)
set_option maxRecDepth 20000 in
theorem gL_law_X1_placeByScans : GoodIn wsL_law (wsV RL 138 RX1 yX1_placeByScans wsX1_placeByScans) := goodIn_app (goodIn_of _ (by decide +kernel)) ggL_law_X1_placeByScans
set_option maxRecDepth 20000 in
theorem ggL_law_L_flightOf : GoodIn wsL_law wsL_flightOf := goodIn_ca (goodIn_r _ [394, 90, 395, 396, 397, 2, 398, 18, 284, 285, 286, 287, 99, 100, 125, 488, 489, 490, 491, 492, 493, 494, 495, 496, 497, 498, 499, 500, 501, 502, 503, 504] (by decide +kernel) (by decide +kernel)) (goodIn_sub (fun _ h => List.mem_append_right _ h) (by decide +kernel))
set_option maxRecDepth 20000 in
theorem gL_law_L_flightOf : GoodIn wsL_law (va_wsS RL 139 yL_flightOf wsL_flightOf) := goodIn_app (goodIn_of _ (by decide +kernel)) ggL_law_L_flightOf
set_option maxRecDepth 20000 in
theorem ggL_law_X1_flightOf : GoodIn wsL_law wsX1_flightOf := goodIn_r _ [402, 36, 298, 299, 300, 5, 301, 183, 73, 76, 77, 78, 505, 506, 507, 508, 509, 510, 511, 512, 513, 514, 515, 516, 517, 518] (by decide +kernel) (by decide +kernel)
set_option maxRecDepth 20000 in
theorem gL_law_X1_flightOf : GoodIn wsL_law (wsV RL 141 RX1 yX1_flightOf wsX1_flightOf) := goodIn_app (goodIn_of _ (by decide +kernel)) ggL_law_X1_flightOf
set_option maxRecDepth 20000 in
theorem ggL_law_L_count : GoodIn wsL_law wsL_count := goodIn_ca (goodIn_r _ [405, 45, 406, 407, 408, 2, 409, 51, 52, 24, 488, 489, 490, 491, 492, 493, 494, 495, 496, 497, 498, 499, 500, 501, 502, 503, 504] (by decide +kernel) (by decide +kernel)) (goodIn_sub (fun _ h => List.mem_append_left _ (List.mem_append_left _ (List.mem_append_right _ h))) (by decide +kernel))
set_option maxRecDepth 20000 in
theorem gL_law_L_count : GoodIn wsL_law (va_wsS RL 142 yL_count wsL_count) := goodIn_app (goodIn_of _ (by decide +kernel)) ggL_law_L_count
set_option maxRecDepth 20000 in
theorem ggL_law_X1_count : GoodIn wsL_law wsX1_count := goodIn_r _ [413, 73, 76, 77, 5, 78, 200, 201, 202, 203, 183, 35, 505, 506, 507, 508, 509, 510, 511, 512, 513, 514, 515, 516, 517, 518] (by decide +kernel) (by decide +kernel)
set_option maxRecDepth 20000 in
theorem gL_law_X1_count : GoodIn wsL_law (wsV RL 144 RX1 yX1_count wsX1_count) := goodIn_app (goodIn_of _ (by decide +kernel)) ggL_law_X1_count
set_option maxRecDepth 20000 in
theorem ggL_law_L_atLateral : GoodIn wsL_law wsL_atLateral := goodIn_ca (goodIn_r _ [416, 90, 417, 418, 419, 2, 420, 99, 100, 125, 21, 15, 18, 488, 489, 490, 491, 492, 493, 494, 495, 496, 497, 498, 499, 500, 501, 502, 503, 504] (by decide +kernel) (by decide +kernel)) (goodIn_sub (fun _ h => List.mem_append_right _ h) (by decide +kernel))
set_option maxRecDepth 20000 in
theorem gL_law_L_atLateral : GoodIn wsL_law (va_wsS RL 145 yL_atLateral wsL_atLateral) := goodIn_app (goodIn_of _ (by decide +kernel)) ggL_law_L_atLateral
set_option maxRecDepth 20000 in
theorem ggL_law_X1_atLateral : GoodIn wsL_law wsX1_atLateral := goodIn_r _ [424, 73, 183, 35, 33, 36, 76, 77, 5, 78, 505, 506, 507, 508, 509, 510, 511, 512, 513, 514, 515, 516, 517, 518] (by decide +kernel) (by decide +kernel)
set_option maxRecDepth 20000 in
theorem gL_law_X1_atLateral : GoodIn wsL_law (wsV RL 147 RX1 yX1_atLateral wsX1_atLateral) := goodIn_app (goodIn_of _ (by decide +kernel)) ggL_law_X1_atLateral
set_option maxRecDepth 20000 in
theorem ggL_law_L_unmatched : GoodIn wsL_law wsL_unmatched := goodIn_ca (goodIn_r _ [427, 90, 428, 429, 430, 2, 431, 125, 227, 228, 229, 230, 99, 100, 55, 328, 329, 330, 331, 21, 18, 170, 171, 172, 173, 20, 17, 19, 488, 489, 490, 491, 492, 493, 494, 495, 496, 497, 498, 499, 500, 501, 502, 503, 504] (by decide +kernel) (by decide +kernel)) (goodIn_sub (fun _ h => List.mem_append_right _ h) (by decide +kernel))
set_option maxRecDepth 20000 in
theorem gL_law_L_unmatched : GoodIn wsL_law (va_wsS RL 148 yL_unmatched wsL_unmatched) := goodIn_app (goodIn_of _ (by decide +kernel)) ggL_law_L_unmatched
set_option maxRecDepth 20000 in
theorem ggL_law_X1_unmatched : GoodIn wsL_law wsX1_unmatched := goodIn_r _ [435, 183, 35, 36, 235, 236, 237, 5, 238, 74, 73, 76, 77, 78, 208, 209, 210, 211, 38, 34, 37, 505, 506, 507, 508, 509, 510, 511, 512, 513, 514, 515, 516, 517, 518] (by decide +kernel) (by decide +kernel)
set_option maxRecDepth 20000 in
theorem gL_law_X1_unmatched : GoodIn wsL_law (wsV RL 150 RX1 yX1_unmatched wsX1_unmatched) := goodIn_app (goodIn_of _ (by decide +kernel)) ggL_law_X1_unmatched
set_option maxRecDepth 20000 in
theorem ggL_law_L_untilClose : GoodIn wsL_law wsL_untilClose := goodIn_ca (goodIn_r _ [438, 90, 439, 440, 441, 2, 442, 56, 443, 444, 67, 445, 227, 228, 229, 230, 99, 100, 55, 154, 155, 156, 157, 14, 488, 489, 490, 491, 492, 493, 494, 495, 496, 497, 498, 499, 500, 501, 502, 503, 504] (by decide +kernel) (by decide +kernel)) (goodIn_sub (fun _ h => List.mem_append_right _ h) (by decide +kernel))
set_option maxRecDepth 20000 in
theorem gL_law_L_untilClose : GoodIn wsL_law (va_wsS RL 151 yL_untilClose wsL_untilClose) := goodIn_app (goodIn_of _ (by decide +kernel)) ggL_law_L_untilClose
set_option maxRecDepth 20000 in
theorem ggL_law_X1_untilClose : GoodIn wsL_law wsX1_untilClose := goodIn_r _ [449, 32, 75, 235, 236, 237, 5, 238, 74, 73, 76, 77, 78, 505, 506, 507, 508, 509, 510, 511, 512, 513, 514, 515, 516, 517, 518] (by decide +kernel) (by decide +kernel)
set_option maxRecDepth 20000 in
theorem gL_law_X1_untilClose : GoodIn wsL_law (wsV RL 153 RX1 yX1_untilClose wsX1_untilClose) := goodIn_app (goodIn_of _ (by decide +kernel)) ggL_law_X1_untilClose
set_option maxRecDepth 20000 in
theorem ggL_law_X0_scans : GoodIn wsL_law wsX0_scans := goodIn_r _ [453, 112, 488, 489, 490, 491, 492, 493, 494, 495, 496, 497, 498, 499, 500, 501, 502, 503, 504] (by decide +kernel) (by decide +kernel)
set_option maxRecDepth 20000 in
theorem gL_law_X0_scans : GoodIn wsL_law (wsV RL 154 RX0 yX0_scans wsX0_scans) := goodIn_app (goodIn_of _ (by decide +kernel)) ggL_law_X0_scans
set_option maxRecDepth 20000 in
theorem ggL_law_X1_scans : GoodIn wsL_law wsX1_scans := goodIn_r _ [457, 73, 178, 505, 506, 507, 508, 509, 510, 511, 512, 513, 514, 515, 516, 517, 518] (by decide +kernel) (by decide +kernel)
set_option maxRecDepth 20000 in
theorem gL_law_X1_scans : GoodIn wsL_law (wsV RL 157 RX1 yX1_scans wsX1_scans) := goodIn_app (goodIn_of _ (by decide +kernel)) ggL_law_X1_scans
set_option maxRecDepth 20000 in
theorem ggL_law_L_bagOfScan : GoodIn wsL_law wsL_bagOfScan := goodIn_ca (goodIn_r _ [460, 90, 461, 462, 463, 2, 464, 25, 465, 466, 467, 468, 99, 100, 112, 488, 489, 490, 491, 492, 493, 494, 495, 496, 497, 498, 499, 500, 501, 502, 503, 504] (by decide +kernel) (by decide +kernel)) (goodIn_sub (fun _ h => List.mem_append_right _ h) (by decide +kernel))
set_option maxRecDepth 20000 in
theorem gL_law_L_bagOfScan : GoodIn wsL_law (va_wsS RL 158 yL_bagOfScan wsL_bagOfScan) := goodIn_app (goodIn_of _ (by decide +kernel)) ggL_law_L_bagOfScan
set_option maxRecDepth 20000 in
theorem ggL_law_X1_bagOfScan : GoodIn wsL_law wsX1_bagOfScan := goodIn_r _ [472, 40, 473, 474, 475, 5, 476, 178, 73, 76, 77, 78, 505, 506, 507, 508, 509, 510, 511, 512, 513, 514, 515, 516, 517, 518] (by decide +kernel) (by decide +kernel)
set_option maxRecDepth 20000 in
theorem gL_law_X1_bagOfScan : GoodIn wsL_law (wsV RL 160 RX1 yX1_bagOfScan wsX1_bagOfScan) := goodIn_app (goodIn_of _ (by decide +kernel)) ggL_law_X1_bagOfScan
set_option maxRecDepth 20000 in
theorem ggL_law_L_placeOfScan : GoodIn wsL_law wsL_placeOfScan := goodIn_ca (goodIn_r _ [479, 90, 480, 481, 482, 2, 483, 26, 465, 466, 467, 468, 99, 100, 112, 488, 489, 490, 491, 492, 493, 494, 495, 496, 497, 498, 499, 500, 501, 502, 503, 504] (by decide +kernel) (by decide +kernel)) (goodIn_sub (fun _ h => List.mem_append_right _ h) (by decide +kernel))
set_option maxRecDepth 20000 in
theorem gL_law_L_placeOfScan : GoodIn wsL_law (va_wsS RL 161 yL_placeOfScan wsL_placeOfScan) := goodIn_app (goodIn_of _ (by decide +kernel)) ggL_law_L_placeOfScan
set_option maxRecDepth 20000 in
theorem ggL_law_X1_placeOfScan : GoodIn wsL_law wsX1_placeOfScan := goodIn_r _ [487, 40, 473, 474, 475, 5, 476, 178, 73, 76, 77, 78, 505, 506, 507, 508, 509, 510, 511, 512, 513, 514, 515, 516, 517, 518] (by decide +kernel) (by decide +kernel)
set_option maxRecDepth 20000 in
theorem gL_law_X1_placeOfScan : GoodIn wsL_law (wsV RL 163 RX1 yX1_placeOfScan wsX1_placeOfScan) := goodIn_app (goodIn_of _ (by decide +kernel)) ggL_law_X1_placeOfScan
theorem dL_law_0 : decode cL_law 0 = .ok (.new 8, 3) := by decide +kernel
theorem dL_law_3 : decode cL_law 3 = .ok (.dup, 1) := by decide +kernel
theorem dL_law_4 : decode cL_law 4 = .ok (.invokespecial 79, 3) := by decide +kernel
theorem dL_law_7 : decode cL_law 7 = .ok (.astore_n 1, 1) := by decide +kernel
theorem dL_law_8 : decode cL_law 8 = .ok (.new 80, 3) := by decide +kernel
theorem dL_law_11 : decode cL_law 11 = .ok (.dup, 1) := by decide +kernel
theorem dL_law_12 : decode cL_law 12 = .ok (.invokespecial 82, 3) := by decide +kernel
theorem dL_law_15 : decode cL_law 15 = .ok (.astore_n 2, 1) := by decide +kernel
theorem dL_law_16 : decode cL_law 16 = .ok (.iconst 1, 1) := by decide +kernel
theorem dL_law_17 : decode cL_law 17 = .ok (.newarray .long, 2) := by decide +kernel
theorem dL_law_19 : decode cL_law 19 = .ok (.astore_n 3, 1) := by decide +kernel
theorem dL_law_20 : decode cL_law 20 = .ok (.iconst 0, 1) := by decide +kernel
theorem dL_law_21 : decode cL_law 21 = .ok (.istore 4, 2) := by decide +kernel
theorem dL_law_23 : decode cL_law 23 = .ok (.iload 4, 2) := by decide +kernel
theorem dL_law_25 : decode cL_law 25 = .ok (.aload_n 0, 1) := by decide +kernel
theorem dL_law_26 : decode cL_law 26 = .ok (.arraylength, 1) := by decide +kernel
theorem dL_law_27 : decode cL_law 27 = .ok (.iconst 3, 1) := by decide +kernel
theorem dL_law_28 : decode cL_law 28 = .ok (.isub, 1) := by decide +kernel
theorem dL_law_29 : decode cL_law 29 = .ok (.if_icmp .gt 1391, 3) := by decide +kernel
theorem dL_law_32 : decode cL_law 32 = .ok (.aload_n 0, 1) := by decide +kernel
theorem dL_law_33 : decode cL_law 33 = .ok (.iload 4, 2) := by decide +kernel
theorem dL_law_35 : decode cL_law 35 = .ok (.iaload, 1) := by decide +kernel
theorem dL_law_36 : decode cL_law 36 = .ok (.bipush 31, 2) := by decide +kernel
theorem dL_law_38 : decode cL_law 38 = .ok (.iand, 1) := by decide +kernel
theorem dL_law_39 : decode cL_law 39 = .ok (.tableswitch 1375 0 22 #[105, 161, 252, 308, 321, 377, 445, 513, 597, 653, 709, 765, 833, 846, 902, 970, 1026, 1082, 1138, 1194, 1250, 1263, 1319], 105) := by decide +kernel
theorem dL_law_144 : decode cL_law 144 = .ok (.aload_n 1, 1) := by decide +kernel
theorem dL_law_145 : decode cL_law 145 = .ok (.aload_n 0, 1) := by decide +kernel
theorem dL_law_146 : decode cL_law 146 = .ok (.iload 4, 2) := by decide +kernel
theorem dL_law_148 : decode cL_law 148 = .ok (.iconst 1, 1) := by decide +kernel
theorem dL_law_149 : decode cL_law 149 = .ok (.iadd, 1) := by decide +kernel
theorem dL_law_150 : decode cL_law 150 = .ok (.iaload, 1) := by decide +kernel
theorem dL_law_151 : decode cL_law 151 = .ok (.aload_n 3, 1) := by decide +kernel
theorem dL_law_152 : decode cL_law 152 = .ok (.invokestatic 83, 3) := by decide +kernel
theorem dL_law_155 : decode cL_law 155 = .ok (.istore 5, 2) := by decide +kernel
theorem dL_law_157 : decode cL_law 157 = .ok (.aload_n 2, 1) := by decide +kernel
theorem dL_law_158 : decode cL_law 158 = .ok (.aload_n 0, 1) := by decide +kernel
theorem dL_law_159 : decode cL_law 159 = .ok (.iload 4, 2) := by decide +kernel
theorem dL_law_161 : decode cL_law 161 = .ok (.iconst 1, 1) := by decide +kernel
theorem dL_law_162 : decode cL_law 162 = .ok (.iadd, 1) := by decide +kernel
theorem dL_law_163 : decode cL_law 163 = .ok (.iaload, 1) := by decide +kernel
theorem dL_law_164 : decode cL_law 164 = .ok (.invokevirtual 88, 3) := by decide +kernel
theorem dL_law_167 : decode cL_law 167 = .ok (.istore 6, 2) := by decide +kernel
theorem dL_law_169 : decode cL_law 169 = .ok (.aload_n 2, 1) := by decide +kernel
theorem dL_law_170 : decode cL_law 170 = .ok (.invokevirtual 89, 3) := by decide +kernel
theorem dL_law_173 : decode cL_law 173 = .ok (.iload 5, 2) := by decide +kernel
theorem dL_law_175 : decode cL_law 175 = .ok (.if_icmp .eq 5, 3) := by decide +kernel
theorem dL_law_178 : decode cL_law 178 = .ok (.iconst 0, 1) := by decide +kernel
theorem dL_law_179 : decode cL_law 179 = .ok (.ireturn, 1) := by decide +kernel
theorem dL_law_180 : decode cL_law 180 = .ok (.iload 5, 2) := by decide +kernel
theorem dL_law_182 : decode cL_law 182 = .ok (.ifCond .ne 15, 3) := by decide +kernel
theorem dL_law_185 : decode cL_law 185 = .ok (.aload_n 3, 1) := by decide +kernel
theorem dL_law_186 : decode cL_law 186 = .ok (.iconst 0, 1) := by decide +kernel
theorem dL_law_187 : decode cL_law 187 = .ok (.laload, 1) := by decide +kernel
theorem dL_law_188 : decode cL_law 188 = .ok (.iload 6, 2) := by decide +kernel
theorem dL_law_190 : decode cL_law 190 = .ok (.i2l, 1) := by decide +kernel
theorem dL_law_191 : decode cL_law 191 = .ok (.lcmp, 1) := by decide +kernel
theorem dL_law_192 : decode cL_law 192 = .ok (.ifCond .eq 5, 3) := by decide +kernel
theorem dL_law_195 : decode cL_law 195 = .ok (.iconst 0, 1) := by decide +kernel
theorem dL_law_196 : decode cL_law 196 = .ok (.ireturn, 1) := by decide +kernel
theorem dL_law_197 : decode cL_law 197 = .ok (.goto 1217, 3) := by decide +kernel
theorem dL_law_200 : decode cL_law 200 = .ok (.aload_n 1, 1) := by decide +kernel
theorem dL_law_201 : decode cL_law 201 = .ok (.aload_n 0, 1) := by decide +kernel
theorem dL_law_202 : decode cL_law 202 = .ok (.iload 4, 2) := by decide +kernel
theorem dL_law_204 : decode cL_law 204 = .ok (.iconst 1, 1) := by decide +kernel
theorem dL_law_205 : decode cL_law 205 = .ok (.iadd, 1) := by decide +kernel
theorem dL_law_206 : decode cL_law 206 = .ok (.iaload, 1) := by decide +kernel
theorem dL_law_207 : decode cL_law 207 = .ok (.aload_n 0, 1) := by decide +kernel
theorem dL_law_208 : decode cL_law 208 = .ok (.iload 4, 2) := by decide +kernel
theorem dL_law_210 : decode cL_law 210 = .ok (.iconst 2, 1) := by decide +kernel
theorem dL_law_211 : decode cL_law 211 = .ok (.iadd, 1) := by decide +kernel
theorem dL_law_212 : decode cL_law 212 = .ok (.iaload, 1) := by decide +kernel
theorem dL_law_213 : decode cL_law 213 = .ok (.ifCond .eq 7, 3) := by decide +kernel
theorem dL_law_216 : decode cL_law 216 = .ok (.iconst 1, 1) := by decide +kernel
theorem dL_law_217 : decode cL_law 217 = .ok (.goto 4, 3) := by decide +kernel
theorem dL_law_220 : decode cL_law 220 = .ok (.iconst 0, 1) := by decide +kernel
theorem dL_law_221 : decode cL_law 221 = .ok (.aload_n 3, 1) := by decide +kernel
theorem dL_law_222 : decode cL_law 222 = .ok (.invokestatic 93, 3) := by decide +kernel
theorem dL_law_225 : decode cL_law 225 = .ok (.istore 5, 2) := by decide +kernel
theorem dL_law_227 : decode cL_law 227 = .ok (.aload_n 2, 1) := by decide +kernel
theorem dL_law_228 : decode cL_law 228 = .ok (.aload_n 0, 1) := by decide +kernel
theorem dL_law_229 : decode cL_law 229 = .ok (.iload 4, 2) := by decide +kernel
theorem dL_law_231 : decode cL_law 231 = .ok (.iconst 1, 1) := by decide +kernel
theorem dL_law_232 : decode cL_law 232 = .ok (.iadd, 1) := by decide +kernel
theorem dL_law_233 : decode cL_law 233 = .ok (.iaload, 1) := by decide +kernel
theorem dL_law_234 : decode cL_law 234 = .ok (.aload_n 0, 1) := by decide +kernel
theorem dL_law_235 : decode cL_law 235 = .ok (.iload 4, 2) := by decide +kernel
theorem dL_law_237 : decode cL_law 237 = .ok (.iconst 2, 1) := by decide +kernel
theorem dL_law_238 : decode cL_law 238 = .ok (.iadd, 1) := by decide +kernel
theorem dL_law_239 : decode cL_law 239 = .ok (.iaload, 1) := by decide +kernel
theorem dL_law_240 : decode cL_law 240 = .ok (.ifCond .eq 7, 3) := by decide +kernel
theorem dL_law_243 : decode cL_law 243 = .ok (.iconst 1, 1) := by decide +kernel
theorem dL_law_244 : decode cL_law 244 = .ok (.goto 4, 3) := by decide +kernel
theorem dL_law_247 : decode cL_law 247 = .ok (.iconst 0, 1) := by decide +kernel
theorem dL_law_248 : decode cL_law 248 = .ok (.invokevirtual 96, 3) := by decide +kernel
theorem dL_law_251 : decode cL_law 251 = .ok (.istore 6, 2) := by decide +kernel
theorem dL_law_253 : decode cL_law 253 = .ok (.aload_n 2, 1) := by decide +kernel
theorem dL_law_254 : decode cL_law 254 = .ok (.invokevirtual 89, 3) := by decide +kernel
theorem dL_law_257 : decode cL_law 257 = .ok (.iload 5, 2) := by decide +kernel
theorem dL_law_259 : decode cL_law 259 = .ok (.if_icmp .eq 5, 3) := by decide +kernel
theorem dL_law_262 : decode cL_law 262 = .ok (.iconst 0, 1) := by decide +kernel
theorem dL_law_263 : decode cL_law 263 = .ok (.ireturn, 1) := by decide +kernel
theorem dL_law_264 : decode cL_law 264 = .ok (.iload 5, 2) := by decide +kernel
theorem dL_law_266 : decode cL_law 266 = .ok (.ifCond .ne 22, 3) := by decide +kernel
theorem dL_law_269 : decode cL_law 269 = .ok (.aload_n 3, 1) := by decide +kernel
theorem dL_law_270 : decode cL_law 270 = .ok (.iconst 0, 1) := by decide +kernel
theorem dL_law_271 : decode cL_law 271 = .ok (.laload, 1) := by decide +kernel
theorem dL_law_272 : decode cL_law 272 = .ok (.iload 6, 2) := by decide +kernel
theorem dL_law_274 : decode cL_law 274 = .ok (.ifCond .eq 7, 3) := by decide +kernel
theorem dL_law_277 : decode cL_law 277 = .ok (.lconst 1, 1) := by decide +kernel
theorem dL_law_278 : decode cL_law 278 = .ok (.goto 4, 3) := by decide +kernel
theorem dL_law_281 : decode cL_law 281 = .ok (.lconst 0, 1) := by decide +kernel
theorem dL_law_282 : decode cL_law 282 = .ok (.lcmp, 1) := by decide +kernel
theorem dL_law_283 : decode cL_law 283 = .ok (.ifCond .eq 5, 3) := by decide +kernel
theorem dL_law_286 : decode cL_law 286 = .ok (.iconst 0, 1) := by decide +kernel
theorem dL_law_287 : decode cL_law 287 = .ok (.ireturn, 1) := by decide +kernel
theorem dL_law_288 : decode cL_law 288 = .ok (.goto 1126, 3) := by decide +kernel
theorem dL_law_291 : decode cL_law 291 = .ok (.aload_n 1, 1) := by decide +kernel
theorem dL_law_292 : decode cL_law 292 = .ok (.aload_n 0, 1) := by decide +kernel
theorem dL_law_293 : decode cL_law 293 = .ok (.iload 4, 2) := by decide +kernel
theorem dL_law_295 : decode cL_law 295 = .ok (.iconst 1, 1) := by decide +kernel
theorem dL_law_296 : decode cL_law 296 = .ok (.iadd, 1) := by decide +kernel
theorem dL_law_297 : decode cL_law 297 = .ok (.iaload, 1) := by decide +kernel
theorem dL_law_298 : decode cL_law 298 = .ok (.aload_n 3, 1) := by decide +kernel
theorem dL_law_299 : decode cL_law 299 = .ok (.invokestatic 97, 3) := by decide +kernel
theorem dL_law_302 : decode cL_law 302 = .ok (.istore 5, 2) := by decide +kernel
theorem dL_law_304 : decode cL_law 304 = .ok (.aload_n 2, 1) := by decide +kernel
theorem dL_law_305 : decode cL_law 305 = .ok (.aload_n 0, 1) := by decide +kernel
theorem dL_law_306 : decode cL_law 306 = .ok (.iload 4, 2) := by decide +kernel
theorem dL_law_308 : decode cL_law 308 = .ok (.iconst 1, 1) := by decide +kernel
theorem dL_law_309 : decode cL_law 309 = .ok (.iadd, 1) := by decide +kernel
theorem dL_law_310 : decode cL_law 310 = .ok (.iaload, 1) := by decide +kernel
theorem dL_law_311 : decode cL_law 311 = .ok (.invokevirtual 99, 3) := by decide +kernel
theorem dL_law_314 : decode cL_law 314 = .ok (.istore 6, 2) := by decide +kernel
theorem dL_law_316 : decode cL_law 316 = .ok (.aload_n 2, 1) := by decide +kernel
theorem dL_law_317 : decode cL_law 317 = .ok (.invokevirtual 89, 3) := by decide +kernel
theorem dL_law_320 : decode cL_law 320 = .ok (.iload 5, 2) := by decide +kernel
theorem dL_law_322 : decode cL_law 322 = .ok (.if_icmp .eq 5, 3) := by decide +kernel
theorem dL_law_325 : decode cL_law 325 = .ok (.iconst 0, 1) := by decide +kernel
theorem dL_law_326 : decode cL_law 326 = .ok (.ireturn, 1) := by decide +kernel
theorem dL_law_327 : decode cL_law 327 = .ok (.iload 5, 2) := by decide +kernel
theorem dL_law_329 : decode cL_law 329 = .ok (.ifCond .ne 15, 3) := by decide +kernel
theorem dL_law_332 : decode cL_law 332 = .ok (.aload_n 3, 1) := by decide +kernel
theorem dL_law_333 : decode cL_law 333 = .ok (.iconst 0, 1) := by decide +kernel
theorem dL_law_334 : decode cL_law 334 = .ok (.laload, 1) := by decide +kernel
theorem dL_law_335 : decode cL_law 335 = .ok (.iload 6, 2) := by decide +kernel
theorem dL_law_337 : decode cL_law 337 = .ok (.i2l, 1) := by decide +kernel
theorem dL_law_338 : decode cL_law 338 = .ok (.lcmp, 1) := by decide +kernel
theorem dL_law_339 : decode cL_law 339 = .ok (.ifCond .eq 5, 3) := by decide +kernel
theorem dL_law_342 : decode cL_law 342 = .ok (.iconst 0, 1) := by decide +kernel
theorem dL_law_343 : decode cL_law 343 = .ok (.ireturn, 1) := by decide +kernel
theorem dL_law_344 : decode cL_law 344 = .ok (.goto 1070, 3) := by decide +kernel
theorem dL_law_347 : decode cL_law 347 = .ok (.aload_n 1, 1) := by decide +kernel
theorem dL_law_348 : decode cL_law 348 = .ok (.invokevirtual 100, 3) := by decide +kernel
theorem dL_law_351 : decode cL_law 351 = .ok (.aload_n 2, 1) := by decide +kernel
theorem dL_law_352 : decode cL_law 352 = .ok (.invokevirtual 103, 3) := by decide +kernel
theorem dL_law_355 : decode cL_law 355 = .ok (.if_icmp .eq 1059, 3) := by decide +kernel
theorem dL_law_358 : decode cL_law 358 = .ok (.iconst 0, 1) := by decide +kernel
theorem dL_law_359 : decode cL_law 359 = .ok (.ireturn, 1) := by decide +kernel
theorem dL_law_360 : decode cL_law 360 = .ok (.aload_n 1, 1) := by decide +kernel
theorem dL_law_361 : decode cL_law 361 = .ok (.aload_n 0, 1) := by decide +kernel
theorem dL_law_362 : decode cL_law 362 = .ok (.iload 4, 2) := by decide +kernel
theorem dL_law_364 : decode cL_law 364 = .ok (.iconst 1, 1) := by decide +kernel
theorem dL_law_365 : decode cL_law 365 = .ok (.iadd, 1) := by decide +kernel
theorem dL_law_366 : decode cL_law 366 = .ok (.iaload, 1) := by decide +kernel
theorem dL_law_367 : decode cL_law 367 = .ok (.aload_n 3, 1) := by decide +kernel
theorem dL_law_368 : decode cL_law 368 = .ok (.invokestatic 104, 3) := by decide +kernel
theorem dL_law_371 : decode cL_law 371 = .ok (.istore 5, 2) := by decide +kernel
theorem dL_law_373 : decode cL_law 373 = .ok (.aload_n 2, 1) := by decide +kernel
theorem dL_law_374 : decode cL_law 374 = .ok (.aload_n 0, 1) := by decide +kernel
theorem dL_law_375 : decode cL_law 375 = .ok (.iload 4, 2) := by decide +kernel
theorem dL_law_377 : decode cL_law 377 = .ok (.iconst 1, 1) := by decide +kernel
theorem dL_law_378 : decode cL_law 378 = .ok (.iadd, 1) := by decide +kernel
theorem dL_law_379 : decode cL_law 379 = .ok (.iaload, 1) := by decide +kernel
