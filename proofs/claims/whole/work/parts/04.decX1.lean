theorem dX1_init_0 : decode cX1_init 0 = .ok (.aload_n 0, 1) := by decide +kernel
theorem dX1_init_1 : decode cX1_init 1 = .ok (.invokespecial 1, 3) := by decide +kernel
theorem dX1_init_4 : decode cX1_init 4 = .ok (.aload_n 0, 1) := by decide +kernel
theorem dX1_init_5 : decode cX1_init 5 = .ok (.bipush 6, 2) := by decide +kernel
theorem dX1_init_7 : decode cX1_init 7 = .ok (.newarray .double, 2) := by decide +kernel
theorem dX1_init_9 : decode cX1_init 9 = .ok (.putfield 7, 3) := by decide +kernel
theorem dX1_init_12 : decode cX1_init 12 = .ok (.aload_n 0, 1) := by decide +kernel
theorem dX1_init_13 : decode cX1_init 13 = .ok (.bipush 36, 2) := by decide +kernel
theorem dX1_init_15 : decode cX1_init 15 = .ok (.newarray .double, 2) := by decide +kernel
theorem dX1_init_17 : decode cX1_init 17 = .ok (.putfield 13, 3) := by decide +kernel
theorem dX1_init_20 : decode cX1_init 20 = .ok (.aload_n 0, 1) := by decide +kernel
theorem dX1_init_21 : decode cX1_init 21 = .ok (.bipush 24, 2) := by decide +kernel
theorem dX1_init_23 : decode cX1_init 23 = .ok (.newarray .double, 2) := by decide +kernel
theorem dX1_init_25 : decode cX1_init 25 = .ok (.putfield 16, 3) := by decide +kernel
theorem dX1_init_28 : decode cX1_init 28 = .ok (.aload_n 0, 1) := by decide +kernel
theorem dX1_init_29 : decode cX1_init 29 = .ok (.bipush 12, 2) := by decide +kernel
theorem dX1_init_31 : decode cX1_init 31 = .ok (.newarray .int, 2) := by decide +kernel
theorem dX1_init_33 : decode cX1_init 33 = .ok (.putfield 19, 3) := by decide +kernel
theorem dX1_init_36 : decode cX1_init 36 = .ok (.aload_n 0, 1) := by decide +kernel
theorem dX1_init_37 : decode cX1_init 37 = .ok (.bipush 6, 2) := by decide +kernel
theorem dX1_init_39 : decode cX1_init 39 = .ok (.newarray .double, 2) := by decide +kernel
theorem dX1_init_41 : decode cX1_init 41 = .ok (.putfield 23, 3) := by decide +kernel
theorem dX1_init_44 : decode cX1_init 44 = .ok (.aload_n 0, 1) := by decide +kernel
theorem dX1_init_45 : decode cX1_init 45 = .ok (.bipush 6, 2) := by decide +kernel
theorem dX1_init_47 : decode cX1_init 47 = .ok (.newarray .double, 2) := by decide +kernel
theorem dX1_init_49 : decode cX1_init 49 = .ok (.putfield 26, 3) := by decide +kernel
theorem dX1_init_52 : decode cX1_init 52 = .ok (.aload_n 0, 1) := by decide +kernel
theorem dX1_init_53 : decode cX1_init 53 = .ok (.bipush 6, 2) := by decide +kernel
theorem dX1_init_55 : decode cX1_init 55 = .ok (.newarray .long, 2) := by decide +kernel
theorem dX1_init_57 : decode cX1_init 57 = .ok (.putfield 29, 3) := by decide +kernel
theorem dX1_init_60 : decode cX1_init 60 = .ok (.aload_n 0, 1) := by decide +kernel
theorem dX1_init_61 : decode cX1_init 61 = .ok (.bipush 6, 2) := by decide +kernel
theorem dX1_init_63 : decode cX1_init 63 = .ok (.newarray .long, 2) := by decide +kernel
theorem dX1_init_65 : decode cX1_init 65 = .ok (.putfield 33, 3) := by decide +kernel
theorem dX1_init_68 : decode cX1_init 68 = .ok (.aload_n 0, 1) := by decide +kernel
theorem dX1_init_69 : decode cX1_init 69 = .ok (.iconst 1, 1) := by decide +kernel
theorem dX1_init_70 : decode cX1_init 70 = .ok (.putfield 36, 3) := by decide +kernel
theorem dX1_init_73 : decode cX1_init 73 = .ok (.return_, 1) := by decide +kernel
theorem dX1_thrown_0 : decode cX1_thrown 0 = .ok (.aload_n 0, 1) := by decide +kernel
theorem dX1_thrown_1 : decode cX1_thrown 1 = .ok (.getfield 40, 3) := by decide +kernel
theorem dX1_thrown_4 : decode cX1_thrown 4 = .ok (.ireturn, 1) := by decide +kernel
theorem dX1_unit_0 : decode cX1_unit 0 = .ok (.dload_n 0, 1) := by decide +kernel
theorem dX1_unit_1 : decode cX1_unit 1 = .ok (.dconst 0, 1) := by decide +kernel
theorem dX1_unit_2 : decode cX1_unit 2 = .ok (.dcmp .l, 1) := by decide +kernel
theorem dX1_unit_3 : decode cX1_unit 3 = .ok (.ifCond .lt 13, 3) := by decide +kernel
theorem dX1_unit_6 : decode cX1_unit 6 = .ok (.dload_n 0, 1) := by decide +kernel
theorem dX1_unit_7 : decode cX1_unit 7 = .ok (.dconst 1, 1) := by decide +kernel
theorem dX1_unit_8 : decode cX1_unit 8 = .ok (.dcmp .g, 1) := by decide +kernel
theorem dX1_unit_9 : decode cX1_unit 9 = .ok (.ifCond .gt 7, 3) := by decide +kernel
theorem dX1_unit_12 : decode cX1_unit 12 = .ok (.iconst 1, 1) := by decide +kernel
theorem dX1_unit_13 : decode cX1_unit 13 = .ok (.goto 4, 3) := by decide +kernel
theorem dX1_unit_16 : decode cX1_unit 16 = .ok (.iconst 0, 1) := by decide +kernel
theorem dX1_unit_17 : decode cX1_unit 17 = .ok (.ireturn, 1) := by decide +kernel
theorem dX1_state_0 : decode cX1_state 0 = .ok (.iload_n 1, 1) := by decide +kernel
theorem dX1_state_1 : decode cX1_state 1 = .ok (.ifCond .lt 15, 3) := by decide +kernel
theorem dX1_state_4 : decode cX1_state 4 = .ok (.iload_n 1, 1) := by decide +kernel
theorem dX1_state_5 : decode cX1_state 5 = .ok (.aload_n 0, 1) := by decide +kernel
theorem dX1_state_6 : decode cX1_state 6 = .ok (.getfield 36, 3) := by decide +kernel
theorem dX1_state_9 : decode cX1_state 9 = .ok (.if_icmp .ge 7, 3) := by decide +kernel
theorem dX1_state_12 : decode cX1_state 12 = .ok (.iconst 1, 1) := by decide +kernel
theorem dX1_state_13 : decode cX1_state 13 = .ok (.goto 4, 3) := by decide +kernel
theorem dX1_state_16 : decode cX1_state 16 = .ok (.iconst 0, 1) := by decide +kernel
theorem dX1_state_17 : decode cX1_state 17 = .ok (.ireturn, 1) := by decide +kernel
theorem dX1_symbol_0 : decode cX1_symbol 0 = .ok (.iload_n 0, 1) := by decide +kernel
theorem dX1_symbol_1 : decode cX1_symbol 1 = .ok (.ifCond .lt 12, 3) := by decide +kernel
theorem dX1_symbol_4 : decode cX1_symbol 4 = .ok (.iload_n 0, 1) := by decide +kernel
theorem dX1_symbol_5 : decode cX1_symbol 5 = .ok (.iconst 3, 1) := by decide +kernel
theorem dX1_symbol_6 : decode cX1_symbol 6 = .ok (.if_icmp .gt 7, 3) := by decide +kernel
theorem dX1_symbol_9 : decode cX1_symbol 9 = .ok (.iconst 1, 1) := by decide +kernel
theorem dX1_symbol_10 : decode cX1_symbol 10 = .ok (.goto 4, 3) := by decide +kernel
theorem dX1_symbol_13 : decode cX1_symbol 13 = .ok (.iconst 0, 1) := by decide +kernel
theorem dX1_symbol_14 : decode cX1_symbol 14 = .ok (.ireturn, 1) := by decide +kernel
theorem dX1_states_0 : decode cX1_states 0 = .ok (.aload_n 0, 1) := by decide +kernel
theorem dX1_states_1 : decode cX1_states 1 = .ok (.iconst 0, 1) := by decide +kernel
theorem dX1_states_2 : decode cX1_states 2 = .ok (.putfield 40, 3) := by decide +kernel
theorem dX1_states_5 : decode cX1_states 5 = .ok (.iload_n 1, 1) := by decide +kernel
theorem dX1_states_6 : decode cX1_states 6 = .ok (.iconst 1, 1) := by decide +kernel
theorem dX1_states_7 : decode cX1_states 7 = .ok (.if_icmp .lt 9, 3) := by decide +kernel
theorem dX1_states_10 : decode cX1_states 10 = .ok (.iload_n 1, 1) := by decide +kernel
theorem dX1_states_11 : decode cX1_states 11 = .ok (.bipush 6, 2) := by decide +kernel
theorem dX1_states_13 : decode cX1_states 13 = .ok (.if_icmp .le 5, 3) := by decide +kernel
theorem dX1_states_16 : decode cX1_states 16 = .ok (.iconst 0, 1) := by decide +kernel
theorem dX1_states_17 : decode cX1_states 17 = .ok (.ireturn, 1) := by decide +kernel
theorem dX1_states_18 : decode cX1_states 18 = .ok (.aload_n 0, 1) := by decide +kernel
theorem dX1_states_19 : decode cX1_states 19 = .ok (.iload_n 1, 1) := by decide +kernel
theorem dX1_states_20 : decode cX1_states 20 = .ok (.putfield 36, 3) := by decide +kernel
theorem dX1_states_23 : decode cX1_states 23 = .ok (.aload_n 0, 1) := by decide +kernel
theorem dX1_states_24 : decode cX1_states 24 = .ok (.iconst 0, 1) := by decide +kernel
theorem dX1_states_25 : decode cX1_states 25 = .ok (.putfield 43, 3) := by decide +kernel
theorem dX1_states_28 : decode cX1_states 28 = .ok (.iconst 0, 1) := by decide +kernel
theorem dX1_states_29 : decode cX1_states 29 = .ok (.istore_n 2, 1) := by decide +kernel
theorem dX1_states_30 : decode cX1_states 30 = .ok (.iload_n 2, 1) := by decide +kernel
theorem dX1_states_31 : decode cX1_states 31 = .ok (.bipush 6, 2) := by decide +kernel
theorem dX1_states_33 : decode cX1_states 33 = .ok (.if_icmp .ge 16, 3) := by decide +kernel
theorem dX1_states_36 : decode cX1_states 36 = .ok (.aload_n 0, 1) := by decide +kernel
theorem dX1_states_37 : decode cX1_states 37 = .ok (.getfield 7, 3) := by decide +kernel
theorem dX1_states_40 : decode cX1_states 40 = .ok (.iload_n 2, 1) := by decide +kernel
theorem dX1_states_41 : decode cX1_states 41 = .ok (.dconst 0, 1) := by decide +kernel
theorem dX1_states_42 : decode cX1_states 42 = .ok (.dastore, 1) := by decide +kernel
theorem dX1_states_43 : decode cX1_states 43 = .ok (.iinc 2 1, 3) := by decide +kernel
theorem dX1_states_46 : decode cX1_states 46 = .ok (.goto (-16), 3) := by decide +kernel
theorem dX1_states_49 : decode cX1_states 49 = .ok (.iconst 0, 1) := by decide +kernel
theorem dX1_states_50 : decode cX1_states 50 = .ok (.istore_n 2, 1) := by decide +kernel
theorem dX1_states_51 : decode cX1_states 51 = .ok (.iload_n 2, 1) := by decide +kernel
theorem dX1_states_52 : decode cX1_states 52 = .ok (.bipush 36, 2) := by decide +kernel
theorem dX1_states_54 : decode cX1_states 54 = .ok (.if_icmp .ge 16, 3) := by decide +kernel
theorem dX1_states_57 : decode cX1_states 57 = .ok (.aload_n 0, 1) := by decide +kernel
theorem dX1_states_58 : decode cX1_states 58 = .ok (.getfield 13, 3) := by decide +kernel
theorem dX1_states_61 : decode cX1_states 61 = .ok (.iload_n 2, 1) := by decide +kernel
theorem dX1_states_62 : decode cX1_states 62 = .ok (.dconst 0, 1) := by decide +kernel
theorem dX1_states_63 : decode cX1_states 63 = .ok (.dastore, 1) := by decide +kernel
theorem dX1_states_64 : decode cX1_states 64 = .ok (.iinc 2 1, 3) := by decide +kernel
theorem dX1_states_67 : decode cX1_states 67 = .ok (.goto (-16), 3) := by decide +kernel
theorem dX1_states_70 : decode cX1_states 70 = .ok (.iconst 0, 1) := by decide +kernel
theorem dX1_states_71 : decode cX1_states 71 = .ok (.istore_n 2, 1) := by decide +kernel
theorem dX1_states_72 : decode cX1_states 72 = .ok (.iload_n 2, 1) := by decide +kernel
theorem dX1_states_73 : decode cX1_states 73 = .ok (.bipush 24, 2) := by decide +kernel
theorem dX1_states_75 : decode cX1_states 75 = .ok (.if_icmp .ge 16, 3) := by decide +kernel
theorem dX1_states_78 : decode cX1_states 78 = .ok (.aload_n 0, 1) := by decide +kernel
theorem dX1_states_79 : decode cX1_states 79 = .ok (.getfield 16, 3) := by decide +kernel
theorem dX1_states_82 : decode cX1_states 82 = .ok (.iload_n 2, 1) := by decide +kernel
theorem dX1_states_83 : decode cX1_states 83 = .ok (.dconst 0, 1) := by decide +kernel
theorem dX1_states_84 : decode cX1_states 84 = .ok (.dastore, 1) := by decide +kernel
theorem dX1_states_85 : decode cX1_states 85 = .ok (.iinc 2 1, 3) := by decide +kernel
theorem dX1_states_88 : decode cX1_states 88 = .ok (.goto (-16), 3) := by decide +kernel
theorem dX1_states_91 : decode cX1_states 91 = .ok (.iconst 1, 1) := by decide +kernel
theorem dX1_states_92 : decode cX1_states 92 = .ok (.ireturn, 1) := by decide +kernel
theorem dX1_size_0 : decode cX1_size 0 = .ok (.aload_n 0, 1) := by decide +kernel
theorem dX1_size_1 : decode cX1_size 1 = .ok (.iconst 0, 1) := by decide +kernel
theorem dX1_size_2 : decode cX1_size 2 = .ok (.putfield 40, 3) := by decide +kernel
theorem dX1_size_5 : decode cX1_size 5 = .ok (.aload_n 0, 1) := by decide +kernel
theorem dX1_size_6 : decode cX1_size 6 = .ok (.getfield 36, 3) := by decide +kernel
theorem dX1_size_9 : decode cX1_size 9 = .ok (.ireturn, 1) := by decide +kernel
set_option maxRecDepth 20000 in
theorem ggX1_start_X1_state : GoodIn wsX1_start wsX1_state := goodIn_r _ [7, 8, 12, 13, 14, 15, 16, 17, 18, 19, 20, 21, 22] (by decide +kernel) (by decide +kernel)
set_option maxRecDepth 20000 in
theorem gX1_start_X1_state : GoodIn wsX1_start (wsV RX1 46 RX1 yX1_state wsX1_state) := goodIn_app (goodIn_of _ (by decide +kernel)) ggX1_start_X1_state
set_option maxRecDepth 20000 in
theorem ggX1_start_X1_unit : GoodIn wsX1_start wsX1_unit := goodIn_r _ [11] (by decide +kernel) (by decide +kernel)
set_option maxRecDepth 20000 in
theorem gX1_start_X1_unit : GoodIn wsX1_start (va_wsS RX1 50 yX1_unit wsX1_unit) := goodIn_app (goodIn_of _ (by decide +kernel)) ggX1_start_X1_unit
theorem dX1_start_0 : decode cX1_start 0 = .ok (.aload_n 0, 1) := by decide +kernel
theorem dX1_start_1 : decode cX1_start 1 = .ok (.iconst 0, 1) := by decide +kernel
theorem dX1_start_2 : decode cX1_start 2 = .ok (.putfield 40, 3) := by decide +kernel
theorem dX1_start_5 : decode cX1_start 5 = .ok (.aload_n 0, 1) := by decide +kernel
theorem dX1_start_6 : decode cX1_start 6 = .ok (.iload_n 1, 1) := by decide +kernel
theorem dX1_start_7 : decode cX1_start 7 = .ok (.invokevirtual 46, 3) := by decide +kernel
theorem dX1_start_10 : decode cX1_start 10 = .ok (.ifCond .eq 10, 3) := by decide +kernel
theorem dX1_start_13 : decode cX1_start 13 = .ok (.dload_n 2, 1) := by decide +kernel
theorem dX1_start_14 : decode cX1_start 14 = .ok (.invokestatic 50, 3) := by decide +kernel
theorem dX1_start_17 : decode cX1_start 17 = .ok (.ifCond .ne 5, 3) := by decide +kernel
theorem dX1_start_20 : decode cX1_start 20 = .ok (.iconst 0, 1) := by decide +kernel
theorem dX1_start_21 : decode cX1_start 21 = .ok (.ireturn, 1) := by decide +kernel
theorem dX1_start_22 : decode cX1_start 22 = .ok (.aload_n 0, 1) := by decide +kernel
theorem dX1_start_23 : decode cX1_start 23 = .ok (.getfield 7, 3) := by decide +kernel
theorem dX1_start_26 : decode cX1_start 26 = .ok (.iload_n 1, 1) := by decide +kernel
theorem dX1_start_27 : decode cX1_start 27 = .ok (.dload_n 2, 1) := by decide +kernel
theorem dX1_start_28 : decode cX1_start 28 = .ok (.dastore, 1) := by decide +kernel
theorem dX1_start_29 : decode cX1_start 29 = .ok (.iconst 1, 1) := by decide +kernel
theorem dX1_start_30 : decode cX1_start 30 = .ok (.ireturn, 1) := by decide +kernel
set_option maxRecDepth 20000 in
theorem ggX1_move_X1_state : GoodIn wsX1_move wsX1_state := goodIn_r _ [7, 8, 12, 13, 14, 15, 16, 17, 18, 19, 20, 21, 22] (by decide +kernel) (by decide +kernel)
set_option maxRecDepth 20000 in
theorem gX1_move_X1_state : GoodIn wsX1_move (wsV RX1 46 RX1 yX1_state wsX1_state) := goodIn_app (goodIn_of _ (by decide +kernel)) ggX1_move_X1_state
set_option maxRecDepth 20000 in
theorem ggX1_move_X1_unit : GoodIn wsX1_move wsX1_unit := goodIn_r _ [11] (by decide +kernel) (by decide +kernel)
set_option maxRecDepth 20000 in
theorem gX1_move_X1_unit : GoodIn wsX1_move (va_wsS RX1 50 yX1_unit wsX1_unit) := goodIn_app (goodIn_of _ (by decide +kernel)) ggX1_move_X1_unit
theorem dX1_move_0 : decode cX1_move 0 = .ok (.aload_n 0, 1) := by decide +kernel
theorem dX1_move_1 : decode cX1_move 1 = .ok (.iconst 0, 1) := by decide +kernel
theorem dX1_move_2 : decode cX1_move 2 = .ok (.putfield 40, 3) := by decide +kernel
theorem dX1_move_5 : decode cX1_move 5 = .ok (.aload_n 0, 1) := by decide +kernel
theorem dX1_move_6 : decode cX1_move 6 = .ok (.iload_n 1, 1) := by decide +kernel
theorem dX1_move_7 : decode cX1_move 7 = .ok (.invokevirtual 46, 3) := by decide +kernel
theorem dX1_move_10 : decode cX1_move 10 = .ok (.ifCond .eq 18, 3) := by decide +kernel
theorem dX1_move_13 : decode cX1_move 13 = .ok (.aload_n 0, 1) := by decide +kernel
theorem dX1_move_14 : decode cX1_move 14 = .ok (.iload_n 2, 1) := by decide +kernel
theorem dX1_move_15 : decode cX1_move 15 = .ok (.invokevirtual 46, 3) := by decide +kernel
theorem dX1_move_18 : decode cX1_move 18 = .ok (.ifCond .eq 10, 3) := by decide +kernel
theorem dX1_move_21 : decode cX1_move 21 = .ok (.dload_n 3, 1) := by decide +kernel
theorem dX1_move_22 : decode cX1_move 22 = .ok (.invokestatic 50, 3) := by decide +kernel
theorem dX1_move_25 : decode cX1_move 25 = .ok (.ifCond .ne 5, 3) := by decide +kernel
theorem dX1_move_28 : decode cX1_move 28 = .ok (.iconst 0, 1) := by decide +kernel
theorem dX1_move_29 : decode cX1_move 29 = .ok (.ireturn, 1) := by decide +kernel
theorem dX1_move_30 : decode cX1_move 30 = .ok (.aload_n 0, 1) := by decide +kernel
theorem dX1_move_31 : decode cX1_move 31 = .ok (.getfield 13, 3) := by decide +kernel
theorem dX1_move_34 : decode cX1_move 34 = .ok (.bipush 6, 2) := by decide +kernel
theorem dX1_move_36 : decode cX1_move 36 = .ok (.iload_n 1, 1) := by decide +kernel
theorem dX1_move_37 : decode cX1_move 37 = .ok (.imul, 1) := by decide +kernel
theorem dX1_move_38 : decode cX1_move 38 = .ok (.iload_n 2, 1) := by decide +kernel
theorem dX1_move_39 : decode cX1_move 39 = .ok (.iadd, 1) := by decide +kernel
theorem dX1_move_40 : decode cX1_move 40 = .ok (.dload_n 3, 1) := by decide +kernel
theorem dX1_move_41 : decode cX1_move 41 = .ok (.dastore, 1) := by decide +kernel
theorem dX1_move_42 : decode cX1_move 42 = .ok (.iconst 1, 1) := by decide +kernel
theorem dX1_move_43 : decode cX1_move 43 = .ok (.ireturn, 1) := by decide +kernel
set_option maxRecDepth 20000 in
theorem ggX1_show_X1_state : GoodIn wsX1_show wsX1_state := goodIn_r _ [7, 8, 15, 16, 17, 18, 19, 20, 21, 22, 23, 24, 25] (by decide +kernel) (by decide +kernel)
set_option maxRecDepth 20000 in
theorem gX1_show_X1_state : GoodIn wsX1_show (wsV RX1 46 RX1 yX1_state wsX1_state) := goodIn_app (goodIn_of _ (by decide +kernel)) ggX1_show_X1_state
set_option maxRecDepth 20000 in
theorem ggX1_show_X1_symbol : GoodIn wsX1_show wsX1_symbol := goodIn_r _ [11] (by decide +kernel) (by decide +kernel)
set_option maxRecDepth 20000 in
theorem gX1_show_X1_symbol : GoodIn wsX1_show (va_wsS RX1 54 yX1_symbol wsX1_symbol) := goodIn_app (goodIn_of _ (by decide +kernel)) ggX1_show_X1_symbol
set_option maxRecDepth 20000 in
theorem ggX1_show_X1_unit : GoodIn wsX1_show wsX1_unit := goodIn_r _ [14] (by decide +kernel) (by decide +kernel)
set_option maxRecDepth 20000 in
theorem gX1_show_X1_unit : GoodIn wsX1_show (va_wsS RX1 50 yX1_unit wsX1_unit) := goodIn_app (goodIn_of _ (by decide +kernel)) ggX1_show_X1_unit
theorem dX1_show_0 : decode cX1_show 0 = .ok (.aload_n 0, 1) := by decide +kernel
theorem dX1_show_1 : decode cX1_show 1 = .ok (.iconst 0, 1) := by decide +kernel
theorem dX1_show_2 : decode cX1_show 2 = .ok (.putfield 40, 3) := by decide +kernel
theorem dX1_show_5 : decode cX1_show 5 = .ok (.aload_n 0, 1) := by decide +kernel
theorem dX1_show_6 : decode cX1_show 6 = .ok (.iload_n 1, 1) := by decide +kernel
theorem dX1_show_7 : decode cX1_show 7 = .ok (.invokevirtual 46, 3) := by decide +kernel
theorem dX1_show_10 : decode cX1_show 10 = .ok (.ifCond .eq 17, 3) := by decide +kernel
theorem dX1_show_13 : decode cX1_show 13 = .ok (.iload_n 2, 1) := by decide +kernel
theorem dX1_show_14 : decode cX1_show 14 = .ok (.invokestatic 54, 3) := by decide +kernel
theorem dX1_show_17 : decode cX1_show 17 = .ok (.ifCond .eq 10, 3) := by decide +kernel
theorem dX1_show_20 : decode cX1_show 20 = .ok (.dload_n 3, 1) := by decide +kernel
theorem dX1_show_21 : decode cX1_show 21 = .ok (.invokestatic 50, 3) := by decide +kernel
theorem dX1_show_24 : decode cX1_show 24 = .ok (.ifCond .ne 5, 3) := by decide +kernel
theorem dX1_show_27 : decode cX1_show 27 = .ok (.iconst 0, 1) := by decide +kernel
theorem dX1_show_28 : decode cX1_show 28 = .ok (.ireturn, 1) := by decide +kernel
theorem dX1_show_29 : decode cX1_show 29 = .ok (.aload_n 0, 1) := by decide +kernel
theorem dX1_show_30 : decode cX1_show 30 = .ok (.getfield 16, 3) := by decide +kernel
theorem dX1_show_33 : decode cX1_show 33 = .ok (.iconst 4, 1) := by decide +kernel
theorem dX1_show_34 : decode cX1_show 34 = .ok (.iload_n 1, 1) := by decide +kernel
theorem dX1_show_35 : decode cX1_show 35 = .ok (.imul, 1) := by decide +kernel
theorem dX1_show_36 : decode cX1_show 36 = .ok (.iload_n 2, 1) := by decide +kernel
theorem dX1_show_37 : decode cX1_show 37 = .ok (.iadd, 1) := by decide +kernel
theorem dX1_show_38 : decode cX1_show 38 = .ok (.dload_n 3, 1) := by decide +kernel
theorem dX1_show_39 : decode cX1_show 39 = .ok (.dastore, 1) := by decide +kernel
theorem dX1_show_40 : decode cX1_show 40 = .ok (.iconst 1, 1) := by decide +kernel
theorem dX1_show_41 : decode cX1_show 41 = .ok (.ireturn, 1) := by decide +kernel
set_option maxRecDepth 20000 in
theorem ggX1_read_X1_symbol : GoodIn wsX1_read wsX1_symbol := goodIn_r _ [7] (by decide +kernel) (by decide +kernel)
set_option maxRecDepth 20000 in
theorem gX1_read_X1_symbol : GoodIn wsX1_read (va_wsS RX1 54 yX1_symbol wsX1_symbol) := goodIn_app (goodIn_of _ (by decide +kernel)) ggX1_read_X1_symbol
theorem dX1_read_0 : decode cX1_read 0 = .ok (.aload_n 0, 1) := by decide +kernel
theorem dX1_read_1 : decode cX1_read 1 = .ok (.iconst 0, 1) := by decide +kernel
theorem dX1_read_2 : decode cX1_read 2 = .ok (.putfield 40, 3) := by decide +kernel
theorem dX1_read_5 : decode cX1_read 5 = .ok (.iload_n 1, 1) := by decide +kernel
theorem dX1_read_6 : decode cX1_read 6 = .ok (.invokestatic 54, 3) := by decide +kernel
theorem dX1_read_9 : decode cX1_read 9 = .ok (.ifCond .eq 12, 3) := by decide +kernel
theorem dX1_read_12 : decode cX1_read 12 = .ok (.aload_n 0, 1) := by decide +kernel
theorem dX1_read_13 : decode cX1_read 13 = .ok (.getfield 43, 3) := by decide +kernel
theorem dX1_read_16 : decode cX1_read 16 = .ok (.bipush 12, 2) := by decide +kernel
theorem dX1_read_18 : decode cX1_read 18 = .ok (.if_icmp .ne 5, 3) := by decide +kernel
theorem dX1_read_21 : decode cX1_read 21 = .ok (.iconst 0, 1) := by decide +kernel
theorem dX1_read_22 : decode cX1_read 22 = .ok (.ireturn, 1) := by decide +kernel
theorem dX1_read_23 : decode cX1_read 23 = .ok (.aload_n 0, 1) := by decide +kernel
theorem dX1_read_24 : decode cX1_read 24 = .ok (.getfield 19, 3) := by decide +kernel
theorem dX1_read_27 : decode cX1_read 27 = .ok (.aload_n 0, 1) := by decide +kernel
theorem dX1_read_28 : decode cX1_read 28 = .ok (.getfield 43, 3) := by decide +kernel
theorem dX1_read_31 : decode cX1_read 31 = .ok (.iload_n 1, 1) := by decide +kernel
theorem dX1_read_32 : decode cX1_read 32 = .ok (.iastore, 1) := by decide +kernel
theorem dX1_read_33 : decode cX1_read 33 = .ok (.aload_n 0, 1) := by decide +kernel
theorem dX1_read_34 : decode cX1_read 34 = .ok (.aload_n 0, 1) := by decide +kernel
theorem dX1_read_35 : decode cX1_read 35 = .ok (.getfield 43, 3) := by decide +kernel
theorem dX1_read_38 : decode cX1_read 38 = .ok (.iconst 1, 1) := by decide +kernel
theorem dX1_read_39 : decode cX1_read 39 = .ok (.iadd, 1) := by decide +kernel
theorem dX1_read_40 : decode cX1_read 40 = .ok (.putfield 43, 3) := by decide +kernel
theorem dX1_read_43 : decode cX1_read 43 = .ok (.iconst 1, 1) := by decide +kernel
theorem dX1_read_44 : decode cX1_read 44 = .ok (.ireturn, 1) := by decide +kernel
theorem dX1_unread_0 : decode cX1_unread 0 = .ok (.aload_n 0, 1) := by decide +kernel
theorem dX1_unread_1 : decode cX1_unread 1 = .ok (.iconst 0, 1) := by decide +kernel
theorem dX1_unread_2 : decode cX1_unread 2 = .ok (.putfield 40, 3) := by decide +kernel
theorem dX1_unread_5 : decode cX1_unread 5 = .ok (.aload_n 0, 1) := by decide +kernel
theorem dX1_unread_6 : decode cX1_unread 6 = .ok (.getfield 43, 3) := by decide +kernel
theorem dX1_unread_9 : decode cX1_unread 9 = .ok (.ifCond .ne 5, 3) := by decide +kernel
theorem dX1_unread_12 : decode cX1_unread 12 = .ok (.iconst 0, 1) := by decide +kernel
theorem dX1_unread_13 : decode cX1_unread 13 = .ok (.ireturn, 1) := by decide +kernel
theorem dX1_unread_14 : decode cX1_unread 14 = .ok (.aload_n 0, 1) := by decide +kernel
theorem dX1_unread_15 : decode cX1_unread 15 = .ok (.aload_n 0, 1) := by decide +kernel
theorem dX1_unread_16 : decode cX1_unread 16 = .ok (.getfield 43, 3) := by decide +kernel
theorem dX1_unread_19 : decode cX1_unread 19 = .ok (.iconst 1, 1) := by decide +kernel
theorem dX1_unread_20 : decode cX1_unread 20 = .ok (.isub, 1) := by decide +kernel
theorem dX1_unread_21 : decode cX1_unread 21 = .ok (.putfield 43, 3) := by decide +kernel
theorem dX1_unread_24 : decode cX1_unread 24 = .ok (.iconst 1, 1) := by decide +kernel
theorem dX1_unread_25 : decode cX1_unread 25 = .ok (.ireturn, 1) := by decide +kernel
theorem dX1_length_0 : decode cX1_length 0 = .ok (.aload_n 0, 1) := by decide +kernel
theorem dX1_length_1 : decode cX1_length 1 = .ok (.iconst 0, 1) := by decide +kernel
theorem dX1_length_2 : decode cX1_length 2 = .ok (.putfield 40, 3) := by decide +kernel
theorem dX1_length_5 : decode cX1_length 5 = .ok (.aload_n 0, 1) := by decide +kernel
theorem dX1_length_6 : decode cX1_length 6 = .ok (.getfield 43, 3) := by decide +kernel
theorem dX1_length_9 : decode cX1_length 9 = .ok (.ireturn, 1) := by decide +kernel
theorem dX1_shown_0 : decode cX1_shown 0 = .ok (.aload_n 0, 1) := by decide +kernel
theorem dX1_shown_1 : decode cX1_shown 1 = .ok (.getfield 16, 3) := by decide +kernel
theorem dX1_shown_4 : decode cX1_shown 4 = .ok (.iconst 4, 1) := by decide +kernel
theorem dX1_shown_5 : decode cX1_shown 5 = .ok (.iload_n 1, 1) := by decide +kernel
theorem dX1_shown_6 : decode cX1_shown 6 = .ok (.imul, 1) := by decide +kernel
theorem dX1_shown_7 : decode cX1_shown 7 = .ok (.aload_n 0, 1) := by decide +kernel
theorem dX1_shown_8 : decode cX1_shown 8 = .ok (.getfield 19, 3) := by decide +kernel
theorem dX1_shown_11 : decode cX1_shown 11 = .ok (.iload_n 2, 1) := by decide +kernel
theorem dX1_shown_12 : decode cX1_shown 12 = .ok (.iaload, 1) := by decide +kernel
theorem dX1_shown_13 : decode cX1_shown 13 = .ok (.iadd, 1) := by decide +kernel
theorem dX1_shown_14 : decode cX1_shown 14 = .ok (.daload, 1) := by decide +kernel
theorem dX1_shown_15 : decode cX1_shown 15 = .ok (.dreturn, 1) := by decide +kernel
theorem dX1_shift_0 : decode cX1_shift 0 = .ok (.iconst 0, 1) := by decide +kernel
theorem dX1_shift_1 : decode cX1_shift 1 = .ok (.istore_n 1, 1) := by decide +kernel
theorem dX1_shift_2 : decode cX1_shift 2 = .ok (.iload_n 1, 1) := by decide +kernel
theorem dX1_shift_3 : decode cX1_shift 3 = .ok (.bipush 6, 2) := by decide +kernel
theorem dX1_shift_5 : decode cX1_shift 5 = .ok (.if_icmp .ge 21, 3) := by decide +kernel
theorem dX1_shift_8 : decode cX1_shift 8 = .ok (.aload_n 0, 1) := by decide +kernel
theorem dX1_shift_9 : decode cX1_shift 9 = .ok (.getfield 26, 3) := by decide +kernel
theorem dX1_shift_12 : decode cX1_shift 12 = .ok (.iload_n 1, 1) := by decide +kernel
theorem dX1_shift_13 : decode cX1_shift 13 = .ok (.aload_n 0, 1) := by decide +kernel
theorem dX1_shift_14 : decode cX1_shift 14 = .ok (.getfield 23, 3) := by decide +kernel
theorem dX1_shift_17 : decode cX1_shift 17 = .ok (.iload_n 1, 1) := by decide +kernel
theorem dX1_shift_18 : decode cX1_shift 18 = .ok (.daload, 1) := by decide +kernel
theorem dX1_shift_19 : decode cX1_shift 19 = .ok (.dastore, 1) := by decide +kernel
theorem dX1_shift_20 : decode cX1_shift 20 = .ok (.iinc 1 1, 3) := by decide +kernel
theorem dX1_shift_23 : decode cX1_shift 23 = .ok (.goto (-21), 3) := by decide +kernel
theorem dX1_shift_26 : decode cX1_shift 26 = .ok (.return_, 1) := by decide +kernel
set_option maxRecDepth 20000 in
theorem ggX1_ahead_X1_shown : GoodIn wsX1_ahead wsX1_shown := goodIn_ca (goodIn_r _ [10, 11, 12, 17, 18, 19, 20, 21, 22, 23, 24, 25, 26, 27] (by decide +kernel) (by decide +kernel)) (goodIn_sub (fun _ h => List.mem_cons_of_mem _ (List.mem_append_right _ h)) (by decide +kernel))
set_option maxRecDepth 20000 in
theorem gX1_ahead_X1_shown : GoodIn wsX1_ahead (wsV RX1 57 RX1 yX1_shown wsX1_shown) := goodIn_app (goodIn_of _ (by decide +kernel)) ggX1_ahead_X1_shown
set_option maxRecDepth 20000 in
theorem ggX1_ahead_X1_shift : GoodIn wsX1_ahead wsX1_shift := goodIn_ca (goodIn_r _ [16, 4, 2, 17, 18, 19, 20, 21, 22, 23, 24, 25, 26, 27] (by decide +kernel) (by decide +kernel)) (goodIn_sub (fun _ h => List.mem_cons_of_mem _ (List.mem_append_right _ h)) (by decide +kernel))
set_option maxRecDepth 20000 in
theorem gX1_ahead_X1_shift : GoodIn wsX1_ahead (wsV RX1 61 RX1 yX1_shift wsX1_shift) := goodIn_app (goodIn_of _ (by decide +kernel)) ggX1_ahead_X1_shift
theorem dX1_ahead_0 : decode cX1_ahead 0 = .ok (.iconst 0, 1) := by decide +kernel
theorem dX1_ahead_1 : decode cX1_ahead 1 = .ok (.istore_n 2, 1) := by decide +kernel
theorem dX1_ahead_2 : decode cX1_ahead 2 = .ok (.iload_n 2, 1) := by decide +kernel
theorem dX1_ahead_3 : decode cX1_ahead 3 = .ok (.aload_n 0, 1) := by decide +kernel
theorem dX1_ahead_4 : decode cX1_ahead 4 = .ok (.getfield 36, 3) := by decide +kernel
theorem dX1_ahead_7 : decode cX1_ahead 7 = .ok (.if_icmp .ge 28, 3) := by decide +kernel
theorem dX1_ahead_10 : decode cX1_ahead 10 = .ok (.aload_n 0, 1) := by decide +kernel
theorem dX1_ahead_11 : decode cX1_ahead 11 = .ok (.getfield 23, 3) := by decide +kernel
theorem dX1_ahead_14 : decode cX1_ahead 14 = .ok (.iload_n 2, 1) := by decide +kernel
theorem dX1_ahead_15 : decode cX1_ahead 15 = .ok (.aload_n 0, 1) := by decide +kernel
theorem dX1_ahead_16 : decode cX1_ahead 16 = .ok (.getfield 7, 3) := by decide +kernel
theorem dX1_ahead_19 : decode cX1_ahead 19 = .ok (.iload_n 2, 1) := by decide +kernel
theorem dX1_ahead_20 : decode cX1_ahead 20 = .ok (.daload, 1) := by decide +kernel
theorem dX1_ahead_21 : decode cX1_ahead 21 = .ok (.aload_n 0, 1) := by decide +kernel
theorem dX1_ahead_22 : decode cX1_ahead 22 = .ok (.iload_n 2, 1) := by decide +kernel
theorem dX1_ahead_23 : decode cX1_ahead 23 = .ok (.iconst 0, 1) := by decide +kernel
theorem dX1_ahead_24 : decode cX1_ahead 24 = .ok (.invokevirtual 57, 3) := by decide +kernel
theorem dX1_ahead_27 : decode cX1_ahead 27 = .ok (.dmul, 1) := by decide +kernel
theorem dX1_ahead_28 : decode cX1_ahead 28 = .ok (.dastore, 1) := by decide +kernel
theorem dX1_ahead_29 : decode cX1_ahead 29 = .ok (.iinc 2 1, 3) := by decide +kernel
theorem dX1_ahead_32 : decode cX1_ahead 32 = .ok (.goto (-30), 3) := by decide +kernel
theorem dX1_ahead_35 : decode cX1_ahead 35 = .ok (.iconst 1, 1) := by decide +kernel
theorem dX1_ahead_36 : decode cX1_ahead 36 = .ok (.istore_n 2, 1) := by decide +kernel
theorem dX1_ahead_37 : decode cX1_ahead 37 = .ok (.iload_n 2, 1) := by decide +kernel
theorem dX1_ahead_38 : decode cX1_ahead 38 = .ok (.iload_n 1, 1) := by decide +kernel
theorem dX1_ahead_39 : decode cX1_ahead 39 = .ok (.if_icmp .gt 90, 3) := by decide +kernel
theorem dX1_ahead_42 : decode cX1_ahead 42 = .ok (.aload_n 0, 1) := by decide +kernel
theorem dX1_ahead_43 : decode cX1_ahead 43 = .ok (.invokevirtual 61, 3) := by decide +kernel
theorem dX1_ahead_46 : decode cX1_ahead 46 = .ok (.iconst 0, 1) := by decide +kernel
theorem dX1_ahead_47 : decode cX1_ahead 47 = .ok (.istore_n 3, 1) := by decide +kernel
theorem dX1_ahead_48 : decode cX1_ahead 48 = .ok (.iload_n 3, 1) := by decide +kernel
theorem dX1_ahead_49 : decode cX1_ahead 49 = .ok (.aload_n 0, 1) := by decide +kernel
theorem dX1_ahead_50 : decode cX1_ahead 50 = .ok (.getfield 36, 3) := by decide +kernel
theorem dX1_ahead_53 : decode cX1_ahead 53 = .ok (.if_icmp .ge 70, 3) := by decide +kernel
theorem dX1_ahead_56 : decode cX1_ahead 56 = .ok (.dconst 0, 1) := by decide +kernel
theorem dX1_ahead_57 : decode cX1_ahead 57 = .ok (.dstore 4, 2) := by decide +kernel
theorem dX1_ahead_59 : decode cX1_ahead 59 = .ok (.iconst 0, 1) := by decide +kernel
theorem dX1_ahead_60 : decode cX1_ahead 60 = .ok (.istore 6, 2) := by decide +kernel
theorem dX1_ahead_62 : decode cX1_ahead 62 = .ok (.iload 6, 2) := by decide +kernel
theorem dX1_ahead_64 : decode cX1_ahead 64 = .ok (.aload_n 0, 1) := by decide +kernel
theorem dX1_ahead_65 : decode cX1_ahead 65 = .ok (.getfield 36, 3) := by decide +kernel
theorem dX1_ahead_68 : decode cX1_ahead 68 = .ok (.if_icmp .ge 34, 3) := by decide +kernel
theorem dX1_ahead_71 : decode cX1_ahead 71 = .ok (.dload 4, 2) := by decide +kernel
theorem dX1_ahead_73 : decode cX1_ahead 73 = .ok (.aload_n 0, 1) := by decide +kernel
theorem dX1_ahead_74 : decode cX1_ahead 74 = .ok (.getfield 26, 3) := by decide +kernel
theorem dX1_ahead_77 : decode cX1_ahead 77 = .ok (.iload 6, 2) := by decide +kernel
theorem dX1_ahead_79 : decode cX1_ahead 79 = .ok (.daload, 1) := by decide +kernel
theorem dX1_ahead_80 : decode cX1_ahead 80 = .ok (.aload_n 0, 1) := by decide +kernel
theorem dX1_ahead_81 : decode cX1_ahead 81 = .ok (.getfield 13, 3) := by decide +kernel
theorem dX1_ahead_84 : decode cX1_ahead 84 = .ok (.bipush 6, 2) := by decide +kernel
theorem dX1_ahead_86 : decode cX1_ahead 86 = .ok (.iload 6, 2) := by decide +kernel
theorem dX1_ahead_88 : decode cX1_ahead 88 = .ok (.imul, 1) := by decide +kernel
theorem dX1_ahead_89 : decode cX1_ahead 89 = .ok (.iload_n 3, 1) := by decide +kernel
theorem dX1_ahead_90 : decode cX1_ahead 90 = .ok (.iadd, 1) := by decide +kernel
theorem dX1_ahead_91 : decode cX1_ahead 91 = .ok (.daload, 1) := by decide +kernel
theorem dX1_ahead_92 : decode cX1_ahead 92 = .ok (.dmul, 1) := by decide +kernel
theorem dX1_ahead_93 : decode cX1_ahead 93 = .ok (.dadd, 1) := by decide +kernel
theorem dX1_ahead_94 : decode cX1_ahead 94 = .ok (.dstore 4, 2) := by decide +kernel
theorem dX1_ahead_96 : decode cX1_ahead 96 = .ok (.iinc 6 1, 3) := by decide +kernel
theorem dX1_ahead_99 : decode cX1_ahead 99 = .ok (.goto (-37), 3) := by decide +kernel
theorem dX1_ahead_102 : decode cX1_ahead 102 = .ok (.aload_n 0, 1) := by decide +kernel
theorem dX1_ahead_103 : decode cX1_ahead 103 = .ok (.getfield 23, 3) := by decide +kernel
theorem dX1_ahead_106 : decode cX1_ahead 106 = .ok (.iload_n 3, 1) := by decide +kernel
theorem dX1_ahead_107 : decode cX1_ahead 107 = .ok (.dload 4, 2) := by decide +kernel
theorem dX1_ahead_109 : decode cX1_ahead 109 = .ok (.aload_n 0, 1) := by decide +kernel
theorem dX1_ahead_110 : decode cX1_ahead 110 = .ok (.iload_n 3, 1) := by decide +kernel
theorem dX1_ahead_111 : decode cX1_ahead 111 = .ok (.iload_n 2, 1) := by decide +kernel
theorem dX1_ahead_112 : decode cX1_ahead 112 = .ok (.invokevirtual 57, 3) := by decide +kernel
theorem dX1_ahead_115 : decode cX1_ahead 115 = .ok (.dmul, 1) := by decide +kernel
theorem dX1_ahead_116 : decode cX1_ahead 116 = .ok (.dastore, 1) := by decide +kernel
theorem dX1_ahead_117 : decode cX1_ahead 117 = .ok (.iinc 3 1, 3) := by decide +kernel
theorem dX1_ahead_120 : decode cX1_ahead 120 = .ok (.goto (-72), 3) := by decide +kernel
theorem dX1_ahead_123 : decode cX1_ahead 123 = .ok (.iinc 2 1, 3) := by decide +kernel
theorem dX1_ahead_126 : decode cX1_ahead 126 = .ok (.goto (-89), 3) := by decide +kernel
theorem dX1_ahead_129 : decode cX1_ahead 129 = .ok (.return_, 1) := by decide +kernel
set_option maxRecDepth 20000 in
theorem ggX1_behind_X1_shift : GoodIn wsX1_behind wsX1_shift := goodIn_ca (goodIn_r _ [10, 5, 2, 17, 18, 19, 20, 21, 22, 23, 24, 25, 26, 27] (by decide +kernel) (by decide +kernel)) (goodIn_sub (fun _ h => List.mem_cons_of_mem _ (List.mem_append_right _ h)) (by decide +kernel))
set_option maxRecDepth 20000 in
theorem gX1_behind_X1_shift : GoodIn wsX1_behind (wsV RX1 61 RX1 yX1_shift wsX1_shift) := goodIn_app (goodIn_of _ (by decide +kernel)) ggX1_behind_X1_shift
set_option maxRecDepth 20000 in
theorem ggX1_behind_X1_shown : GoodIn wsX1_behind wsX1_shown := goodIn_ca (goodIn_r _ [14, 15, 16, 17, 18, 19, 20, 21, 22, 23, 24, 25, 26, 27] (by decide +kernel) (by decide +kernel)) (goodIn_sub (fun _ h => List.mem_cons_of_mem _ (List.mem_append_right _ h)) (by decide +kernel))
set_option maxRecDepth 20000 in
theorem gX1_behind_X1_shown : GoodIn wsX1_behind (wsV RX1 57 RX1 yX1_shown wsX1_shown) := goodIn_app (goodIn_of _ (by decide +kernel)) ggX1_behind_X1_shown
theorem dX1_behind_0 : decode cX1_behind 0 = .ok (.iconst 0, 1) := by decide +kernel
theorem dX1_behind_1 : decode cX1_behind 1 = .ok (.istore_n 2, 1) := by decide +kernel
theorem dX1_behind_2 : decode cX1_behind 2 = .ok (.iload_n 2, 1) := by decide +kernel
theorem dX1_behind_3 : decode cX1_behind 3 = .ok (.aload_n 0, 1) := by decide +kernel
theorem dX1_behind_4 : decode cX1_behind 4 = .ok (.getfield 36, 3) := by decide +kernel
theorem dX1_behind_7 : decode cX1_behind 7 = .ok (.if_icmp .ge 16, 3) := by decide +kernel
theorem dX1_behind_10 : decode cX1_behind 10 = .ok (.aload_n 0, 1) := by decide +kernel
theorem dX1_behind_11 : decode cX1_behind 11 = .ok (.getfield 23, 3) := by decide +kernel
theorem dX1_behind_14 : decode cX1_behind 14 = .ok (.iload_n 2, 1) := by decide +kernel
theorem dX1_behind_15 : decode cX1_behind 15 = .ok (.dconst 1, 1) := by decide +kernel
theorem dX1_behind_16 : decode cX1_behind 16 = .ok (.dastore, 1) := by decide +kernel
theorem dX1_behind_17 : decode cX1_behind 17 = .ok (.iinc 2 1, 3) := by decide +kernel
theorem dX1_behind_20 : decode cX1_behind 20 = .ok (.goto (-18), 3) := by decide +kernel
theorem dX1_behind_23 : decode cX1_behind 23 = .ok (.aload_n 0, 1) := by decide +kernel
theorem dX1_behind_24 : decode cX1_behind 24 = .ok (.getfield 43, 3) := by decide +kernel
theorem dX1_behind_27 : decode cX1_behind 27 = .ok (.iconst 2, 1) := by decide +kernel
theorem dX1_behind_28 : decode cX1_behind 28 = .ok (.isub, 1) := by decide +kernel
theorem dX1_behind_29 : decode cX1_behind 29 = .ok (.istore_n 2, 1) := by decide +kernel
theorem dX1_behind_30 : decode cX1_behind 30 = .ok (.iload_n 2, 1) := by decide +kernel
theorem dX1_behind_31 : decode cX1_behind 31 = .ok (.iload_n 1, 1) := by decide +kernel
theorem dX1_behind_32 : decode cX1_behind 32 = .ok (.if_icmp .lt 93, 3) := by decide +kernel
theorem dX1_behind_35 : decode cX1_behind 35 = .ok (.aload_n 0, 1) := by decide +kernel
theorem dX1_behind_36 : decode cX1_behind 36 = .ok (.invokevirtual 61, 3) := by decide +kernel
theorem dX1_behind_39 : decode cX1_behind 39 = .ok (.iconst 0, 1) := by decide +kernel
theorem dX1_behind_40 : decode cX1_behind 40 = .ok (.istore_n 3, 1) := by decide +kernel
theorem dX1_behind_41 : decode cX1_behind 41 = .ok (.iload_n 3, 1) := by decide +kernel
theorem dX1_behind_42 : decode cX1_behind 42 = .ok (.aload_n 0, 1) := by decide +kernel
theorem dX1_behind_43 : decode cX1_behind 43 = .ok (.getfield 36, 3) := by decide +kernel
theorem dX1_behind_46 : decode cX1_behind 46 = .ok (.if_icmp .ge 73, 3) := by decide +kernel
theorem dX1_behind_49 : decode cX1_behind 49 = .ok (.dconst 0, 1) := by decide +kernel
theorem dX1_behind_50 : decode cX1_behind 50 = .ok (.dstore 4, 2) := by decide +kernel
theorem dX1_behind_52 : decode cX1_behind 52 = .ok (.iconst 0, 1) := by decide +kernel
theorem dX1_behind_53 : decode cX1_behind 53 = .ok (.istore 6, 2) := by decide +kernel
theorem dX1_behind_55 : decode cX1_behind 55 = .ok (.iload 6, 2) := by decide +kernel
theorem dX1_behind_57 : decode cX1_behind 57 = .ok (.aload_n 0, 1) := by decide +kernel
theorem dX1_behind_58 : decode cX1_behind 58 = .ok (.getfield 36, 3) := by decide +kernel
theorem dX1_behind_61 : decode cX1_behind 61 = .ok (.if_icmp .ge 44, 3) := by decide +kernel
theorem dX1_behind_64 : decode cX1_behind 64 = .ok (.dload 4, 2) := by decide +kernel
theorem dX1_behind_66 : decode cX1_behind 66 = .ok (.aload_n 0, 1) := by decide +kernel
theorem dX1_behind_67 : decode cX1_behind 67 = .ok (.getfield 13, 3) := by decide +kernel
theorem dX1_behind_70 : decode cX1_behind 70 = .ok (.bipush 6, 2) := by decide +kernel
theorem dX1_behind_72 : decode cX1_behind 72 = .ok (.iload_n 3, 1) := by decide +kernel
theorem dX1_behind_73 : decode cX1_behind 73 = .ok (.imul, 1) := by decide +kernel
theorem dX1_behind_74 : decode cX1_behind 74 = .ok (.iload 6, 2) := by decide +kernel
theorem dX1_behind_76 : decode cX1_behind 76 = .ok (.iadd, 1) := by decide +kernel
theorem dX1_behind_77 : decode cX1_behind 77 = .ok (.daload, 1) := by decide +kernel
theorem dX1_behind_78 : decode cX1_behind 78 = .ok (.aload_n 0, 1) := by decide +kernel
theorem dX1_behind_79 : decode cX1_behind 79 = .ok (.iload 6, 2) := by decide +kernel
theorem dX1_behind_81 : decode cX1_behind 81 = .ok (.iload_n 2, 1) := by decide +kernel
theorem dX1_behind_82 : decode cX1_behind 82 = .ok (.iconst 1, 1) := by decide +kernel
theorem dX1_behind_83 : decode cX1_behind 83 = .ok (.iadd, 1) := by decide +kernel
theorem dX1_behind_84 : decode cX1_behind 84 = .ok (.invokevirtual 57, 3) := by decide +kernel
theorem dX1_behind_87 : decode cX1_behind 87 = .ok (.dmul, 1) := by decide +kernel
theorem dX1_behind_88 : decode cX1_behind 88 = .ok (.aload_n 0, 1) := by decide +kernel
theorem dX1_behind_89 : decode cX1_behind 89 = .ok (.getfield 26, 3) := by decide +kernel
theorem dX1_behind_92 : decode cX1_behind 92 = .ok (.iload 6, 2) := by decide +kernel
theorem dX1_behind_94 : decode cX1_behind 94 = .ok (.daload, 1) := by decide +kernel
theorem dX1_behind_95 : decode cX1_behind 95 = .ok (.dmul, 1) := by decide +kernel
theorem dX1_behind_96 : decode cX1_behind 96 = .ok (.dadd, 1) := by decide +kernel
theorem dX1_behind_97 : decode cX1_behind 97 = .ok (.dstore 4, 2) := by decide +kernel
theorem dX1_behind_99 : decode cX1_behind 99 = .ok (.iinc 6 1, 3) := by decide +kernel
theorem dX1_behind_102 : decode cX1_behind 102 = .ok (.goto (-47), 3) := by decide +kernel
theorem dX1_behind_105 : decode cX1_behind 105 = .ok (.aload_n 0, 1) := by decide +kernel
theorem dX1_behind_106 : decode cX1_behind 106 = .ok (.getfield 23, 3) := by decide +kernel
theorem dX1_behind_109 : decode cX1_behind 109 = .ok (.iload_n 3, 1) := by decide +kernel
theorem dX1_behind_110 : decode cX1_behind 110 = .ok (.dload 4, 2) := by decide +kernel
theorem dX1_behind_112 : decode cX1_behind 112 = .ok (.dastore, 1) := by decide +kernel
theorem dX1_behind_113 : decode cX1_behind 113 = .ok (.iinc 3 1, 3) := by decide +kernel
theorem dX1_behind_116 : decode cX1_behind 116 = .ok (.goto (-75), 3) := by decide +kernel
theorem dX1_behind_119 : decode cX1_behind 119 = .ok (.iinc 2 (-1), 3) := by decide +kernel
theorem dX1_behind_122 : decode cX1_behind 122 = .ok (.goto (-92), 3) := by decide +kernel
theorem dX1_behind_125 : decode cX1_behind 125 = .ok (.return_, 1) := by decide +kernel
set_option maxRecDepth 20000 in
theorem ggX1_greatest_X1_shown : GoodIn wsX1_greatest wsX1_shown := goodIn_ca (goodIn_r _ [10, 11, 12, 21, 22, 23, 24, 25, 26, 27, 28, 29, 30, 31] (by decide +kernel) (by decide +kernel)) (goodIn_sub (fun _ h => List.mem_cons_of_mem _ (List.mem_append_right _ h)) (by decide +kernel))
set_option maxRecDepth 20000 in
theorem gX1_greatest_X1_shown : GoodIn wsX1_greatest (wsV RX1 57 RX1 yX1_shown wsX1_shown) := goodIn_app (goodIn_of _ (by decide +kernel)) ggX1_greatest_X1_shown
set_option maxRecDepth 20000 in
theorem ggX1_greatest_X1_shift : GoodIn wsX1_greatest wsX1_shift := goodIn_ca (goodIn_r _ [16, 4, 2, 21, 22, 23, 24, 25, 26, 27, 28, 29, 30, 31] (by decide +kernel) (by decide +kernel)) (goodIn_sub (fun _ h => List.mem_cons_of_mem _ (List.mem_append_right _ h)) (by decide +kernel))
set_option maxRecDepth 20000 in
theorem gX1_greatest_X1_shift : GoodIn wsX1_greatest (wsV RX1 61 RX1 yX1_shift wsX1_shift) := goodIn_app (goodIn_of _ (by decide +kernel)) ggX1_greatest_X1_shift
set_option maxRecDepth 20000 in
theorem ggX1_greatest_X1_from : GoodIn wsX1_greatest wsX1_from := goodIn_ca (goodIn_r _ [20, 1, 4, 5, 21, 22, 23, 24, 25, 26, 27, 28, 29, 30, 31] (by decide +kernel) (by decide +kernel)) (goodIn_sub (fun _ h => List.mem_cons_of_mem _ (List.mem_append_right _ h)) (by decide +kernel))
set_option maxRecDepth 20000 in
theorem gX1_greatest_X1_from : GoodIn wsX1_greatest (wsV RX1 64 RX1 yX1_from wsX1_from) := goodIn_app (goodIn_of _ (by decide +kernel)) ggX1_greatest_X1_from
theorem dX1_greatest_0 : decode cX1_greatest 0 = .ok (.iconst 0, 1) := by decide +kernel
theorem dX1_greatest_1 : decode cX1_greatest 1 = .ok (.istore_n 2, 1) := by decide +kernel
theorem dX1_greatest_2 : decode cX1_greatest 2 = .ok (.iload_n 2, 1) := by decide +kernel
theorem dX1_greatest_3 : decode cX1_greatest 3 = .ok (.aload_n 0, 1) := by decide +kernel
theorem dX1_greatest_4 : decode cX1_greatest 4 = .ok (.getfield 36, 3) := by decide +kernel
theorem dX1_greatest_7 : decode cX1_greatest 7 = .ok (.if_icmp .ge 28, 3) := by decide +kernel
theorem dX1_greatest_10 : decode cX1_greatest 10 = .ok (.aload_n 0, 1) := by decide +kernel
theorem dX1_greatest_11 : decode cX1_greatest 11 = .ok (.getfield 23, 3) := by decide +kernel
theorem dX1_greatest_14 : decode cX1_greatest 14 = .ok (.iload_n 2, 1) := by decide +kernel
theorem dX1_greatest_15 : decode cX1_greatest 15 = .ok (.aload_n 0, 1) := by decide +kernel
theorem dX1_greatest_16 : decode cX1_greatest 16 = .ok (.getfield 7, 3) := by decide +kernel
theorem dX1_greatest_19 : decode cX1_greatest 19 = .ok (.iload_n 2, 1) := by decide +kernel
theorem dX1_greatest_20 : decode cX1_greatest 20 = .ok (.daload, 1) := by decide +kernel
theorem dX1_greatest_21 : decode cX1_greatest 21 = .ok (.aload_n 0, 1) := by decide +kernel
theorem dX1_greatest_22 : decode cX1_greatest 22 = .ok (.iload_n 2, 1) := by decide +kernel
theorem dX1_greatest_23 : decode cX1_greatest 23 = .ok (.iconst 0, 1) := by decide +kernel
theorem dX1_greatest_24 : decode cX1_greatest 24 = .ok (.invokevirtual 57, 3) := by decide +kernel
theorem dX1_greatest_27 : decode cX1_greatest 27 = .ok (.dmul, 1) := by decide +kernel
theorem dX1_greatest_28 : decode cX1_greatest 28 = .ok (.dastore, 1) := by decide +kernel
theorem dX1_greatest_29 : decode cX1_greatest 29 = .ok (.iinc 2 1, 3) := by decide +kernel
theorem dX1_greatest_32 : decode cX1_greatest 32 = .ok (.goto (-30), 3) := by decide +kernel
theorem dX1_greatest_35 : decode cX1_greatest 35 = .ok (.iconst 1, 1) := by decide +kernel
theorem dX1_greatest_36 : decode cX1_greatest 36 = .ok (.istore_n 2, 1) := by decide +kernel
theorem dX1_greatest_37 : decode cX1_greatest 37 = .ok (.iload_n 2, 1) := by decide +kernel
theorem dX1_greatest_38 : decode cX1_greatest 38 = .ok (.iload_n 1, 1) := by decide +kernel
theorem dX1_greatest_39 : decode cX1_greatest 39 = .ok (.if_icmp .gt 68, 3) := by decide +kernel
theorem dX1_greatest_42 : decode cX1_greatest 42 = .ok (.aload_n 0, 1) := by decide +kernel
theorem dX1_greatest_43 : decode cX1_greatest 43 = .ok (.invokevirtual 61, 3) := by decide +kernel
theorem dX1_greatest_46 : decode cX1_greatest 46 = .ok (.iconst 0, 1) := by decide +kernel
theorem dX1_greatest_47 : decode cX1_greatest 47 = .ok (.istore_n 3, 1) := by decide +kernel
theorem dX1_greatest_48 : decode cX1_greatest 48 = .ok (.iload_n 3, 1) := by decide +kernel
theorem dX1_greatest_49 : decode cX1_greatest 49 = .ok (.aload_n 0, 1) := by decide +kernel
theorem dX1_greatest_50 : decode cX1_greatest 50 = .ok (.getfield 36, 3) := by decide +kernel
theorem dX1_greatest_53 : decode cX1_greatest 53 = .ok (.if_icmp .ge 48, 3) := by decide +kernel
theorem dX1_greatest_56 : decode cX1_greatest 56 = .ok (.aload_n 0, 1) := by decide +kernel
theorem dX1_greatest_57 : decode cX1_greatest 57 = .ok (.getfield 23, 3) := by decide +kernel
theorem dX1_greatest_60 : decode cX1_greatest 60 = .ok (.iload_n 3, 1) := by decide +kernel
theorem dX1_greatest_61 : decode cX1_greatest 61 = .ok (.aload_n 0, 1) := by decide +kernel
theorem dX1_greatest_62 : decode cX1_greatest 62 = .ok (.getfield 26, 3) := by decide +kernel
theorem dX1_greatest_65 : decode cX1_greatest 65 = .ok (.aload_n 0, 1) := by decide +kernel
theorem dX1_greatest_66 : decode cX1_greatest 66 = .ok (.iload_n 3, 1) := by decide +kernel
theorem dX1_greatest_67 : decode cX1_greatest 67 = .ok (.invokevirtual 64, 3) := by decide +kernel
theorem dX1_greatest_70 : decode cX1_greatest 70 = .ok (.daload, 1) := by decide +kernel
theorem dX1_greatest_71 : decode cX1_greatest 71 = .ok (.aload_n 0, 1) := by decide +kernel
theorem dX1_greatest_72 : decode cX1_greatest 72 = .ok (.getfield 13, 3) := by decide +kernel
theorem dX1_greatest_75 : decode cX1_greatest 75 = .ok (.bipush 6, 2) := by decide +kernel
theorem dX1_greatest_77 : decode cX1_greatest 77 = .ok (.aload_n 0, 1) := by decide +kernel
theorem dX1_greatest_78 : decode cX1_greatest 78 = .ok (.iload_n 3, 1) := by decide +kernel
theorem dX1_greatest_79 : decode cX1_greatest 79 = .ok (.invokevirtual 64, 3) := by decide +kernel
theorem dX1_greatest_82 : decode cX1_greatest 82 = .ok (.imul, 1) := by decide +kernel
theorem dX1_greatest_83 : decode cX1_greatest 83 = .ok (.iload_n 3, 1) := by decide +kernel
theorem dX1_greatest_84 : decode cX1_greatest 84 = .ok (.iadd, 1) := by decide +kernel
theorem dX1_greatest_85 : decode cX1_greatest 85 = .ok (.daload, 1) := by decide +kernel
theorem dX1_greatest_86 : decode cX1_greatest 86 = .ok (.dmul, 1) := by decide +kernel
theorem dX1_greatest_87 : decode cX1_greatest 87 = .ok (.aload_n 0, 1) := by decide +kernel
theorem dX1_greatest_88 : decode cX1_greatest 88 = .ok (.iload_n 3, 1) := by decide +kernel
theorem dX1_greatest_89 : decode cX1_greatest 89 = .ok (.iload_n 2, 1) := by decide +kernel
theorem dX1_greatest_90 : decode cX1_greatest 90 = .ok (.invokevirtual 57, 3) := by decide +kernel
theorem dX1_greatest_93 : decode cX1_greatest 93 = .ok (.dmul, 1) := by decide +kernel
theorem dX1_greatest_94 : decode cX1_greatest 94 = .ok (.dastore, 1) := by decide +kernel
theorem dX1_greatest_95 : decode cX1_greatest 95 = .ok (.iinc 3 1, 3) := by decide +kernel
theorem dX1_greatest_98 : decode cX1_greatest 98 = .ok (.goto (-50), 3) := by decide +kernel
theorem dX1_greatest_101 : decode cX1_greatest 101 = .ok (.iinc 2 1, 3) := by decide +kernel
theorem dX1_greatest_104 : decode cX1_greatest 104 = .ok (.goto (-67), 3) := by decide +kernel
theorem dX1_greatest_107 : decode cX1_greatest 107 = .ok (.return_, 1) := by decide +kernel
theorem dX1_from_0 : decode cX1_from 0 = .ok (.iconst 0, 1) := by decide +kernel
theorem dX1_from_1 : decode cX1_from 1 = .ok (.istore_n 2, 1) := by decide +kernel
theorem dX1_from_2 : decode cX1_from 2 = .ok (.iconst 1, 1) := by decide +kernel
theorem dX1_from_3 : decode cX1_from 3 = .ok (.istore_n 3, 1) := by decide +kernel
theorem dX1_from_4 : decode cX1_from 4 = .ok (.iload_n 3, 1) := by decide +kernel
theorem dX1_from_5 : decode cX1_from 5 = .ok (.aload_n 0, 1) := by decide +kernel
theorem dX1_from_6 : decode cX1_from 6 = .ok (.getfield 36, 3) := by decide +kernel
theorem dX1_from_9 : decode cX1_from 9 = .ok (.if_icmp .ge 51, 3) := by decide +kernel
theorem dX1_from_12 : decode cX1_from 12 = .ok (.aload_n 0, 1) := by decide +kernel
theorem dX1_from_13 : decode cX1_from 13 = .ok (.getfield 26, 3) := by decide +kernel
theorem dX1_from_16 : decode cX1_from 16 = .ok (.iload_n 3, 1) := by decide +kernel
theorem dX1_from_17 : decode cX1_from 17 = .ok (.daload, 1) := by decide +kernel
theorem dX1_from_18 : decode cX1_from 18 = .ok (.aload_n 0, 1) := by decide +kernel
theorem dX1_from_19 : decode cX1_from 19 = .ok (.getfield 13, 3) := by decide +kernel
theorem dX1_from_22 : decode cX1_from 22 = .ok (.bipush 6, 2) := by decide +kernel
theorem dX1_from_24 : decode cX1_from 24 = .ok (.iload_n 3, 1) := by decide +kernel
theorem dX1_from_25 : decode cX1_from 25 = .ok (.imul, 1) := by decide +kernel
theorem dX1_from_26 : decode cX1_from 26 = .ok (.iload_n 1, 1) := by decide +kernel
theorem dX1_from_27 : decode cX1_from 27 = .ok (.iadd, 1) := by decide +kernel
theorem dX1_from_28 : decode cX1_from 28 = .ok (.daload, 1) := by decide +kernel
theorem dX1_from_29 : decode cX1_from 29 = .ok (.dmul, 1) := by decide +kernel
theorem dX1_from_30 : decode cX1_from 30 = .ok (.aload_n 0, 1) := by decide +kernel
theorem dX1_from_31 : decode cX1_from 31 = .ok (.getfield 26, 3) := by decide +kernel
theorem dX1_from_34 : decode cX1_from 34 = .ok (.iload_n 2, 1) := by decide +kernel
theorem dX1_from_35 : decode cX1_from 35 = .ok (.daload, 1) := by decide +kernel
theorem dX1_from_36 : decode cX1_from 36 = .ok (.aload_n 0, 1) := by decide +kernel
theorem dX1_from_37 : decode cX1_from 37 = .ok (.getfield 13, 3) := by decide +kernel
theorem dX1_from_40 : decode cX1_from 40 = .ok (.bipush 6, 2) := by decide +kernel
theorem dX1_from_42 : decode cX1_from 42 = .ok (.iload_n 2, 1) := by decide +kernel
theorem dX1_from_43 : decode cX1_from 43 = .ok (.imul, 1) := by decide +kernel
theorem dX1_from_44 : decode cX1_from 44 = .ok (.iload_n 1, 1) := by decide +kernel
theorem dX1_from_45 : decode cX1_from 45 = .ok (.iadd, 1) := by decide +kernel
theorem dX1_from_46 : decode cX1_from 46 = .ok (.daload, 1) := by decide +kernel
theorem dX1_from_47 : decode cX1_from 47 = .ok (.dmul, 1) := by decide +kernel
theorem dX1_from_48 : decode cX1_from 48 = .ok (.dcmp .l, 1) := by decide +kernel
theorem dX1_from_49 : decode cX1_from 49 = .ok (.ifCond .le 5, 3) := by decide +kernel
theorem dX1_from_52 : decode cX1_from 52 = .ok (.iload_n 3, 1) := by decide +kernel
theorem dX1_from_53 : decode cX1_from 53 = .ok (.istore_n 2, 1) := by decide +kernel
theorem dX1_from_54 : decode cX1_from 54 = .ok (.iinc 3 1, 3) := by decide +kernel
theorem dX1_from_57 : decode cX1_from 57 = .ok (.goto (-53), 3) := by decide +kernel
theorem dX1_from_60 : decode cX1_from 60 = .ok (.iload_n 2, 1) := by decide +kernel
theorem dX1_from_61 : decode cX1_from 61 = .ok (.ireturn, 1) := by decide +kernel
set_option maxRecDepth 20000 in
theorem ggX1_fault_X1_state : GoodIn wsX1_fault wsX1_state := goodIn_r _ [6, 7, 8, 9, 10, 11, 12, 13, 14, 15, 16, 17, 18] (by decide +kernel) (by decide +kernel)
set_option maxRecDepth 20000 in
theorem gX1_fault_X1_state : GoodIn wsX1_fault (wsV RX1 46 RX1 yX1_state wsX1_state) := goodIn_app (goodIn_of _ (by decide +kernel)) ggX1_fault_X1_state
theorem dX1_fault_0 : decode cX1_fault 0 = .ok (.iload_n 1, 1) := by decide +kernel
theorem dX1_fault_1 : decode cX1_fault 1 = .ok (.ifCond .lt 11, 3) := by decide +kernel
theorem dX1_fault_4 : decode cX1_fault 4 = .ok (.iload_n 1, 1) := by decide +kernel
theorem dX1_fault_5 : decode cX1_fault 5 = .ok (.aload_n 0, 1) := by decide +kernel
theorem dX1_fault_6 : decode cX1_fault 6 = .ok (.getfield 43, 3) := by decide +kernel
theorem dX1_fault_9 : decode cX1_fault 9 = .ok (.if_icmp .lt 7, 3) := by decide +kernel
theorem dX1_fault_12 : decode cX1_fault 12 = .ok (.iconst 1, 1) := by decide +kernel
theorem dX1_fault_13 : decode cX1_fault 13 = .ok (.goto 16, 3) := by decide +kernel
theorem dX1_fault_16 : decode cX1_fault 16 = .ok (.aload_n 0, 1) := by decide +kernel
theorem dX1_fault_17 : decode cX1_fault 17 = .ok (.iload_n 2, 1) := by decide +kernel
theorem dX1_fault_18 : decode cX1_fault 18 = .ok (.invokevirtual 46, 3) := by decide +kernel
theorem dX1_fault_21 : decode cX1_fault 21 = .ok (.ifCond .eq 7, 3) := by decide +kernel
theorem dX1_fault_24 : decode cX1_fault 24 = .ok (.iconst 0, 1) := by decide +kernel
theorem dX1_fault_25 : decode cX1_fault 25 = .ok (.goto 4, 3) := by decide +kernel
theorem dX1_fault_28 : decode cX1_fault 28 = .ok (.iconst 2, 1) := by decide +kernel
theorem dX1_fault_29 : decode cX1_fault 29 = .ok (.ireturn, 1) := by decide +kernel
set_option maxRecDepth 20000 in
theorem ggX1_forward_X1_fault : GoodIn wsX1_forward wsX1_fault := goodIn_r _ [7, 8, 9, 10, 11, 6, 12, 13, 31, 32, 33, 34, 35, 36, 37, 38, 39, 40, 41] (by decide +kernel) (by decide +kernel)
set_option maxRecDepth 20000 in
theorem gX1_forward_X1_fault : GoodIn wsX1_forward (wsV RX1 68 RX1 yX1_fault wsX1_fault) := goodIn_app (goodIn_of _ (by decide +kernel)) ggX1_forward_X1_fault
set_option maxRecDepth 20000 in
theorem ggX1_forward_X1_ahead : GoodIn wsX1_forward wsX1_ahead := goodIn_ca (goodIn_r _ [17, 13, 2, 18, 19, 20, 21, 22, 23, 6, 24, 25, 26, 27, 28, 29, 30, 31, 32, 33, 34, 35, 36, 37, 38, 39, 40, 41] (by decide +kernel) (by decide +kernel)) (goodIn_sub (fun _ h => List.mem_cons_of_mem _ (List.mem_append_right _ h)) (by decide +kernel))
set_option maxRecDepth 20000 in
theorem gX1_forward_X1_ahead : GoodIn wsX1_forward (wsV RX1 72 RX1 yX1_ahead wsX1_ahead) := goodIn_app (goodIn_of _ (by decide +kernel)) ggX1_forward_X1_ahead
theorem dX1_forward_0 : decode cX1_forward 0 = .ok (.aload_n 0, 1) := by decide +kernel
theorem dX1_forward_1 : decode cX1_forward 1 = .ok (.aload_n 0, 1) := by decide +kernel
theorem dX1_forward_2 : decode cX1_forward 2 = .ok (.iload_n 1, 1) := by decide +kernel
theorem dX1_forward_3 : decode cX1_forward 3 = .ok (.iload_n 2, 1) := by decide +kernel
theorem dX1_forward_4 : decode cX1_forward 4 = .ok (.invokevirtual 68, 3) := by decide +kernel
theorem dX1_forward_7 : decode cX1_forward 7 = .ok (.putfield 40, 3) := by decide +kernel
theorem dX1_forward_10 : decode cX1_forward 10 = .ok (.aload_n 0, 1) := by decide +kernel
theorem dX1_forward_11 : decode cX1_forward 11 = .ok (.getfield 40, 3) := by decide +kernel
theorem dX1_forward_14 : decode cX1_forward 14 = .ok (.ifCond .le 5, 3) := by decide +kernel
theorem dX1_forward_17 : decode cX1_forward 17 = .ok (.dconst 0, 1) := by decide +kernel
theorem dX1_forward_18 : decode cX1_forward 18 = .ok (.dreturn, 1) := by decide +kernel
theorem dX1_forward_19 : decode cX1_forward 19 = .ok (.aload_n 0, 1) := by decide +kernel
theorem dX1_forward_20 : decode cX1_forward 20 = .ok (.iload_n 1, 1) := by decide +kernel
theorem dX1_forward_21 : decode cX1_forward 21 = .ok (.invokevirtual 72, 3) := by decide +kernel
theorem dX1_forward_24 : decode cX1_forward 24 = .ok (.aload_n 0, 1) := by decide +kernel
theorem dX1_forward_25 : decode cX1_forward 25 = .ok (.getfield 23, 3) := by decide +kernel
theorem dX1_forward_28 : decode cX1_forward 28 = .ok (.iload_n 2, 1) := by decide +kernel
theorem dX1_forward_29 : decode cX1_forward 29 = .ok (.daload, 1) := by decide +kernel
theorem dX1_forward_30 : decode cX1_forward 30 = .ok (.dreturn, 1) := by decide +kernel
set_option maxRecDepth 20000 in
theorem ggX1_backward_X1_fault : GoodIn wsX1_backward wsX1_fault := goodIn_r _ [7, 8, 9, 10, 11, 6, 12, 13, 30, 31, 32, 33, 34, 35, 36, 37, 38, 39, 40] (by decide +kernel) (by decide +kernel)
set_option maxRecDepth 20000 in
theorem gX1_backward_X1_fault : GoodIn wsX1_backward (wsV RX1 68 RX1 yX1_fault wsX1_fault) := goodIn_app (goodIn_of _ (by decide +kernel)) ggX1_backward_X1_fault
set_option maxRecDepth 20000 in
theorem ggX1_backward_X1_behind : GoodIn wsX1_backward wsX1_behind := goodIn_ca (goodIn_r _ [17, 13, 2, 8, 18, 19, 20, 21, 22, 6, 23, 24, 25, 26, 27, 28, 29, 30, 31, 32, 33, 34, 35, 36, 37, 38, 39, 40] (by decide +kernel) (by decide +kernel)) (goodIn_sub (fun _ h => List.mem_cons_of_mem _ (List.mem_append_right _ h)) (by decide +kernel))
set_option maxRecDepth 20000 in
theorem gX1_backward_X1_behind : GoodIn wsX1_backward (wsV RX1 76 RX1 yX1_behind wsX1_behind) := goodIn_app (goodIn_of _ (by decide +kernel)) ggX1_backward_X1_behind
theorem dX1_backward_0 : decode cX1_backward 0 = .ok (.aload_n 0, 1) := by decide +kernel
theorem dX1_backward_1 : decode cX1_backward 1 = .ok (.aload_n 0, 1) := by decide +kernel
theorem dX1_backward_2 : decode cX1_backward 2 = .ok (.iload_n 1, 1) := by decide +kernel
theorem dX1_backward_3 : decode cX1_backward 3 = .ok (.iload_n 2, 1) := by decide +kernel
theorem dX1_backward_4 : decode cX1_backward 4 = .ok (.invokevirtual 68, 3) := by decide +kernel
theorem dX1_backward_7 : decode cX1_backward 7 = .ok (.putfield 40, 3) := by decide +kernel
theorem dX1_backward_10 : decode cX1_backward 10 = .ok (.aload_n 0, 1) := by decide +kernel
theorem dX1_backward_11 : decode cX1_backward 11 = .ok (.getfield 40, 3) := by decide +kernel
theorem dX1_backward_14 : decode cX1_backward 14 = .ok (.ifCond .le 5, 3) := by decide +kernel
theorem dX1_backward_17 : decode cX1_backward 17 = .ok (.dconst 0, 1) := by decide +kernel
theorem dX1_backward_18 : decode cX1_backward 18 = .ok (.dreturn, 1) := by decide +kernel
theorem dX1_backward_19 : decode cX1_backward 19 = .ok (.aload_n 0, 1) := by decide +kernel
theorem dX1_backward_20 : decode cX1_backward 20 = .ok (.iload_n 1, 1) := by decide +kernel
theorem dX1_backward_21 : decode cX1_backward 21 = .ok (.invokevirtual 76, 3) := by decide +kernel
theorem dX1_backward_24 : decode cX1_backward 24 = .ok (.aload_n 0, 1) := by decide +kernel
theorem dX1_backward_25 : decode cX1_backward 25 = .ok (.getfield 23, 3) := by decide +kernel
theorem dX1_backward_28 : decode cX1_backward 28 = .ok (.iload_n 2, 1) := by decide +kernel
theorem dX1_backward_29 : decode cX1_backward 29 = .ok (.daload, 1) := by decide +kernel
theorem dX1_backward_30 : decode cX1_backward 30 = .ok (.dreturn, 1) := by decide +kernel
set_option maxRecDepth 20000 in
theorem ggX1_all_X1_ahead : GoodIn wsX1_all wsX1_ahead := goodIn_ca (goodIn_r _ [8, 2, 3, 9, 10, 11, 12, 13, 14, 7, 15, 16, 17, 18, 19, 20, 21, 22, 23, 24, 25, 26, 27, 28, 29, 30, 31, 32] (by decide +kernel) (by decide +kernel)) (goodIn_sub (fun _ h => List.mem_cons_of_mem _ (List.mem_append_right _ h)) (by decide +kernel))
set_option maxRecDepth 20000 in
theorem gX1_all_X1_ahead : GoodIn wsX1_all (wsV RX1 72 RX1 yX1_ahead wsX1_ahead) := goodIn_app (goodIn_of _ (by decide +kernel)) ggX1_all_X1_ahead
theorem dX1_all_0 : decode cX1_all 0 = .ok (.aload_n 0, 1) := by decide +kernel
theorem dX1_all_1 : decode cX1_all 1 = .ok (.getfield 43, 3) := by decide +kernel
theorem dX1_all_4 : decode cX1_all 4 = .ok (.ifCond .ne 5, 3) := by decide +kernel
theorem dX1_all_7 : decode cX1_all 7 = .ok (.dconst 1, 1) := by decide +kernel
theorem dX1_all_8 : decode cX1_all 8 = .ok (.dreturn, 1) := by decide +kernel
theorem dX1_all_9 : decode cX1_all 9 = .ok (.aload_n 0, 1) := by decide +kernel
theorem dX1_all_10 : decode cX1_all 10 = .ok (.aload_n 0, 1) := by decide +kernel
theorem dX1_all_11 : decode cX1_all 11 = .ok (.getfield 43, 3) := by decide +kernel
theorem dX1_all_14 : decode cX1_all 14 = .ok (.iconst 1, 1) := by decide +kernel
theorem dX1_all_15 : decode cX1_all 15 = .ok (.isub, 1) := by decide +kernel
theorem dX1_all_16 : decode cX1_all 16 = .ok (.invokevirtual 72, 3) := by decide +kernel
theorem dX1_all_19 : decode cX1_all 19 = .ok (.dconst 0, 1) := by decide +kernel
theorem dX1_all_20 : decode cX1_all 20 = .ok (.dstore_n 1, 1) := by decide +kernel
theorem dX1_all_21 : decode cX1_all 21 = .ok (.iconst 0, 1) := by decide +kernel
theorem dX1_all_22 : decode cX1_all 22 = .ok (.istore_n 3, 1) := by decide +kernel
theorem dX1_all_23 : decode cX1_all 23 = .ok (.iload_n 3, 1) := by decide +kernel
theorem dX1_all_24 : decode cX1_all 24 = .ok (.aload_n 0, 1) := by decide +kernel
theorem dX1_all_25 : decode cX1_all 25 = .ok (.getfield 36, 3) := by decide +kernel
theorem dX1_all_28 : decode cX1_all 28 = .ok (.if_icmp .ge 18, 3) := by decide +kernel
theorem dX1_all_31 : decode cX1_all 31 = .ok (.dload_n 1, 1) := by decide +kernel
theorem dX1_all_32 : decode cX1_all 32 = .ok (.aload_n 0, 1) := by decide +kernel
theorem dX1_all_33 : decode cX1_all 33 = .ok (.getfield 23, 3) := by decide +kernel
theorem dX1_all_36 : decode cX1_all 36 = .ok (.iload_n 3, 1) := by decide +kernel
theorem dX1_all_37 : decode cX1_all 37 = .ok (.daload, 1) := by decide +kernel
theorem dX1_all_38 : decode cX1_all 38 = .ok (.dadd, 1) := by decide +kernel
theorem dX1_all_39 : decode cX1_all 39 = .ok (.dstore_n 1, 1) := by decide +kernel
theorem dX1_all_40 : decode cX1_all 40 = .ok (.iinc 3 1, 3) := by decide +kernel
theorem dX1_all_43 : decode cX1_all 43 = .ok (.goto (-20), 3) := by decide +kernel
theorem dX1_all_46 : decode cX1_all 46 = .ok (.dload_n 1, 1) := by decide +kernel
theorem dX1_all_47 : decode cX1_all 47 = .ok (.dreturn, 1) := by decide +kernel
set_option maxRecDepth 20000 in
theorem ggX1_total_X1_all : GoodIn wsX1_total wsX1_all := goodIn_ca (goodIn_r _ [6, 7, 8, 9, 10, 11, 12, 5, 13, 14, 15, 16, 17, 18, 19, 20, 21, 22, 23, 24, 25, 26, 27, 28, 29, 30, 31, 32, 33, 34, 35, 36, 37] (by decide +kernel) (by decide +kernel)) (goodIn_sub (fun _ h => List.mem_cons_of_mem _ (List.mem_append_right _ h)) (by decide +kernel))
set_option maxRecDepth 20000 in
theorem gX1_total_X1_all : GoodIn wsX1_total (wsV RX1 79 RX1 yX1_all wsX1_all) := goodIn_app (goodIn_of _ (by decide +kernel)) ggX1_total_X1_all
theorem dX1_total_0 : decode cX1_total 0 = .ok (.aload_n 0, 1) := by decide +kernel
theorem dX1_total_1 : decode cX1_total 1 = .ok (.iconst 0, 1) := by decide +kernel
theorem dX1_total_2 : decode cX1_total 2 = .ok (.putfield 40, 3) := by decide +kernel
theorem dX1_total_5 : decode cX1_total 5 = .ok (.aload_n 0, 1) := by decide +kernel
theorem dX1_total_6 : decode cX1_total 6 = .ok (.invokevirtual 79, 3) := by decide +kernel
theorem dX1_total_9 : decode cX1_total 9 = .ok (.dreturn, 1) := by decide +kernel
theorem dX1_last_0 : decode cX1_last 0 = .ok (.iconst 0, 1) := by decide +kernel
theorem dX1_last_1 : decode cX1_last 1 = .ok (.istore_n 1, 1) := by decide +kernel
theorem dX1_last_2 : decode cX1_last 2 = .ok (.iconst 1, 1) := by decide +kernel
theorem dX1_last_3 : decode cX1_last 3 = .ok (.istore_n 2, 1) := by decide +kernel
theorem dX1_last_4 : decode cX1_last 4 = .ok (.iload_n 2, 1) := by decide +kernel
theorem dX1_last_5 : decode cX1_last 5 = .ok (.aload_n 0, 1) := by decide +kernel
theorem dX1_last_6 : decode cX1_last 6 = .ok (.getfield 36, 3) := by decide +kernel
theorem dX1_last_9 : decode cX1_last 9 = .ok (.if_icmp .ge 27, 3) := by decide +kernel
theorem dX1_last_12 : decode cX1_last 12 = .ok (.aload_n 0, 1) := by decide +kernel
theorem dX1_last_13 : decode cX1_last 13 = .ok (.getfield 23, 3) := by decide +kernel
theorem dX1_last_16 : decode cX1_last 16 = .ok (.iload_n 2, 1) := by decide +kernel
theorem dX1_last_17 : decode cX1_last 17 = .ok (.daload, 1) := by decide +kernel
theorem dX1_last_18 : decode cX1_last 18 = .ok (.aload_n 0, 1) := by decide +kernel
theorem dX1_last_19 : decode cX1_last 19 = .ok (.getfield 23, 3) := by decide +kernel
theorem dX1_last_22 : decode cX1_last 22 = .ok (.iload_n 1, 1) := by decide +kernel
theorem dX1_last_23 : decode cX1_last 23 = .ok (.daload, 1) := by decide +kernel
theorem dX1_last_24 : decode cX1_last 24 = .ok (.dcmp .l, 1) := by decide +kernel
theorem dX1_last_25 : decode cX1_last 25 = .ok (.ifCond .le 5, 3) := by decide +kernel
theorem dX1_last_28 : decode cX1_last 28 = .ok (.iload_n 2, 1) := by decide +kernel
theorem dX1_last_29 : decode cX1_last 29 = .ok (.istore_n 1, 1) := by decide +kernel
theorem dX1_last_30 : decode cX1_last 30 = .ok (.iinc 2 1, 3) := by decide +kernel
theorem dX1_last_33 : decode cX1_last 33 = .ok (.goto (-29), 3) := by decide +kernel
theorem dX1_last_36 : decode cX1_last 36 = .ok (.iload_n 1, 1) := by decide +kernel
theorem dX1_last_37 : decode cX1_last 37 = .ok (.ireturn, 1) := by decide +kernel
set_option maxRecDepth 20000 in
theorem ggX1_best_X1_greatest : GoodIn wsX1_best wsX1_greatest := goodIn_ca (goodIn_r _ [8, 9, 3, 10, 11, 12, 13, 14, 15, 7, 16, 17, 18, 19, 20, 21, 22, 23, 24, 25, 26, 31, 32, 33, 34, 35, 36, 37, 38, 39, 40, 41] (by decide +kernel) (by decide +kernel)) (goodIn_sub (fun _ h => List.mem_cons_of_mem _ (List.mem_append_right _ h)) (by decide +kernel))
set_option maxRecDepth 20000 in
theorem gX1_best_X1_greatest : GoodIn wsX1_best (wsV RX1 83 RX1 yX1_greatest wsX1_greatest) := goodIn_app (goodIn_of _ (by decide +kernel)) ggX1_best_X1_greatest
set_option maxRecDepth 20000 in
theorem ggX1_best_X1_last : GoodIn wsX1_best wsX1_last := goodIn_ca (goodIn_r _ [30, 9, 3, 31, 32, 33, 34, 35, 36, 37, 38, 39, 40, 41] (by decide +kernel) (by decide +kernel)) (goodIn_sub (fun _ h => List.mem_cons_of_mem _ (List.mem_append_right _ h)) (by decide +kernel))
set_option maxRecDepth 20000 in
theorem gX1_best_X1_last : GoodIn wsX1_best (wsV RX1 86 RX1 yX1_last wsX1_last) := goodIn_app (goodIn_of _ (by decide +kernel)) ggX1_best_X1_last
theorem dX1_best_0 : decode cX1_best 0 = .ok (.aload_n 0, 1) := by decide +kernel
theorem dX1_best_1 : decode cX1_best 1 = .ok (.iconst 0, 1) := by decide +kernel
theorem dX1_best_2 : decode cX1_best 2 = .ok (.putfield 40, 3) := by decide +kernel
theorem dX1_best_5 : decode cX1_best 5 = .ok (.aload_n 0, 1) := by decide +kernel
theorem dX1_best_6 : decode cX1_best 6 = .ok (.getfield 43, 3) := by decide +kernel
theorem dX1_best_9 : decode cX1_best 9 = .ok (.ifCond .ne 5, 3) := by decide +kernel
theorem dX1_best_12 : decode cX1_best 12 = .ok (.dconst 1, 1) := by decide +kernel
theorem dX1_best_13 : decode cX1_best 13 = .ok (.dreturn, 1) := by decide +kernel
theorem dX1_best_14 : decode cX1_best 14 = .ok (.aload_n 0, 1) := by decide +kernel
theorem dX1_best_15 : decode cX1_best 15 = .ok (.aload_n 0, 1) := by decide +kernel
theorem dX1_best_16 : decode cX1_best 16 = .ok (.getfield 43, 3) := by decide +kernel
theorem dX1_best_19 : decode cX1_best 19 = .ok (.iconst 1, 1) := by decide +kernel
theorem dX1_best_20 : decode cX1_best 20 = .ok (.isub, 1) := by decide +kernel
theorem dX1_best_21 : decode cX1_best 21 = .ok (.invokevirtual 83, 3) := by decide +kernel
theorem dX1_best_24 : decode cX1_best 24 = .ok (.aload_n 0, 1) := by decide +kernel
theorem dX1_best_25 : decode cX1_best 25 = .ok (.getfield 23, 3) := by decide +kernel
theorem dX1_best_28 : decode cX1_best 28 = .ok (.aload_n 0, 1) := by decide +kernel
theorem dX1_best_29 : decode cX1_best 29 = .ok (.invokevirtual 86, 3) := by decide +kernel
theorem dX1_best_32 : decode cX1_best 32 = .ok (.daload, 1) := by decide +kernel
theorem dX1_best_33 : decode cX1_best 33 = .ok (.dreturn, 1) := by decide +kernel
set_option maxRecDepth 20000 in
theorem ggX1_bestState_X1_greatest : GoodIn wsX1_bestState wsX1_greatest := goodIn_ca (goodIn_r _ [7, 8, 9, 10, 11, 12, 13, 14, 15, 6, 16, 17, 18, 19, 20, 21, 22, 23, 24, 25, 26, 31, 32, 33, 34, 35, 36, 37, 38, 39, 40, 41] (by decide +kernel) (by decide +kernel)) (goodIn_sub (fun _ h => List.mem_cons_of_mem _ (List.mem_append_right _ h)) (by decide +kernel))
set_option maxRecDepth 20000 in
theorem gX1_bestState_X1_greatest : GoodIn wsX1_bestState (wsV RX1 83 RX1 yX1_greatest wsX1_greatest) := goodIn_app (goodIn_of _ (by decide +kernel)) ggX1_bestState_X1_greatest
set_option maxRecDepth 20000 in
theorem ggX1_bestState_X1_last : GoodIn wsX1_bestState wsX1_last := goodIn_ca (goodIn_r _ [30, 8, 9, 31, 32, 33, 34, 35, 36, 37, 38, 39, 40, 41] (by decide +kernel) (by decide +kernel)) (goodIn_sub (fun _ h => List.mem_cons_of_mem _ (List.mem_append_right _ h)) (by decide +kernel))
set_option maxRecDepth 20000 in
theorem gX1_bestState_X1_last : GoodIn wsX1_bestState (wsV RX1 86 RX1 yX1_last wsX1_last) := goodIn_app (goodIn_of _ (by decide +kernel)) ggX1_bestState_X1_last
set_option maxRecDepth 20000 in
theorem ggX1_bestState_X1_shift : GoodIn wsX1_bestState wsX1_shift := goodIn_ca (goodIn_r _ [22, 11, 9, 31, 32, 33, 34, 35, 36, 37, 38, 39, 40, 41] (by decide +kernel) (by decide +kernel)) (goodIn_sub (fun _ h => List.mem_cons_of_mem _ (List.mem_append_right _ h)) (by decide +kernel))
set_option maxRecDepth 20000 in
theorem gX1_bestState_X1_shift : GoodIn wsX1_bestState (wsV RX1 61 RX1 yX1_shift wsX1_shift) := goodIn_app (goodIn_of _ (by decide +kernel)) ggX1_bestState_X1_shift
set_option maxRecDepth 20000 in
theorem ggX1_bestState_X1_from : GoodIn wsX1_bestState wsX1_from := goodIn_ca (goodIn_r _ [26, 8, 11, 12, 31, 32, 33, 34, 35, 36, 37, 38, 39, 40, 41] (by decide +kernel) (by decide +kernel)) (goodIn_sub (fun _ h => List.mem_cons_of_mem _ (List.mem_append_right _ h)) (by decide +kernel))
set_option maxRecDepth 20000 in
theorem gX1_bestState_X1_from : GoodIn wsX1_bestState (wsV RX1 64 RX1 yX1_from wsX1_from) := goodIn_app (goodIn_of _ (by decide +kernel)) ggX1_bestState_X1_from
theorem dX1_bestState_0 : decode cX1_bestState 0 = .ok (.aload_n 0, 1) := by decide +kernel
theorem dX1_bestState_1 : decode cX1_bestState 1 = .ok (.iconst 0, 1) := by decide +kernel
theorem dX1_bestState_2 : decode cX1_bestState 2 = .ok (.putfield 40, 3) := by decide +kernel
theorem dX1_bestState_5 : decode cX1_bestState 5 = .ok (.iload_n 1, 1) := by decide +kernel
theorem dX1_bestState_6 : decode cX1_bestState 6 = .ok (.ifCond .lt 11, 3) := by decide +kernel
theorem dX1_bestState_9 : decode cX1_bestState 9 = .ok (.iload_n 1, 1) := by decide +kernel
theorem dX1_bestState_10 : decode cX1_bestState 10 = .ok (.aload_n 0, 1) := by decide +kernel
theorem dX1_bestState_11 : decode cX1_bestState 11 = .ok (.getfield 43, 3) := by decide +kernel
theorem dX1_bestState_14 : decode cX1_bestState 14 = .ok (.if_icmp .lt 5, 3) := by decide +kernel
theorem dX1_bestState_17 : decode cX1_bestState 17 = .ok (.iconst (-1), 1) := by decide +kernel
theorem dX1_bestState_18 : decode cX1_bestState 18 = .ok (.ireturn, 1) := by decide +kernel
theorem dX1_bestState_19 : decode cX1_bestState 19 = .ok (.aload_n 0, 1) := by decide +kernel
theorem dX1_bestState_20 : decode cX1_bestState 20 = .ok (.aload_n 0, 1) := by decide +kernel
theorem dX1_bestState_21 : decode cX1_bestState 21 = .ok (.getfield 43, 3) := by decide +kernel
theorem dX1_bestState_24 : decode cX1_bestState 24 = .ok (.iconst 1, 1) := by decide +kernel
theorem dX1_bestState_25 : decode cX1_bestState 25 = .ok (.isub, 1) := by decide +kernel
theorem dX1_bestState_26 : decode cX1_bestState 26 = .ok (.invokevirtual 83, 3) := by decide +kernel
theorem dX1_bestState_29 : decode cX1_bestState 29 = .ok (.aload_n 0, 1) := by decide +kernel
theorem dX1_bestState_30 : decode cX1_bestState 30 = .ok (.invokevirtual 86, 3) := by decide +kernel
theorem dX1_bestState_33 : decode cX1_bestState 33 = .ok (.istore_n 2, 1) := by decide +kernel
theorem dX1_bestState_34 : decode cX1_bestState 34 = .ok (.aload_n 0, 1) := by decide +kernel
theorem dX1_bestState_35 : decode cX1_bestState 35 = .ok (.getfield 43, 3) := by decide +kernel
theorem dX1_bestState_38 : decode cX1_bestState 38 = .ok (.iconst 1, 1) := by decide +kernel
theorem dX1_bestState_39 : decode cX1_bestState 39 = .ok (.isub, 1) := by decide +kernel
theorem dX1_bestState_40 : decode cX1_bestState 40 = .ok (.istore_n 3, 1) := by decide +kernel
theorem dX1_bestState_41 : decode cX1_bestState 41 = .ok (.iload_n 3, 1) := by decide +kernel
theorem dX1_bestState_42 : decode cX1_bestState 42 = .ok (.iload_n 1, 1) := by decide +kernel
theorem dX1_bestState_43 : decode cX1_bestState 43 = .ok (.if_icmp .le 26, 3) := by decide +kernel
theorem dX1_bestState_46 : decode cX1_bestState 46 = .ok (.aload_n 0, 1) := by decide +kernel
theorem dX1_bestState_47 : decode cX1_bestState 47 = .ok (.iload_n 3, 1) := by decide +kernel
theorem dX1_bestState_48 : decode cX1_bestState 48 = .ok (.iconst 1, 1) := by decide +kernel
theorem dX1_bestState_49 : decode cX1_bestState 49 = .ok (.isub, 1) := by decide +kernel
theorem dX1_bestState_50 : decode cX1_bestState 50 = .ok (.invokevirtual 83, 3) := by decide +kernel
theorem dX1_bestState_53 : decode cX1_bestState 53 = .ok (.aload_n 0, 1) := by decide +kernel
theorem dX1_bestState_54 : decode cX1_bestState 54 = .ok (.invokevirtual 61, 3) := by decide +kernel
theorem dX1_bestState_57 : decode cX1_bestState 57 = .ok (.aload_n 0, 1) := by decide +kernel
theorem dX1_bestState_58 : decode cX1_bestState 58 = .ok (.iload_n 2, 1) := by decide +kernel
theorem dX1_bestState_59 : decode cX1_bestState 59 = .ok (.invokevirtual 64, 3) := by decide +kernel
theorem dX1_bestState_62 : decode cX1_bestState 62 = .ok (.istore_n 2, 1) := by decide +kernel
theorem dX1_bestState_63 : decode cX1_bestState 63 = .ok (.iinc 3 (-1), 3) := by decide +kernel
theorem dX1_bestState_66 : decode cX1_bestState 66 = .ok (.goto (-25), 3) := by decide +kernel
theorem dX1_bestState_69 : decode cX1_bestState 69 = .ok (.iload_n 2, 1) := by decide +kernel
theorem dX1_bestState_70 : decode cX1_bestState 70 = .ok (.ireturn, 1) := by decide +kernel
set_option maxRecDepth 20000 in
theorem ggX1_share_X1_fault : GoodIn wsX1_share wsX1_fault := goodIn_r _ [7, 8, 9, 10, 11, 6, 12, 13, 39, 40, 41, 42, 43, 44, 45, 46, 47, 48, 49] (by decide +kernel) (by decide +kernel)
set_option maxRecDepth 20000 in
theorem gX1_share_X1_fault : GoodIn wsX1_share (wsV RX1 68 RX1 yX1_fault wsX1_fault) := goodIn_app (goodIn_of _ (by decide +kernel)) ggX1_share_X1_fault
set_option maxRecDepth 20000 in
theorem ggX1_share_X1_all : GoodIn wsX1_share wsX1_all := goodIn_ca (goodIn_r _ [17, 8, 13, 2, 18, 19, 20, 6, 21, 22, 23, 24, 25, 26, 27, 28, 29, 30, 31, 32, 33, 34, 39, 40, 41, 42, 43, 44, 45, 46, 47, 48, 49] (by decide +kernel) (by decide +kernel)) (goodIn_sub (fun _ h => List.mem_cons_of_mem _ (List.mem_append_right _ h)) (by decide +kernel))
set_option maxRecDepth 20000 in
theorem gX1_share_X1_all : GoodIn wsX1_share (wsV RX1 79 RX1 yX1_all wsX1_all) := goodIn_app (goodIn_of _ (by decide +kernel)) ggX1_share_X1_all
set_option maxRecDepth 20000 in
theorem ggX1_share_X1_ahead : GoodIn wsX1_share wsX1_ahead := goodIn_ca (goodIn_r _ [21, 13, 2, 22, 23, 24, 25, 26, 27, 6, 28, 29, 30, 31, 32, 33, 34, 39, 40, 41, 42, 43, 44, 45, 46, 47, 48, 49] (by decide +kernel) (by decide +kernel)) (goodIn_sub (fun _ h => List.mem_cons_of_mem _ (List.mem_append_right _ h)) (by decide +kernel))
set_option maxRecDepth 20000 in
theorem gX1_share_X1_ahead : GoodIn wsX1_share (wsV RX1 72 RX1 yX1_ahead wsX1_ahead) := goodIn_app (goodIn_of _ (by decide +kernel)) ggX1_share_X1_ahead
set_option maxRecDepth 20000 in
theorem ggX1_share_X1_behind : GoodIn wsX1_share wsX1_behind := goodIn_ca (goodIn_r _ [38, 13, 2, 8, 24, 23, 31, 32, 33, 6, 34, 25, 26, 27, 28, 29, 30, 39, 40, 41, 42, 43, 44, 45, 46, 47, 48, 49] (by decide +kernel) (by decide +kernel)) (goodIn_sub (fun _ h => List.mem_cons_of_mem _ (List.mem_append_right _ h)) (by decide +kernel))
set_option maxRecDepth 20000 in
theorem gX1_share_X1_behind : GoodIn wsX1_share (wsV RX1 76 RX1 yX1_behind wsX1_behind) := goodIn_app (goodIn_of _ (by decide +kernel)) ggX1_share_X1_behind
theorem dX1_share_0 : decode cX1_share 0 = .ok (.aload_n 0, 1) := by decide +kernel
theorem dX1_share_1 : decode cX1_share 1 = .ok (.aload_n 0, 1) := by decide +kernel
theorem dX1_share_2 : decode cX1_share 2 = .ok (.iload_n 1, 1) := by decide +kernel
theorem dX1_share_3 : decode cX1_share 3 = .ok (.iload_n 2, 1) := by decide +kernel
theorem dX1_share_4 : decode cX1_share 4 = .ok (.invokevirtual 68, 3) := by decide +kernel
theorem dX1_share_7 : decode cX1_share 7 = .ok (.putfield 40, 3) := by decide +kernel
theorem dX1_share_10 : decode cX1_share 10 = .ok (.aload_n 0, 1) := by decide +kernel
theorem dX1_share_11 : decode cX1_share 11 = .ok (.getfield 40, 3) := by decide +kernel
theorem dX1_share_14 : decode cX1_share 14 = .ok (.ifCond .le 5, 3) := by decide +kernel
theorem dX1_share_17 : decode cX1_share 17 = .ok (.dconst 0, 1) := by decide +kernel
theorem dX1_share_18 : decode cX1_share 18 = .ok (.dreturn, 1) := by decide +kernel
theorem dX1_share_19 : decode cX1_share 19 = .ok (.aload_n 0, 1) := by decide +kernel
theorem dX1_share_20 : decode cX1_share 20 = .ok (.invokevirtual 79, 3) := by decide +kernel
theorem dX1_share_23 : decode cX1_share 23 = .ok (.dstore_n 3, 1) := by decide +kernel
theorem dX1_share_24 : decode cX1_share 24 = .ok (.dload_n 3, 1) := by decide +kernel
theorem dX1_share_25 : decode cX1_share 25 = .ok (.dconst 0, 1) := by decide +kernel
theorem dX1_share_26 : decode cX1_share 26 = .ok (.dcmp .l, 1) := by decide +kernel
theorem dX1_share_27 : decode cX1_share 27 = .ok (.ifCond .ne 10, 3) := by decide +kernel
theorem dX1_share_30 : decode cX1_share 30 = .ok (.aload_n 0, 1) := by decide +kernel
theorem dX1_share_31 : decode cX1_share 31 = .ok (.iconst 3, 1) := by decide +kernel
theorem dX1_share_32 : decode cX1_share 32 = .ok (.putfield 40, 3) := by decide +kernel
theorem dX1_share_35 : decode cX1_share 35 = .ok (.dconst 0, 1) := by decide +kernel
theorem dX1_share_36 : decode cX1_share 36 = .ok (.dreturn, 1) := by decide +kernel
theorem dX1_share_37 : decode cX1_share 37 = .ok (.aload_n 0, 1) := by decide +kernel
theorem dX1_share_38 : decode cX1_share 38 = .ok (.iload_n 1, 1) := by decide +kernel
theorem dX1_share_39 : decode cX1_share 39 = .ok (.invokevirtual 72, 3) := by decide +kernel
theorem dX1_share_42 : decode cX1_share 42 = .ok (.aload_n 0, 1) := by decide +kernel
theorem dX1_share_43 : decode cX1_share 43 = .ok (.getfield 23, 3) := by decide +kernel
theorem dX1_share_46 : decode cX1_share 46 = .ok (.iload_n 2, 1) := by decide +kernel
theorem dX1_share_47 : decode cX1_share 47 = .ok (.daload, 1) := by decide +kernel
theorem dX1_share_48 : decode cX1_share 48 = .ok (.dstore 5, 2) := by decide +kernel
theorem dX1_share_50 : decode cX1_share 50 = .ok (.aload_n 0, 1) := by decide +kernel
theorem dX1_share_51 : decode cX1_share 51 = .ok (.iload_n 1, 1) := by decide +kernel
theorem dX1_share_52 : decode cX1_share 52 = .ok (.invokevirtual 76, 3) := by decide +kernel
theorem dX1_share_55 : decode cX1_share 55 = .ok (.dload 5, 2) := by decide +kernel
theorem dX1_share_57 : decode cX1_share 57 = .ok (.aload_n 0, 1) := by decide +kernel
theorem dX1_share_58 : decode cX1_share 58 = .ok (.getfield 23, 3) := by decide +kernel
theorem dX1_share_61 : decode cX1_share 61 = .ok (.iload_n 2, 1) := by decide +kernel
theorem dX1_share_62 : decode cX1_share 62 = .ok (.daload, 1) := by decide +kernel
theorem dX1_share_63 : decode cX1_share 63 = .ok (.dmul, 1) := by decide +kernel
theorem dX1_share_64 : decode cX1_share 64 = .ok (.dload_n 3, 1) := by decide +kernel
theorem dX1_share_65 : decode cX1_share 65 = .ok (.ddiv, 1) := by decide +kernel
theorem dX1_share_66 : decode cX1_share 66 = .ok (.dreturn, 1) := by decide +kernel
set_option maxRecDepth 20000 in
theorem ggX1_possible_X1_shown : GoodIn wsX1_possible wsX1_shown := goodIn_ca (goodIn_r _ [12, 13, 14, 15, 16, 17, 18, 19, 20, 21, 22, 23, 24, 25] (by decide +kernel) (by decide +kernel)) (goodIn_sub (fun _ h => List.mem_cons_of_mem _ (List.mem_append_right _ h)) (by decide +kernel))
set_option maxRecDepth 20000 in
theorem gX1_possible_X1_shown : GoodIn wsX1_possible (wsV RX1 57 RX1 yX1_shown wsX1_shown) := goodIn_app (goodIn_of _ (by decide +kernel)) ggX1_possible_X1_shown
theorem dX1_possible_0 : decode cX1_possible 0 = .ok (.aload_n 0, 1) := by decide +kernel
theorem dX1_possible_1 : decode cX1_possible 1 = .ok (.iconst 0, 1) := by decide +kernel
theorem dX1_possible_2 : decode cX1_possible 2 = .ok (.putfield 40, 3) := by decide +kernel
theorem dX1_possible_5 : decode cX1_possible 5 = .ok (.aload_n 0, 1) := by decide +kernel
theorem dX1_possible_6 : decode cX1_possible 6 = .ok (.getfield 43, 3) := by decide +kernel
theorem dX1_possible_9 : decode cX1_possible 9 = .ok (.ifCond .ne 5, 3) := by decide +kernel
theorem dX1_possible_12 : decode cX1_possible 12 = .ok (.lconst 1, 1) := by decide +kernel
theorem dX1_possible_13 : decode cX1_possible 13 = .ok (.lreturn, 1) := by decide +kernel
theorem dX1_possible_14 : decode cX1_possible 14 = .ok (.iconst 0, 1) := by decide +kernel
theorem dX1_possible_15 : decode cX1_possible 15 = .ok (.istore_n 1, 1) := by decide +kernel
theorem dX1_possible_16 : decode cX1_possible 16 = .ok (.iload_n 1, 1) := by decide +kernel
theorem dX1_possible_17 : decode cX1_possible 17 = .ok (.bipush 6, 2) := by decide +kernel
theorem dX1_possible_19 : decode cX1_possible 19 = .ok (.if_icmp .ge 50, 3) := by decide +kernel
theorem dX1_possible_22 : decode cX1_possible 22 = .ok (.aload_n 0, 1) := by decide +kernel
theorem dX1_possible_23 : decode cX1_possible 23 = .ok (.getfield 29, 3) := by decide +kernel
theorem dX1_possible_26 : decode cX1_possible 26 = .ok (.iload_n 1, 1) := by decide +kernel
theorem dX1_possible_27 : decode cX1_possible 27 = .ok (.iload_n 1, 1) := by decide +kernel
theorem dX1_possible_28 : decode cX1_possible 28 = .ok (.aload_n 0, 1) := by decide +kernel
theorem dX1_possible_29 : decode cX1_possible 29 = .ok (.getfield 36, 3) := by decide +kernel
theorem dX1_possible_32 : decode cX1_possible 32 = .ok (.if_icmp .ge 29, 3) := by decide +kernel
theorem dX1_possible_35 : decode cX1_possible 35 = .ok (.aload_n 0, 1) := by decide +kernel
theorem dX1_possible_36 : decode cX1_possible 36 = .ok (.getfield 7, 3) := by decide +kernel
theorem dX1_possible_39 : decode cX1_possible 39 = .ok (.iload_n 1, 1) := by decide +kernel
theorem dX1_possible_40 : decode cX1_possible 40 = .ok (.daload, 1) := by decide +kernel
theorem dX1_possible_41 : decode cX1_possible 41 = .ok (.dconst 0, 1) := by decide +kernel
theorem dX1_possible_42 : decode cX1_possible 42 = .ok (.dcmp .l, 1) := by decide +kernel
theorem dX1_possible_43 : decode cX1_possible 43 = .ok (.ifCond .le 18, 3) := by decide +kernel
theorem dX1_possible_46 : decode cX1_possible 46 = .ok (.aload_n 0, 1) := by decide +kernel
theorem dX1_possible_47 : decode cX1_possible 47 = .ok (.iload_n 1, 1) := by decide +kernel
theorem dX1_possible_48 : decode cX1_possible 48 = .ok (.iconst 0, 1) := by decide +kernel
theorem dX1_possible_49 : decode cX1_possible 49 = .ok (.invokevirtual 57, 3) := by decide +kernel
theorem dX1_possible_52 : decode cX1_possible 52 = .ok (.dconst 0, 1) := by decide +kernel
theorem dX1_possible_53 : decode cX1_possible 53 = .ok (.dcmp .l, 1) := by decide +kernel
theorem dX1_possible_54 : decode cX1_possible 54 = .ok (.ifCond .le 7, 3) := by decide +kernel
theorem dX1_possible_57 : decode cX1_possible 57 = .ok (.lconst 1, 1) := by decide +kernel
theorem dX1_possible_58 : decode cX1_possible 58 = .ok (.goto 4, 3) := by decide +kernel
theorem dX1_possible_61 : decode cX1_possible 61 = .ok (.lconst 0, 1) := by decide +kernel
theorem dX1_possible_62 : decode cX1_possible 62 = .ok (.lastore, 1) := by decide +kernel
theorem dX1_possible_63 : decode cX1_possible 63 = .ok (.iinc 1 1, 3) := by decide +kernel
theorem dX1_possible_66 : decode cX1_possible 66 = .ok (.goto (-50), 3) := by decide +kernel
theorem dX1_possible_69 : decode cX1_possible 69 = .ok (.iconst 1, 1) := by decide +kernel
theorem dX1_possible_70 : decode cX1_possible 70 = .ok (.istore_n 1, 1) := by decide +kernel
theorem dX1_possible_71 : decode cX1_possible 71 = .ok (.iload_n 1, 1) := by decide +kernel
theorem dX1_possible_72 : decode cX1_possible 72 = .ok (.aload_n 0, 1) := by decide +kernel
theorem dX1_possible_73 : decode cX1_possible 73 = .ok (.getfield 43, 3) := by decide +kernel
theorem dX1_possible_76 : decode cX1_possible 76 = .ok (.if_icmp .ge 120, 3) := by decide +kernel
theorem dX1_possible_79 : decode cX1_possible 79 = .ok (.iconst 0, 1) := by decide +kernel
theorem dX1_possible_80 : decode cX1_possible 80 = .ok (.istore_n 2, 1) := by decide +kernel
theorem dX1_possible_81 : decode cX1_possible 81 = .ok (.iload_n 2, 1) := by decide +kernel
theorem dX1_possible_82 : decode cX1_possible 82 = .ok (.bipush 6, 2) := by decide +kernel
theorem dX1_possible_84 : decode cX1_possible 84 = .ok (.if_icmp .ge 21, 3) := by decide +kernel
theorem dX1_possible_87 : decode cX1_possible 87 = .ok (.aload_n 0, 1) := by decide +kernel
theorem dX1_possible_88 : decode cX1_possible 88 = .ok (.getfield 33, 3) := by decide +kernel
theorem dX1_possible_91 : decode cX1_possible 91 = .ok (.iload_n 2, 1) := by decide +kernel
theorem dX1_possible_92 : decode cX1_possible 92 = .ok (.aload_n 0, 1) := by decide +kernel
theorem dX1_possible_93 : decode cX1_possible 93 = .ok (.getfield 29, 3) := by decide +kernel
theorem dX1_possible_96 : decode cX1_possible 96 = .ok (.iload_n 2, 1) := by decide +kernel
theorem dX1_possible_97 : decode cX1_possible 97 = .ok (.laload, 1) := by decide +kernel
theorem dX1_possible_98 : decode cX1_possible 98 = .ok (.lastore, 1) := by decide +kernel
theorem dX1_possible_99 : decode cX1_possible 99 = .ok (.iinc 2 1, 3) := by decide +kernel
theorem dX1_possible_102 : decode cX1_possible 102 = .ok (.goto (-21), 3) := by decide +kernel
theorem dX1_possible_105 : decode cX1_possible 105 = .ok (.iconst 0, 1) := by decide +kernel
theorem dX1_possible_106 : decode cX1_possible 106 = .ok (.istore_n 2, 1) := by decide +kernel
theorem dX1_possible_107 : decode cX1_possible 107 = .ok (.iload_n 2, 1) := by decide +kernel
theorem dX1_possible_108 : decode cX1_possible 108 = .ok (.aload_n 0, 1) := by decide +kernel
theorem dX1_possible_109 : decode cX1_possible 109 = .ok (.getfield 36, 3) := by decide +kernel
theorem dX1_possible_112 : decode cX1_possible 112 = .ok (.if_icmp .ge 78, 3) := by decide +kernel
theorem dX1_possible_115 : decode cX1_possible 115 = .ok (.aload_n 0, 1) := by decide +kernel
theorem dX1_possible_116 : decode cX1_possible 116 = .ok (.getfield 29, 3) := by decide +kernel
theorem dX1_possible_119 : decode cX1_possible 119 = .ok (.iload_n 2, 1) := by decide +kernel
theorem dX1_possible_120 : decode cX1_possible 120 = .ok (.lconst 0, 1) := by decide +kernel
theorem dX1_possible_121 : decode cX1_possible 121 = .ok (.lastore, 1) := by decide +kernel
theorem dX1_possible_122 : decode cX1_possible 122 = .ok (.iconst 0, 1) := by decide +kernel
theorem dX1_possible_123 : decode cX1_possible 123 = .ok (.istore_n 3, 1) := by decide +kernel
theorem dX1_possible_124 : decode cX1_possible 124 = .ok (.iload_n 3, 1) := by decide +kernel
theorem dX1_possible_125 : decode cX1_possible 125 = .ok (.aload_n 0, 1) := by decide +kernel
theorem dX1_possible_126 : decode cX1_possible 126 = .ok (.getfield 36, 3) := by decide +kernel
theorem dX1_possible_129 : decode cX1_possible 129 = .ok (.if_icmp .ge 55, 3) := by decide +kernel
theorem dX1_possible_132 : decode cX1_possible 132 = .ok (.aload_n 0, 1) := by decide +kernel
theorem dX1_possible_133 : decode cX1_possible 133 = .ok (.getfield 13, 3) := by decide +kernel
theorem dX1_possible_136 : decode cX1_possible 136 = .ok (.bipush 6, 2) := by decide +kernel
theorem dX1_possible_138 : decode cX1_possible 138 = .ok (.iload_n 3, 1) := by decide +kernel
theorem dX1_possible_139 : decode cX1_possible 139 = .ok (.imul, 1) := by decide +kernel
theorem dX1_possible_140 : decode cX1_possible 140 = .ok (.iload_n 2, 1) := by decide +kernel
theorem dX1_possible_141 : decode cX1_possible 141 = .ok (.iadd, 1) := by decide +kernel
theorem dX1_possible_142 : decode cX1_possible 142 = .ok (.daload, 1) := by decide +kernel
theorem dX1_possible_143 : decode cX1_possible 143 = .ok (.dconst 0, 1) := by decide +kernel
theorem dX1_possible_144 : decode cX1_possible 144 = .ok (.dcmp .l, 1) := by decide +kernel
theorem dX1_possible_145 : decode cX1_possible 145 = .ok (.ifCond .le 33, 3) := by decide +kernel
theorem dX1_possible_148 : decode cX1_possible 148 = .ok (.aload_n 0, 1) := by decide +kernel
theorem dX1_possible_149 : decode cX1_possible 149 = .ok (.iload_n 2, 1) := by decide +kernel
theorem dX1_possible_150 : decode cX1_possible 150 = .ok (.iload_n 1, 1) := by decide +kernel
theorem dX1_possible_151 : decode cX1_possible 151 = .ok (.invokevirtual 57, 3) := by decide +kernel
theorem dX1_possible_154 : decode cX1_possible 154 = .ok (.dconst 0, 1) := by decide +kernel
theorem dX1_possible_155 : decode cX1_possible 155 = .ok (.dcmp .l, 1) := by decide +kernel
theorem dX1_possible_156 : decode cX1_possible 156 = .ok (.ifCond .le 22, 3) := by decide +kernel
theorem dX1_possible_159 : decode cX1_possible 159 = .ok (.aload_n 0, 1) := by decide +kernel
theorem dX1_possible_160 : decode cX1_possible 160 = .ok (.getfield 29, 3) := by decide +kernel
theorem dX1_possible_163 : decode cX1_possible 163 = .ok (.iload_n 2, 1) := by decide +kernel
theorem dX1_possible_164 : decode cX1_possible 164 = .ok (.aload_n 0, 1) := by decide +kernel
theorem dX1_possible_165 : decode cX1_possible 165 = .ok (.getfield 29, 3) := by decide +kernel
theorem dX1_possible_168 : decode cX1_possible 168 = .ok (.iload_n 2, 1) := by decide +kernel
theorem dX1_possible_169 : decode cX1_possible 169 = .ok (.laload, 1) := by decide +kernel
theorem dX1_possible_170 : decode cX1_possible 170 = .ok (.aload_n 0, 1) := by decide +kernel
theorem dX1_possible_171 : decode cX1_possible 171 = .ok (.getfield 33, 3) := by decide +kernel
theorem dX1_possible_174 : decode cX1_possible 174 = .ok (.iload_n 3, 1) := by decide +kernel
theorem dX1_possible_175 : decode cX1_possible 175 = .ok (.laload, 1) := by decide +kernel
theorem dX1_possible_176 : decode cX1_possible 176 = .ok (.ladd, 1) := by decide +kernel
theorem dX1_possible_177 : decode cX1_possible 177 = .ok (.lastore, 1) := by decide +kernel
theorem dX1_possible_178 : decode cX1_possible 178 = .ok (.iinc 3 1, 3) := by decide +kernel
theorem dX1_possible_181 : decode cX1_possible 181 = .ok (.goto (-57), 3) := by decide +kernel
theorem dX1_possible_184 : decode cX1_possible 184 = .ok (.iinc 2 1, 3) := by decide +kernel
theorem dX1_possible_187 : decode cX1_possible 187 = .ok (.goto (-80), 3) := by decide +kernel
theorem dX1_possible_190 : decode cX1_possible 190 = .ok (.iinc 1 1, 3) := by decide +kernel
theorem dX1_possible_193 : decode cX1_possible 193 = .ok (.goto (-122), 3) := by decide +kernel
theorem dX1_possible_196 : decode cX1_possible 196 = .ok (.lconst 0, 1) := by decide +kernel
theorem dX1_possible_197 : decode cX1_possible 197 = .ok (.lstore_n 1, 1) := by decide +kernel
theorem dX1_possible_198 : decode cX1_possible 198 = .ok (.iconst 0, 1) := by decide +kernel
theorem dX1_possible_199 : decode cX1_possible 199 = .ok (.istore_n 3, 1) := by decide +kernel
theorem dX1_possible_200 : decode cX1_possible 200 = .ok (.iload_n 3, 1) := by decide +kernel
theorem dX1_possible_201 : decode cX1_possible 201 = .ok (.aload_n 0, 1) := by decide +kernel
theorem dX1_possible_202 : decode cX1_possible 202 = .ok (.getfield 36, 3) := by decide +kernel
theorem dX1_possible_205 : decode cX1_possible 205 = .ok (.if_icmp .ge 18, 3) := by decide +kernel
theorem dX1_possible_208 : decode cX1_possible 208 = .ok (.lload_n 1, 1) := by decide +kernel
theorem dX1_possible_209 : decode cX1_possible 209 = .ok (.aload_n 0, 1) := by decide +kernel
theorem dX1_possible_210 : decode cX1_possible 210 = .ok (.getfield 29, 3) := by decide +kernel
theorem dX1_possible_213 : decode cX1_possible 213 = .ok (.iload_n 3, 1) := by decide +kernel
theorem dX1_possible_214 : decode cX1_possible 214 = .ok (.laload, 1) := by decide +kernel
theorem dX1_possible_215 : decode cX1_possible 215 = .ok (.ladd, 1) := by decide +kernel
theorem dX1_possible_216 : decode cX1_possible 216 = .ok (.lstore_n 1, 1) := by decide +kernel
theorem dX1_possible_217 : decode cX1_possible 217 = .ok (.iinc 3 1, 3) := by decide +kernel
theorem dX1_possible_220 : decode cX1_possible 220 = .ok (.goto (-20), 3) := by decide +kernel
theorem dX1_possible_223 : decode cX1_possible 223 = .ok (.lload_n 1, 1) := by decide +kernel
theorem dX1_possible_224 : decode cX1_possible 224 = .ok (.lreturn, 1) := by decide +kernel
