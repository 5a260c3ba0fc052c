theorem dX0_init_0 : decode cX0_init 0 = .ok (.aload_n 0, 1) := by decide +kernel
theorem dX0_init_1 : decode cX0_init 1 = .ok (.invokespecial 1, 3) := by decide +kernel
theorem dX0_init_4 : decode cX0_init 4 = .ok (.aload_n 0, 1) := by decide +kernel
theorem dX0_init_5 : decode cX0_init 5 = .ok (.bipush 6, 2) := by decide +kernel
theorem dX0_init_7 : decode cX0_init 7 = .ok (.newarray .double, 2) := by decide +kernel
theorem dX0_init_9 : decode cX0_init 9 = .ok (.putfield 9, 3) := by decide +kernel
theorem dX0_init_12 : decode cX0_init 12 = .ok (.aload_n 0, 1) := by decide +kernel
theorem dX0_init_13 : decode cX0_init 13 = .ok (.bipush 6, 2) := by decide +kernel
theorem dX0_init_15 : decode cX0_init 15 = .ok (.bipush 6, 2) := by decide +kernel
theorem dX0_init_17 : decode cX0_init 17 = .ok (.multianewarray 13 2, 4) := by decide +kernel
theorem dX0_init_21 : decode cX0_init 21 = .ok (.putfield 15, 3) := by decide +kernel
theorem dX0_init_24 : decode cX0_init 24 = .ok (.aload_n 0, 1) := by decide +kernel
theorem dX0_init_25 : decode cX0_init 25 = .ok (.bipush 6, 2) := by decide +kernel
theorem dX0_init_27 : decode cX0_init 27 = .ok (.iconst 4, 1) := by decide +kernel
theorem dX0_init_28 : decode cX0_init 28 = .ok (.multianewarray 13 2, 4) := by decide +kernel
theorem dX0_init_32 : decode cX0_init 32 = .ok (.putfield 18, 3) := by decide +kernel
theorem dX0_init_35 : decode cX0_init 35 = .ok (.aload_n 0, 1) := by decide +kernel
theorem dX0_init_36 : decode cX0_init 36 = .ok (.bipush 12, 2) := by decide +kernel
theorem dX0_init_38 : decode cX0_init 38 = .ok (.newarray .int, 2) := by decide +kernel
theorem dX0_init_40 : decode cX0_init 40 = .ok (.putfield 21, 3) := by decide +kernel
theorem dX0_init_43 : decode cX0_init 43 = .ok (.aload_n 0, 1) := by decide +kernel
theorem dX0_init_44 : decode cX0_init 44 = .ok (.iconst 1, 1) := by decide +kernel
theorem dX0_init_45 : decode cX0_init 45 = .ok (.putfield 25, 3) := by decide +kernel
theorem dX0_init_48 : decode cX0_init 48 = .ok (.aload_n 0, 1) := by decide +kernel
theorem dX0_init_49 : decode cX0_init 49 = .ok (.iconst 0, 1) := by decide +kernel
theorem dX0_init_50 : decode cX0_init 50 = .ok (.putfield 29, 3) := by decide +kernel
theorem dX0_init_53 : decode cX0_init 53 = .ok (.aload_n 0, 1) := by decide +kernel
theorem dX0_init_54 : decode cX0_init 54 = .ok (.bipush 12, 2) := by decide +kernel
theorem dX0_init_56 : decode cX0_init 56 = .ok (.bipush 6, 2) := by decide +kernel
theorem dX0_init_58 : decode cX0_init 58 = .ok (.multianewarray 13 2, 4) := by decide +kernel
theorem dX0_init_62 : decode cX0_init 62 = .ok (.putfield 32, 3) := by decide +kernel
theorem dX0_init_65 : decode cX0_init 65 = .ok (.aload_n 0, 1) := by decide +kernel
theorem dX0_init_66 : decode cX0_init 66 = .ok (.bipush 12, 2) := by decide +kernel
theorem dX0_init_68 : decode cX0_init 68 = .ok (.bipush 6, 2) := by decide +kernel
theorem dX0_init_70 : decode cX0_init 70 = .ok (.multianewarray 13 2, 4) := by decide +kernel
theorem dX0_init_74 : decode cX0_init 74 = .ok (.putfield 35, 3) := by decide +kernel
theorem dX0_init_77 : decode cX0_init 77 = .ok (.aload_n 0, 1) := by decide +kernel
theorem dX0_init_78 : decode cX0_init 78 = .ok (.bipush 12, 2) := by decide +kernel
theorem dX0_init_80 : decode cX0_init 80 = .ok (.bipush 6, 2) := by decide +kernel
theorem dX0_init_82 : decode cX0_init 82 = .ok (.multianewarray 13 2, 4) := by decide +kernel
theorem dX0_init_86 : decode cX0_init 86 = .ok (.putfield 38, 3) := by decide +kernel
theorem dX0_init_89 : decode cX0_init 89 = .ok (.aload_n 0, 1) := by decide +kernel
theorem dX0_init_90 : decode cX0_init 90 = .ok (.bipush 12, 2) := by decide +kernel
theorem dX0_init_92 : decode cX0_init 92 = .ok (.bipush 6, 2) := by decide +kernel
theorem dX0_init_94 : decode cX0_init 94 = .ok (.multianewarray 41 2, 4) := by decide +kernel
theorem dX0_init_98 : decode cX0_init 98 = .ok (.putfield 43, 3) := by decide +kernel
theorem dX0_init_101 : decode cX0_init 101 = .ok (.aload_n 0, 1) := by decide +kernel
theorem dX0_init_102 : decode cX0_init 102 = .ok (.bipush 12, 2) := by decide +kernel
theorem dX0_init_104 : decode cX0_init 104 = .ok (.bipush 6, 2) := by decide +kernel
theorem dX0_init_106 : decode cX0_init 106 = .ok (.multianewarray 46 2, 4) := by decide +kernel
theorem dX0_init_110 : decode cX0_init 110 = .ok (.putfield 48, 3) := by decide +kernel
theorem dX0_init_113 : decode cX0_init 113 = .ok (.return_, 1) := by decide +kernel
set_option maxRecDepth 20000 in
theorem ggX0_states_X0_clearWeights : GoodIn wsX0_states wsX0_clearWeights := goodIn_ca (goodIn_r _ [7, 8, 9, 10, 11, 12, 13, 14, 15, 16, 17, 18, 19, 20, 21] (by decide +kernel) (by decide +kernel)) (goodIn_sub (fun _ h => List.mem_cons_of_mem _ (List.mem_append_right _ h)) (by decide +kernel))
set_option maxRecDepth 20000 in
theorem gX0_states_X0_clearWeights : GoodIn wsX0_states (wsV RX0 51 RX0 yX0_clearWeights wsX0_clearWeights) := goodIn_app (goodIn_of _ (by decide +kernel)) ggX0_states_X0_clearWeights
theorem dX0_states_0 : decode cX0_states 0 = .ok (.iload_n 1, 1) := by decide +kernel
theorem dX0_states_1 : decode cX0_states 1 = .ok (.iconst 1, 1) := by decide +kernel
theorem dX0_states_2 : decode cX0_states 2 = .ok (.if_icmp .lt 9, 3) := by decide +kernel
theorem dX0_states_5 : decode cX0_states 5 = .ok (.iload_n 1, 1) := by decide +kernel
theorem dX0_states_6 : decode cX0_states 6 = .ok (.bipush 6, 2) := by decide +kernel
theorem dX0_states_8 : decode cX0_states 8 = .ok (.if_icmp .le 5, 3) := by decide +kernel
theorem dX0_states_11 : decode cX0_states 11 = .ok (.iconst 0, 1) := by decide +kernel
theorem dX0_states_12 : decode cX0_states 12 = .ok (.ireturn, 1) := by decide +kernel
theorem dX0_states_13 : decode cX0_states 13 = .ok (.aload_n 0, 1) := by decide +kernel
theorem dX0_states_14 : decode cX0_states 14 = .ok (.invokevirtual 51, 3) := by decide +kernel
theorem dX0_states_17 : decode cX0_states 17 = .ok (.aload_n 0, 1) := by decide +kernel
theorem dX0_states_18 : decode cX0_states 18 = .ok (.iload_n 1, 1) := by decide +kernel
theorem dX0_states_19 : decode cX0_states 19 = .ok (.putfield 25, 3) := by decide +kernel
theorem dX0_states_22 : decode cX0_states 22 = .ok (.aload_n 0, 1) := by decide +kernel
theorem dX0_states_23 : decode cX0_states 23 = .ok (.iconst 0, 1) := by decide +kernel
theorem dX0_states_24 : decode cX0_states 24 = .ok (.putfield 29, 3) := by decide +kernel
theorem dX0_states_27 : decode cX0_states 27 = .ok (.iconst 1, 1) := by decide +kernel
theorem dX0_states_28 : decode cX0_states 28 = .ok (.ireturn, 1) := by decide +kernel
theorem dX0_size_0 : decode cX0_size 0 = .ok (.aload_n 0, 1) := by decide +kernel
theorem dX0_size_1 : decode cX0_size 1 = .ok (.getfield 25, 3) := by decide +kernel
theorem dX0_size_4 : decode cX0_size 4 = .ok (.ireturn, 1) := by decide +kernel
set_option maxRecDepth 20000 in
theorem ggX0_start_X0_isState : GoodIn wsX0_start wsX0_isState := goodIn_r _ [6, 7, 11, 12, 13, 14, 15, 16, 17, 18, 19, 20, 21] (by decide +kernel) (by decide +kernel)
set_option maxRecDepth 20000 in
theorem gX0_start_X0_isState : GoodIn wsX0_start (wsV RX0 54 RX0 yX0_isState wsX0_isState) := goodIn_app (goodIn_of _ (by decide +kernel)) ggX0_start_X0_isState
set_option maxRecDepth 20000 in
theorem ggX0_start_X0_isWeight : GoodIn wsX0_start wsX0_isWeight := goodIn_r _ [10] (by decide +kernel) (by decide +kernel)
set_option maxRecDepth 20000 in
theorem gX0_start_X0_isWeight : GoodIn wsX0_start (va_wsS RX0 58 yX0_isWeight wsX0_isWeight) := goodIn_app (goodIn_of _ (by decide +kernel)) ggX0_start_X0_isWeight
theorem dX0_start_0 : decode cX0_start 0 = .ok (.aload_n 0, 1) := by decide +kernel
theorem dX0_start_1 : decode cX0_start 1 = .ok (.iload_n 1, 1) := by decide +kernel
theorem dX0_start_2 : decode cX0_start 2 = .ok (.invokevirtual 54, 3) := by decide +kernel
theorem dX0_start_5 : decode cX0_start 5 = .ok (.ifCond .eq 10, 3) := by decide +kernel
theorem dX0_start_8 : decode cX0_start 8 = .ok (.dload_n 2, 1) := by decide +kernel
theorem dX0_start_9 : decode cX0_start 9 = .ok (.invokestatic 58, 3) := by decide +kernel
theorem dX0_start_12 : decode cX0_start 12 = .ok (.ifCond .ne 5, 3) := by decide +kernel
theorem dX0_start_15 : decode cX0_start 15 = .ok (.iconst 0, 1) := by decide +kernel
theorem dX0_start_16 : decode cX0_start 16 = .ok (.ireturn, 1) := by decide +kernel
theorem dX0_start_17 : decode cX0_start 17 = .ok (.aload_n 0, 1) := by decide +kernel
theorem dX0_start_18 : decode cX0_start 18 = .ok (.getfield 9, 3) := by decide +kernel
theorem dX0_start_21 : decode cX0_start 21 = .ok (.iload_n 1, 1) := by decide +kernel
theorem dX0_start_22 : decode cX0_start 22 = .ok (.dload_n 2, 1) := by decide +kernel
theorem dX0_start_23 : decode cX0_start 23 = .ok (.dastore, 1) := by decide +kernel
theorem dX0_start_24 : decode cX0_start 24 = .ok (.iconst 1, 1) := by decide +kernel
theorem dX0_start_25 : decode cX0_start 25 = .ok (.ireturn, 1) := by decide +kernel
set_option maxRecDepth 20000 in
theorem ggX0_move_X0_isState : GoodIn wsX0_move wsX0_isState := goodIn_r _ [6, 7, 11, 12, 13, 14, 15, 16, 17, 18, 19, 20, 21] (by decide +kernel) (by decide +kernel)
set_option maxRecDepth 20000 in
theorem gX0_move_X0_isState : GoodIn wsX0_move (wsV RX0 54 RX0 yX0_isState wsX0_isState) := goodIn_app (goodIn_of _ (by decide +kernel)) ggX0_move_X0_isState
set_option maxRecDepth 20000 in
theorem ggX0_move_X0_isWeight : GoodIn wsX0_move wsX0_isWeight := goodIn_r _ [10] (by decide +kernel) (by decide +kernel)
set_option maxRecDepth 20000 in
theorem gX0_move_X0_isWeight : GoodIn wsX0_move (va_wsS RX0 58 yX0_isWeight wsX0_isWeight) := goodIn_app (goodIn_of _ (by decide +kernel)) ggX0_move_X0_isWeight
theorem dX0_move_0 : decode cX0_move 0 = .ok (.aload_n 0, 1) := by decide +kernel
theorem dX0_move_1 : decode cX0_move 1 = .ok (.iload_n 1, 1) := by decide +kernel
theorem dX0_move_2 : decode cX0_move 2 = .ok (.invokevirtual 54, 3) := by decide +kernel
theorem dX0_move_5 : decode cX0_move 5 = .ok (.ifCond .eq 18, 3) := by decide +kernel
theorem dX0_move_8 : decode cX0_move 8 = .ok (.aload_n 0, 1) := by decide +kernel
theorem dX0_move_9 : decode cX0_move 9 = .ok (.iload_n 2, 1) := by decide +kernel
theorem dX0_move_10 : decode cX0_move 10 = .ok (.invokevirtual 54, 3) := by decide +kernel
theorem dX0_move_13 : decode cX0_move 13 = .ok (.ifCond .eq 10, 3) := by decide +kernel
theorem dX0_move_16 : decode cX0_move 16 = .ok (.dload_n 3, 1) := by decide +kernel
theorem dX0_move_17 : decode cX0_move 17 = .ok (.invokestatic 58, 3) := by decide +kernel
theorem dX0_move_20 : decode cX0_move 20 = .ok (.ifCond .ne 5, 3) := by decide +kernel
theorem dX0_move_23 : decode cX0_move 23 = .ok (.iconst 0, 1) := by decide +kernel
theorem dX0_move_24 : decode cX0_move 24 = .ok (.ireturn, 1) := by decide +kernel
theorem dX0_move_25 : decode cX0_move 25 = .ok (.aload_n 0, 1) := by decide +kernel
theorem dX0_move_26 : decode cX0_move 26 = .ok (.getfield 15, 3) := by decide +kernel
theorem dX0_move_29 : decode cX0_move 29 = .ok (.iload_n 1, 1) := by decide +kernel
theorem dX0_move_30 : decode cX0_move 30 = .ok (.aaload, 1) := by decide +kernel
theorem dX0_move_31 : decode cX0_move 31 = .ok (.iload_n 2, 1) := by decide +kernel
theorem dX0_move_32 : decode cX0_move 32 = .ok (.dload_n 3, 1) := by decide +kernel
theorem dX0_move_33 : decode cX0_move 33 = .ok (.dastore, 1) := by decide +kernel
theorem dX0_move_34 : decode cX0_move 34 = .ok (.iconst 1, 1) := by decide +kernel
theorem dX0_move_35 : decode cX0_move 35 = .ok (.ireturn, 1) := by decide +kernel
set_option maxRecDepth 20000 in
theorem ggX0_show_X0_isState : GoodIn wsX0_show wsX0_isState := goodIn_r _ [6, 7, 14, 15, 16, 17, 18, 19, 20, 21, 22, 23, 24] (by decide +kernel) (by decide +kernel)
set_option maxRecDepth 20000 in
theorem gX0_show_X0_isState : GoodIn wsX0_show (wsV RX0 54 RX0 yX0_isState wsX0_isState) := goodIn_app (goodIn_of _ (by decide +kernel)) ggX0_show_X0_isState
set_option maxRecDepth 20000 in
theorem ggX0_show_X0_isSymbol : GoodIn wsX0_show wsX0_isSymbol := goodIn_r _ [10] (by decide +kernel) (by decide +kernel)
set_option maxRecDepth 20000 in
theorem gX0_show_X0_isSymbol : GoodIn wsX0_show (va_wsS RX0 62 yX0_isSymbol wsX0_isSymbol) := goodIn_app (goodIn_of _ (by decide +kernel)) ggX0_show_X0_isSymbol
set_option maxRecDepth 20000 in
theorem ggX0_show_X0_isWeight : GoodIn wsX0_show wsX0_isWeight := goodIn_r _ [13] (by decide +kernel) (by decide +kernel)
set_option maxRecDepth 20000 in
theorem gX0_show_X0_isWeight : GoodIn wsX0_show (va_wsS RX0 58 yX0_isWeight wsX0_isWeight) := goodIn_app (goodIn_of _ (by decide +kernel)) ggX0_show_X0_isWeight
theorem dX0_show_0 : decode cX0_show 0 = .ok (.aload_n 0, 1) := by decide +kernel
theorem dX0_show_1 : decode cX0_show 1 = .ok (.iload_n 1, 1) := by decide +kernel
theorem dX0_show_2 : decode cX0_show 2 = .ok (.invokevirtual 54, 3) := by decide +kernel
theorem dX0_show_5 : decode cX0_show 5 = .ok (.ifCond .eq 17, 3) := by decide +kernel
theorem dX0_show_8 : decode cX0_show 8 = .ok (.iload_n 2, 1) := by decide +kernel
theorem dX0_show_9 : decode cX0_show 9 = .ok (.invokestatic 62, 3) := by decide +kernel
theorem dX0_show_12 : decode cX0_show 12 = .ok (.ifCond .eq 10, 3) := by decide +kernel
theorem dX0_show_15 : decode cX0_show 15 = .ok (.dload_n 3, 1) := by decide +kernel
theorem dX0_show_16 : decode cX0_show 16 = .ok (.invokestatic 58, 3) := by decide +kernel
theorem dX0_show_19 : decode cX0_show 19 = .ok (.ifCond .ne 5, 3) := by decide +kernel
theorem dX0_show_22 : decode cX0_show 22 = .ok (.iconst 0, 1) := by decide +kernel
theorem dX0_show_23 : decode cX0_show 23 = .ok (.ireturn, 1) := by decide +kernel
theorem dX0_show_24 : decode cX0_show 24 = .ok (.aload_n 0, 1) := by decide +kernel
theorem dX0_show_25 : decode cX0_show 25 = .ok (.getfield 18, 3) := by decide +kernel
theorem dX0_show_28 : decode cX0_show 28 = .ok (.iload_n 1, 1) := by decide +kernel
theorem dX0_show_29 : decode cX0_show 29 = .ok (.aaload, 1) := by decide +kernel
theorem dX0_show_30 : decode cX0_show 30 = .ok (.iload_n 2, 1) := by decide +kernel
theorem dX0_show_31 : decode cX0_show 31 = .ok (.dload_n 3, 1) := by decide +kernel
theorem dX0_show_32 : decode cX0_show 32 = .ok (.dastore, 1) := by decide +kernel
theorem dX0_show_33 : decode cX0_show 33 = .ok (.iconst 1, 1) := by decide +kernel
theorem dX0_show_34 : decode cX0_show 34 = .ok (.ireturn, 1) := by decide +kernel
set_option maxRecDepth 20000 in
theorem ggX0_read_X0_isSymbol : GoodIn wsX0_read wsX0_isSymbol := goodIn_r _ [6] (by decide +kernel) (by decide +kernel)
set_option maxRecDepth 20000 in
theorem gX0_read_X0_isSymbol : GoodIn wsX0_read (va_wsS RX0 62 yX0_isSymbol wsX0_isSymbol) := goodIn_app (goodIn_of _ (by decide +kernel)) ggX0_read_X0_isSymbol
theorem dX0_read_0 : decode cX0_read 0 = .ok (.iload_n 1, 1) := by decide +kernel
theorem dX0_read_1 : decode cX0_read 1 = .ok (.invokestatic 62, 3) := by decide +kernel
theorem dX0_read_4 : decode cX0_read 4 = .ok (.ifCond .eq 12, 3) := by decide +kernel
theorem dX0_read_7 : decode cX0_read 7 = .ok (.aload_n 0, 1) := by decide +kernel
theorem dX0_read_8 : decode cX0_read 8 = .ok (.getfield 29, 3) := by decide +kernel
theorem dX0_read_11 : decode cX0_read 11 = .ok (.bipush 12, 2) := by decide +kernel
theorem dX0_read_13 : decode cX0_read 13 = .ok (.if_icmp .lt 5, 3) := by decide +kernel
theorem dX0_read_16 : decode cX0_read 16 = .ok (.iconst 0, 1) := by decide +kernel
theorem dX0_read_17 : decode cX0_read 17 = .ok (.ireturn, 1) := by decide +kernel
theorem dX0_read_18 : decode cX0_read 18 = .ok (.aload_n 0, 1) := by decide +kernel
theorem dX0_read_19 : decode cX0_read 19 = .ok (.getfield 21, 3) := by decide +kernel
theorem dX0_read_22 : decode cX0_read 22 = .ok (.aload_n 0, 1) := by decide +kernel
theorem dX0_read_23 : decode cX0_read 23 = .ok (.getfield 29, 3) := by decide +kernel
theorem dX0_read_26 : decode cX0_read 26 = .ok (.iload_n 1, 1) := by decide +kernel
theorem dX0_read_27 : decode cX0_read 27 = .ok (.iastore, 1) := by decide +kernel
theorem dX0_read_28 : decode cX0_read 28 = .ok (.aload_n 0, 1) := by decide +kernel
theorem dX0_read_29 : decode cX0_read 29 = .ok (.dup, 1) := by decide +kernel
theorem dX0_read_30 : decode cX0_read 30 = .ok (.getfield 29, 3) := by decide +kernel
theorem dX0_read_33 : decode cX0_read 33 = .ok (.iconst 1, 1) := by decide +kernel
theorem dX0_read_34 : decode cX0_read 34 = .ok (.iadd, 1) := by decide +kernel
theorem dX0_read_35 : decode cX0_read 35 = .ok (.putfield 29, 3) := by decide +kernel
theorem dX0_read_38 : decode cX0_read 38 = .ok (.iconst 1, 1) := by decide +kernel
theorem dX0_read_39 : decode cX0_read 39 = .ok (.ireturn, 1) := by decide +kernel
theorem dX0_unread_0 : decode cX0_unread 0 = .ok (.aload_n 0, 1) := by decide +kernel
theorem dX0_unread_1 : decode cX0_unread 1 = .ok (.getfield 29, 3) := by decide +kernel
theorem dX0_unread_4 : decode cX0_unread 4 = .ok (.ifCond .ne 5, 3) := by decide +kernel
theorem dX0_unread_7 : decode cX0_unread 7 = .ok (.iconst 0, 1) := by decide +kernel
theorem dX0_unread_8 : decode cX0_unread 8 = .ok (.ireturn, 1) := by decide +kernel
theorem dX0_unread_9 : decode cX0_unread 9 = .ok (.aload_n 0, 1) := by decide +kernel
theorem dX0_unread_10 : decode cX0_unread 10 = .ok (.dup, 1) := by decide +kernel
theorem dX0_unread_11 : decode cX0_unread 11 = .ok (.getfield 29, 3) := by decide +kernel
theorem dX0_unread_14 : decode cX0_unread 14 = .ok (.iconst 1, 1) := by decide +kernel
theorem dX0_unread_15 : decode cX0_unread 15 = .ok (.isub, 1) := by decide +kernel
theorem dX0_unread_16 : decode cX0_unread 16 = .ok (.putfield 29, 3) := by decide +kernel
theorem dX0_unread_19 : decode cX0_unread 19 = .ok (.iconst 1, 1) := by decide +kernel
theorem dX0_unread_20 : decode cX0_unread 20 = .ok (.ireturn, 1) := by decide +kernel
theorem dX0_length_0 : decode cX0_length 0 = .ok (.aload_n 0, 1) := by decide +kernel
theorem dX0_length_1 : decode cX0_length 1 = .ok (.getfield 29, 3) := by decide +kernel
theorem dX0_length_4 : decode cX0_length 4 = .ok (.ireturn, 1) := by decide +kernel
set_option maxRecDepth 20000 in
theorem ggX0_forward_X0_refuseWrongPlaceOrState : GoodIn wsX0_forward wsX0_refuseWrongPlaceOrState := goodIn_ca (goodIn_ca (goodIn_r _ [6, 7, 8, 9, 10, 11, 12, 13, 5, 14, 15, 16, 17, 18, 19, 20, 33, 34, 35, 36, 37, 38, 39, 40, 41, 42, 43] (by decide +kernel) (by decide +kernel)) (goodIn_sub (fun _ h => List.mem_cons_of_mem _ (List.mem_append_left _ (List.mem_append_right _ h))) (by decide +kernel))) (goodIn_sub (fun _ h => List.mem_cons_of_mem _ (List.mem_append_right _ h)) (by decide +kernel))
set_option maxRecDepth 20000 in
theorem gX0_forward_X0_refuseWrongPlaceOrState : GoodIn wsX0_forward (wsV RX0 65 RX0 yX0_refuseWrongPlaceOrState wsX0_refuseWrongPlaceOrState) := goodIn_app (goodIn_of _ (by decide +kernel)) ggX0_forward_X0_refuseWrongPlaceOrState
set_option maxRecDepth 20000 in
theorem ggX0_forward_X0_fillForward : GoodIn wsX0_forward wsX0_fillForward := goodIn_ca (goodIn_r _ [24, 15, 25, 20, 1, 26, 27, 28, 29, 5, 30, 31, 32, 33, 34, 35, 36, 37, 38, 39, 40, 41, 42, 43] (by decide +kernel) (by decide +kernel)) (goodIn_sub (fun _ h => List.mem_cons_of_mem _ (List.mem_append_left _ (List.mem_append_left _ (List.mem_append_right _ h)))) (by decide +kernel))
set_option maxRecDepth 20000 in
theorem gX0_forward_X0_fillForward : GoodIn wsX0_forward (wsV RX0 69 RX0 yX0_fillForward wsX0_fillForward) := goodIn_app (goodIn_of _ (by decide +kernel)) ggX0_forward_X0_fillForward
theorem dX0_forward_0 : decode cX0_forward 0 = .ok (.aload_n 0, 1) := by decide +kernel
theorem dX0_forward_1 : decode cX0_forward 1 = .ok (.iload_n 1, 1) := by decide +kernel
theorem dX0_forward_2 : decode cX0_forward 2 = .ok (.iload_n 2, 1) := by decide +kernel
theorem dX0_forward_3 : decode cX0_forward 3 = .ok (.invokevirtual 65, 3) := by decide +kernel
theorem dX0_forward_6 : decode cX0_forward 6 = .ok (.aload_n 0, 1) := by decide +kernel
theorem dX0_forward_7 : decode cX0_forward 7 = .ok (.invokevirtual 69, 3) := by decide +kernel
theorem dX0_forward_10 : decode cX0_forward 10 = .ok (.aload_n 0, 1) := by decide +kernel
theorem dX0_forward_11 : decode cX0_forward 11 = .ok (.getfield 32, 3) := by decide +kernel
theorem dX0_forward_14 : decode cX0_forward 14 = .ok (.iload_n 1, 1) := by decide +kernel
theorem dX0_forward_15 : decode cX0_forward 15 = .ok (.aaload, 1) := by decide +kernel
theorem dX0_forward_16 : decode cX0_forward 16 = .ok (.iload_n 2, 1) := by decide +kernel
theorem dX0_forward_17 : decode cX0_forward 17 = .ok (.daload, 1) := by decide +kernel
theorem dX0_forward_18 : decode cX0_forward 18 = .ok (.dreturn, 1) := by decide +kernel
set_option maxRecDepth 20000 in
theorem ggX0_backward_X0_refuseWrongPlaceOrState : GoodIn wsX0_backward wsX0_refuseWrongPlaceOrState := goodIn_ca (goodIn_ca (goodIn_r _ [6, 7, 8, 9, 10, 11, 12, 13, 5, 14, 15, 16, 17, 18, 19, 20, 32, 33, 34, 35, 36, 37, 38, 39, 40, 41, 42] (by decide +kernel) (by decide +kernel)) (goodIn_sub (fun _ h => List.mem_cons_of_mem _ (List.mem_append_left _ (List.mem_append_right _ h))) (by decide +kernel))) (goodIn_sub (fun _ h => List.mem_cons_of_mem _ (List.mem_append_right _ h)) (by decide +kernel))
set_option maxRecDepth 20000 in
theorem gX0_backward_X0_refuseWrongPlaceOrState : GoodIn wsX0_backward (wsV RX0 65 RX0 yX0_refuseWrongPlaceOrState wsX0_refuseWrongPlaceOrState) := goodIn_app (goodIn_of _ (by decide +kernel)) ggX0_backward_X0_refuseWrongPlaceOrState
set_option maxRecDepth 20000 in
theorem ggX0_backward_X0_fillBackward : GoodIn wsX0_backward wsX0_fillBackward := goodIn_ca (goodIn_r _ [24, 15, 20, 1, 25, 26, 27, 5, 28, 29, 30, 31, 32, 33, 34, 35, 36, 37, 38, 39, 40, 41, 42] (by decide +kernel) (by decide +kernel)) (goodIn_sub (fun _ h => List.mem_cons_of_mem _ (List.mem_append_left _ (List.mem_append_left _ (List.mem_append_right _ h)))) (by decide +kernel))
set_option maxRecDepth 20000 in
theorem gX0_backward_X0_fillBackward : GoodIn wsX0_backward (wsV RX0 72 RX0 yX0_fillBackward wsX0_fillBackward) := goodIn_app (goodIn_of _ (by decide +kernel)) ggX0_backward_X0_fillBackward
theorem dX0_backward_0 : decode cX0_backward 0 = .ok (.aload_n 0, 1) := by decide +kernel
theorem dX0_backward_1 : decode cX0_backward 1 = .ok (.iload_n 1, 1) := by decide +kernel
theorem dX0_backward_2 : decode cX0_backward 2 = .ok (.iload_n 2, 1) := by decide +kernel
theorem dX0_backward_3 : decode cX0_backward 3 = .ok (.invokevirtual 65, 3) := by decide +kernel
theorem dX0_backward_6 : decode cX0_backward 6 = .ok (.aload_n 0, 1) := by decide +kernel
theorem dX0_backward_7 : decode cX0_backward 7 = .ok (.invokevirtual 72, 3) := by decide +kernel
theorem dX0_backward_10 : decode cX0_backward 10 = .ok (.aload_n 0, 1) := by decide +kernel
theorem dX0_backward_11 : decode cX0_backward 11 = .ok (.getfield 35, 3) := by decide +kernel
theorem dX0_backward_14 : decode cX0_backward 14 = .ok (.iload_n 1, 1) := by decide +kernel
theorem dX0_backward_15 : decode cX0_backward 15 = .ok (.aaload, 1) := by decide +kernel
theorem dX0_backward_16 : decode cX0_backward 16 = .ok (.iload_n 2, 1) := by decide +kernel
theorem dX0_backward_17 : decode cX0_backward 17 = .ok (.daload, 1) := by decide +kernel
theorem dX0_backward_18 : decode cX0_backward 18 = .ok (.dreturn, 1) := by decide +kernel
set_option maxRecDepth 20000 in
theorem ggX0_total_X0_fillForward : GoodIn wsX0_total wsX0_fillForward := goodIn_ca (goodIn_r _ [6, 1, 7, 8, 9, 10, 11, 12, 13, 5, 14, 15, 16, 21, 22, 23, 24, 25, 26, 27, 28, 29, 30, 31] (by decide +kernel) (by decide +kernel)) (goodIn_sub (fun _ h => List.mem_cons_of_mem _ (List.mem_append_right _ h)) (by decide +kernel))
set_option maxRecDepth 20000 in
theorem gX0_total_X0_fillForward : GoodIn wsX0_total (wsV RX0 69 RX0 yX0_fillForward wsX0_fillForward) := goodIn_app (goodIn_of _ (by decide +kernel)) ggX0_total_X0_fillForward
set_option maxRecDepth 20000 in
theorem ggX0_total_X0_sumOfLastForward : GoodIn wsX0_total wsX0_sumOfLastForward := goodIn_ca (goodIn_r _ [20, 8, 9, 1, 21, 22, 23, 24, 25, 26, 27, 28, 29, 30, 31] (by decide +kernel) (by decide +kernel)) (goodIn_sub (fun _ h => List.mem_cons_of_mem _ (List.mem_append_right _ h)) (by decide +kernel))
set_option maxRecDepth 20000 in
theorem gX0_total_X0_sumOfLastForward : GoodIn wsX0_total (wsV RX0 75 RX0 yX0_sumOfLastForward wsX0_sumOfLastForward) := goodIn_app (goodIn_of _ (by decide +kernel)) ggX0_total_X0_sumOfLastForward
theorem dX0_total_0 : decode cX0_total 0 = .ok (.aload_n 0, 1) := by decide +kernel
theorem dX0_total_1 : decode cX0_total 1 = .ok (.getfield 29, 3) := by decide +kernel
theorem dX0_total_4 : decode cX0_total 4 = .ok (.ifCond .ne 5, 3) := by decide +kernel
theorem dX0_total_7 : decode cX0_total 7 = .ok (.dconst 1, 1) := by decide +kernel
theorem dX0_total_8 : decode cX0_total 8 = .ok (.dreturn, 1) := by decide +kernel
theorem dX0_total_9 : decode cX0_total 9 = .ok (.aload_n 0, 1) := by decide +kernel
theorem dX0_total_10 : decode cX0_total 10 = .ok (.invokevirtual 69, 3) := by decide +kernel
theorem dX0_total_13 : decode cX0_total 13 = .ok (.aload_n 0, 1) := by decide +kernel
theorem dX0_total_14 : decode cX0_total 14 = .ok (.invokevirtual 75, 3) := by decide +kernel
theorem dX0_total_17 : decode cX0_total 17 = .ok (.dreturn, 1) := by decide +kernel
set_option maxRecDepth 20000 in
theorem ggX0_best_X0_fillBest : GoodIn wsX0_best wsX0_fillBest := goodIn_ca (goodIn_r _ [7, 1, 8, 9, 2, 10, 11, 12, 13, 6, 14, 15, 16, 17, 22, 23, 24, 25, 26, 27, 28, 29, 30, 31, 32] (by decide +kernel) (by decide +kernel)) (goodIn_sub (fun _ h => List.mem_cons_of_mem _ (List.mem_append_right _ h)) (by decide +kernel))
set_option maxRecDepth 20000 in
theorem gX0_best_X0_fillBest : GoodIn wsX0_best (wsV RX0 79 RX0 yX0_fillBest wsX0_fillBest) := goodIn_app (goodIn_of _ (by decide +kernel)) ggX0_best_X0_fillBest
set_option maxRecDepth 20000 in
theorem ggX0_best_X0_lastBestState : GoodIn wsX0_best wsX0_lastBestState := goodIn_ca (goodIn_r _ [21, 9, 2, 1, 22, 23, 24, 25, 26, 27, 28, 29, 30, 31, 32] (by decide +kernel) (by decide +kernel)) (goodIn_sub (fun _ h => List.mem_cons_of_mem _ (List.mem_append_right _ h)) (by decide +kernel))
set_option maxRecDepth 20000 in
theorem gX0_best_X0_lastBestState : GoodIn wsX0_best (wsV RX0 82 RX0 yX0_lastBestState wsX0_lastBestState) := goodIn_app (goodIn_of _ (by decide +kernel)) ggX0_best_X0_lastBestState
theorem dX0_best_0 : decode cX0_best 0 = .ok (.aload_n 0, 1) := by decide +kernel
theorem dX0_best_1 : decode cX0_best 1 = .ok (.getfield 29, 3) := by decide +kernel
theorem dX0_best_4 : decode cX0_best 4 = .ok (.ifCond .ne 5, 3) := by decide +kernel
theorem dX0_best_7 : decode cX0_best 7 = .ok (.dconst 1, 1) := by decide +kernel
theorem dX0_best_8 : decode cX0_best 8 = .ok (.dreturn, 1) := by decide +kernel
theorem dX0_best_9 : decode cX0_best 9 = .ok (.aload_n 0, 1) := by decide +kernel
theorem dX0_best_10 : decode cX0_best 10 = .ok (.invokevirtual 79, 3) := by decide +kernel
theorem dX0_best_13 : decode cX0_best 13 = .ok (.aload_n 0, 1) := by decide +kernel
theorem dX0_best_14 : decode cX0_best 14 = .ok (.getfield 38, 3) := by decide +kernel
theorem dX0_best_17 : decode cX0_best 17 = .ok (.aload_n 0, 1) := by decide +kernel
theorem dX0_best_18 : decode cX0_best 18 = .ok (.getfield 29, 3) := by decide +kernel
theorem dX0_best_21 : decode cX0_best 21 = .ok (.iconst 1, 1) := by decide +kernel
theorem dX0_best_22 : decode cX0_best 22 = .ok (.isub, 1) := by decide +kernel
theorem dX0_best_23 : decode cX0_best 23 = .ok (.aaload, 1) := by decide +kernel
theorem dX0_best_24 : decode cX0_best 24 = .ok (.aload_n 0, 1) := by decide +kernel
theorem dX0_best_25 : decode cX0_best 25 = .ok (.invokevirtual 82, 3) := by decide +kernel
theorem dX0_best_28 : decode cX0_best 28 = .ok (.daload, 1) := by decide +kernel
theorem dX0_best_29 : decode cX0_best 29 = .ok (.dreturn, 1) := by decide +kernel
set_option maxRecDepth 20000 in
theorem ggX0_bestState_X0_isPlace : GoodIn wsX0_bestState wsX0_isPlace := goodIn_r _ [7, 1, 26, 27, 28, 29, 30, 31, 32, 33, 34, 35, 36] (by decide +kernel) (by decide +kernel)
set_option maxRecDepth 20000 in
theorem gX0_bestState_X0_isPlace : GoodIn wsX0_bestState (wsV RX0 86 RX0 yX0_isPlace wsX0_isPlace) := goodIn_app (goodIn_of _ (by decide +kernel)) ggX0_bestState_X0_isPlace
set_option maxRecDepth 20000 in
theorem ggX0_bestState_X0_fillBest : GoodIn wsX0_bestState wsX0_fillBest := goodIn_ca (goodIn_r _ [11, 1, 12, 13, 14, 15, 16, 17, 18, 6, 19, 20, 21, 2, 26, 27, 28, 29, 30, 31, 32, 33, 34, 35, 36] (by decide +kernel) (by decide +kernel)) (goodIn_sub (fun _ h => List.mem_cons_of_mem _ (List.mem_append_right _ h)) (by decide +kernel))
set_option maxRecDepth 20000 in
theorem gX0_bestState_X0_fillBest : GoodIn wsX0_bestState (wsV RX0 79 RX0 yX0_fillBest wsX0_fillBest) := goodIn_app (goodIn_of _ (by decide +kernel)) ggX0_bestState_X0_fillBest
set_option maxRecDepth 20000 in
theorem ggX0_bestState_X0_lastBestState : GoodIn wsX0_bestState wsX0_lastBestState := goodIn_ca (goodIn_r _ [25, 13, 14, 1, 26, 27, 28, 29, 30, 31, 32, 33, 34, 35, 36] (by decide +kernel) (by decide +kernel)) (goodIn_sub (fun _ h => List.mem_cons_of_mem _ (List.mem_append_right _ h)) (by decide +kernel))
set_option maxRecDepth 20000 in
theorem gX0_bestState_X0_lastBestState : GoodIn wsX0_bestState (wsV RX0 82 RX0 yX0_lastBestState wsX0_lastBestState) := goodIn_app (goodIn_of _ (by decide +kernel)) ggX0_bestState_X0_lastBestState
theorem dX0_bestState_0 : decode cX0_bestState 0 = .ok (.aload_n 0, 1) := by decide +kernel
theorem dX0_bestState_1 : decode cX0_bestState 1 = .ok (.iload_n 1, 1) := by decide +kernel
theorem dX0_bestState_2 : decode cX0_bestState 2 = .ok (.invokevirtual 86, 3) := by decide +kernel
theorem dX0_bestState_5 : decode cX0_bestState 5 = .ok (.ifCond .ne 5, 3) := by decide +kernel
theorem dX0_bestState_8 : decode cX0_bestState 8 = .ok (.iconst (-1), 1) := by decide +kernel
theorem dX0_bestState_9 : decode cX0_bestState 9 = .ok (.ireturn, 1) := by decide +kernel
theorem dX0_bestState_10 : decode cX0_bestState 10 = .ok (.aload_n 0, 1) := by decide +kernel
theorem dX0_bestState_11 : decode cX0_bestState 11 = .ok (.invokevirtual 79, 3) := by decide +kernel
theorem dX0_bestState_14 : decode cX0_bestState 14 = .ok (.aload_n 0, 1) := by decide +kernel
theorem dX0_bestState_15 : decode cX0_bestState 15 = .ok (.invokevirtual 82, 3) := by decide +kernel
theorem dX0_bestState_18 : decode cX0_bestState 18 = .ok (.istore_n 2, 1) := by decide +kernel
theorem dX0_bestState_19 : decode cX0_bestState 19 = .ok (.aload_n 0, 1) := by decide +kernel
theorem dX0_bestState_20 : decode cX0_bestState 20 = .ok (.getfield 29, 3) := by decide +kernel
theorem dX0_bestState_23 : decode cX0_bestState 23 = .ok (.iconst 1, 1) := by decide +kernel
theorem dX0_bestState_24 : decode cX0_bestState 24 = .ok (.isub, 1) := by decide +kernel
theorem dX0_bestState_25 : decode cX0_bestState 25 = .ok (.istore_n 3, 1) := by decide +kernel
theorem dX0_bestState_26 : decode cX0_bestState 26 = .ok (.iload_n 3, 1) := by decide +kernel
theorem dX0_bestState_27 : decode cX0_bestState 27 = .ok (.iload_n 1, 1) := by decide +kernel
theorem dX0_bestState_28 : decode cX0_bestState 28 = .ok (.if_icmp .le 18, 3) := by decide +kernel
theorem dX0_bestState_31 : decode cX0_bestState 31 = .ok (.aload_n 0, 1) := by decide +kernel
theorem dX0_bestState_32 : decode cX0_bestState 32 = .ok (.getfield 43, 3) := by decide +kernel
theorem dX0_bestState_35 : decode cX0_bestState 35 = .ok (.iload_n 3, 1) := by decide +kernel
theorem dX0_bestState_36 : decode cX0_bestState 36 = .ok (.aaload, 1) := by decide +kernel
theorem dX0_bestState_37 : decode cX0_bestState 37 = .ok (.iload_n 2, 1) := by decide +kernel
theorem dX0_bestState_38 : decode cX0_bestState 38 = .ok (.iaload, 1) := by decide +kernel
theorem dX0_bestState_39 : decode cX0_bestState 39 = .ok (.istore_n 2, 1) := by decide +kernel
theorem dX0_bestState_40 : decode cX0_bestState 40 = .ok (.iinc 3 (-1), 3) := by decide +kernel
theorem dX0_bestState_43 : decode cX0_bestState 43 = .ok (.goto (-17), 3) := by decide +kernel
theorem dX0_bestState_46 : decode cX0_bestState 46 = .ok (.iload_n 2, 1) := by decide +kernel
theorem dX0_bestState_47 : decode cX0_bestState 47 = .ok (.ireturn, 1) := by decide +kernel
set_option maxRecDepth 20000 in
theorem ggX0_share_X0_refuseWrongPlaceOrState : GoodIn wsX0_share wsX0_refuseWrongPlaceOrState := goodIn_ca (goodIn_ca (goodIn_r _ [9, 10, 11, 12, 13, 14, 15, 16, 8, 17, 18, 19, 20, 21, 22, 23, 48, 49, 50, 51, 52, 53, 54, 55, 56, 57, 58] (by decide +kernel) (by decide +kernel)) (goodIn_sub (fun _ h => List.mem_cons_of_mem _ (List.mem_append_left _ (List.mem_append_right _ h))) (by decide +kernel))) (goodIn_sub (fun _ h => List.mem_cons_of_mem _ (List.mem_append_right _ h)) (by decide +kernel))
set_option maxRecDepth 20000 in
theorem gX0_share_X0_refuseWrongPlaceOrState : GoodIn wsX0_share (wsV RX0 65 RX0 yX0_refuseWrongPlaceOrState wsX0_refuseWrongPlaceOrState) := goodIn_app (goodIn_of _ (by decide +kernel)) ggX0_share_X0_refuseWrongPlaceOrState
set_option maxRecDepth 20000 in
theorem ggX0_share_X0_fillForward : GoodIn wsX0_share wsX0_fillForward := goodIn_ca (goodIn_r _ [27, 18, 28, 23, 3, 29, 30, 31, 32, 8, 33, 34, 35, 48, 49, 50, 51, 52, 53, 54, 55, 56, 57, 58] (by decide +kernel) (by decide +kernel)) (goodIn_sub (fun _ h => List.mem_cons_of_mem _ (List.mem_append_left _ (List.mem_append_left _ (List.mem_append_right _ h)))) (by decide +kernel))
set_option maxRecDepth 20000 in
theorem gX0_share_X0_fillForward : GoodIn wsX0_share (wsV RX0 69 RX0 yX0_fillForward wsX0_fillForward) := goodIn_app (goodIn_of _ (by decide +kernel)) ggX0_share_X0_fillForward
set_option maxRecDepth 20000 in
theorem ggX0_share_X0_sumOfLastForward : GoodIn wsX0_share wsX0_sumOfLastForward := goodIn_ca (goodIn_r _ [39, 23, 3, 18, 48, 49, 50, 51, 52, 53, 54, 55, 56, 57, 58] (by decide +kernel) (by decide +kernel)) (goodIn_sub (fun _ h => List.mem_cons_of_mem _ (List.mem_append_left _ (List.mem_append_left _ (List.mem_append_right _ h)))) (by decide +kernel))
set_option maxRecDepth 20000 in
theorem gX0_share_X0_sumOfLastForward : GoodIn wsX0_share (wsV RX0 75 RX0 yX0_sumOfLastForward wsX0_sumOfLastForward) := goodIn_app (goodIn_of _ (by decide +kernel)) ggX0_share_X0_sumOfLastForward
set_option maxRecDepth 20000 in
theorem ggX0_share_X0_fillBackward : GoodIn wsX0_share wsX0_fillBackward := goodIn_ca (goodIn_r _ [43, 18, 23, 4, 44, 45, 46, 8, 47, 28, 35, 29, 48, 49, 50, 51, 52, 53, 54, 55, 56, 57, 58] (by decide +kernel) (by decide +kernel)) (goodIn_sub (fun _ h => List.mem_cons_of_mem _ (List.mem_append_left _ (List.mem_append_left _ (List.mem_append_right _ h)))) (by decide +kernel))
set_option maxRecDepth 20000 in
theorem gX0_share_X0_fillBackward : GoodIn wsX0_share (wsV RX0 72 RX0 yX0_fillBackward wsX0_fillBackward) := goodIn_app (goodIn_of _ (by decide +kernel)) ggX0_share_X0_fillBackward
theorem dX0_share_0 : decode cX0_share 0 = .ok (.aload_n 0, 1) := by decide +kernel
theorem dX0_share_1 : decode cX0_share 1 = .ok (.iload_n 1, 1) := by decide +kernel
theorem dX0_share_2 : decode cX0_share 2 = .ok (.iload_n 2, 1) := by decide +kernel
theorem dX0_share_3 : decode cX0_share 3 = .ok (.invokevirtual 65, 3) := by decide +kernel
theorem dX0_share_6 : decode cX0_share 6 = .ok (.aload_n 0, 1) := by decide +kernel
theorem dX0_share_7 : decode cX0_share 7 = .ok (.invokevirtual 69, 3) := by decide +kernel
theorem dX0_share_10 : decode cX0_share 10 = .ok (.aload_n 0, 1) := by decide +kernel
theorem dX0_share_11 : decode cX0_share 11 = .ok (.invokevirtual 75, 3) := by decide +kernel
theorem dX0_share_14 : decode cX0_share 14 = .ok (.dstore_n 3, 1) := by decide +kernel
theorem dX0_share_15 : decode cX0_share 15 = .ok (.dload_n 3, 1) := by decide +kernel
theorem dX0_share_16 : decode cX0_share 16 = .ok (.dconst 0, 1) := by decide +kernel
theorem dX0_share_17 : decode cX0_share 17 = .ok (.dcmp .l, 1) := by decide +kernel
theorem dX0_share_18 : decode cX0_share 18 = .ok (.ifCond .ne 13, 3) := by decide +kernel
theorem dX0_share_21 : decode cX0_share 21 = .ok (.new 89, 3) := by decide +kernel
theorem dX0_share_24 : decode cX0_share 24 = .ok (.dup, 1) := by decide +kernel
theorem dX0_share_25 : decode cX0_share 25 = .ok (.ldc 91, 2) := by decide +kernel
theorem dX0_share_27 : decode cX0_share 27 = .ok (.invokespecial 93, 3) := by decide +kernel
theorem dX0_share_30 : decode cX0_share 30 = .ok (.athrow, 1) := by decide +kernel
theorem dX0_share_31 : decode cX0_share 31 = .ok (.aload_n 0, 1) := by decide +kernel
theorem dX0_share_32 : decode cX0_share 32 = .ok (.invokevirtual 72, 3) := by decide +kernel
theorem dX0_share_35 : decode cX0_share 35 = .ok (.aload_n 0, 1) := by decide +kernel
theorem dX0_share_36 : decode cX0_share 36 = .ok (.getfield 32, 3) := by decide +kernel
theorem dX0_share_39 : decode cX0_share 39 = .ok (.iload_n 1, 1) := by decide +kernel
theorem dX0_share_40 : decode cX0_share 40 = .ok (.aaload, 1) := by decide +kernel
theorem dX0_share_41 : decode cX0_share 41 = .ok (.iload_n 2, 1) := by decide +kernel
theorem dX0_share_42 : decode cX0_share 42 = .ok (.daload, 1) := by decide +kernel
theorem dX0_share_43 : decode cX0_share 43 = .ok (.aload_n 0, 1) := by decide +kernel
theorem dX0_share_44 : decode cX0_share 44 = .ok (.getfield 35, 3) := by decide +kernel
theorem dX0_share_47 : decode cX0_share 47 = .ok (.iload_n 1, 1) := by decide +kernel
theorem dX0_share_48 : decode cX0_share 48 = .ok (.aaload, 1) := by decide +kernel
theorem dX0_share_49 : decode cX0_share 49 = .ok (.iload_n 2, 1) := by decide +kernel
theorem dX0_share_50 : decode cX0_share 50 = .ok (.daload, 1) := by decide +kernel
theorem dX0_share_51 : decode cX0_share 51 = .ok (.dmul, 1) := by decide +kernel
theorem dX0_share_52 : decode cX0_share 52 = .ok (.dload_n 3, 1) := by decide +kernel
theorem dX0_share_53 : decode cX0_share 53 = .ok (.ddiv, 1) := by decide +kernel
theorem dX0_share_54 : decode cX0_share 54 = .ok (.dreturn, 1) := by decide +kernel
set_option maxRecDepth 20000 in
theorem ggX0_possible_X0_fillWayCounts : GoodIn wsX0_possible wsX0_fillWayCounts := goodIn_ca (goodIn_r _ [8, 1, 9, 2, 3, 10, 11, 12, 13, 7, 14, 15, 16, 17, 18, 19, 20, 21, 22, 23, 24, 25, 26, 27] (by decide +kernel) (by decide +kernel)) (goodIn_sub (fun _ h => List.mem_cons_of_mem _ (List.mem_append_right _ h)) (by decide +kernel))
set_option maxRecDepth 20000 in
theorem gX0_possible_X0_fillWayCounts : GoodIn wsX0_possible (wsV RX0 96 RX0 yX0_fillWayCounts wsX0_fillWayCounts) := goodIn_app (goodIn_of _ (by decide +kernel)) ggX0_possible_X0_fillWayCounts
theorem dX0_possible_0 : decode cX0_possible 0 = .ok (.aload_n 0, 1) := by decide +kernel
theorem dX0_possible_1 : decode cX0_possible 1 = .ok (.getfield 29, 3) := by decide +kernel
theorem dX0_possible_4 : decode cX0_possible 4 = .ok (.ifCond .ne 5, 3) := by decide +kernel
theorem dX0_possible_7 : decode cX0_possible 7 = .ok (.lconst 1, 1) := by decide +kernel
theorem dX0_possible_8 : decode cX0_possible 8 = .ok (.lreturn, 1) := by decide +kernel
theorem dX0_possible_9 : decode cX0_possible 9 = .ok (.aload_n 0, 1) := by decide +kernel
theorem dX0_possible_10 : decode cX0_possible 10 = .ok (.invokevirtual 96, 3) := by decide +kernel
theorem dX0_possible_13 : decode cX0_possible 13 = .ok (.lconst 0, 1) := by decide +kernel
theorem dX0_possible_14 : decode cX0_possible 14 = .ok (.lstore_n 1, 1) := by decide +kernel
theorem dX0_possible_15 : decode cX0_possible 15 = .ok (.iconst 0, 1) := by decide +kernel
theorem dX0_possible_16 : decode cX0_possible 16 = .ok (.istore_n 3, 1) := by decide +kernel
theorem dX0_possible_17 : decode cX0_possible 17 = .ok (.iload_n 3, 1) := by decide +kernel
theorem dX0_possible_18 : decode cX0_possible 18 = .ok (.aload_n 0, 1) := by decide +kernel
theorem dX0_possible_19 : decode cX0_possible 19 = .ok (.getfield 25, 3) := by decide +kernel
theorem dX0_possible_22 : decode cX0_possible 22 = .ok (.if_icmp .ge 25, 3) := by decide +kernel
theorem dX0_possible_25 : decode cX0_possible 25 = .ok (.lload_n 1, 1) := by decide +kernel
theorem dX0_possible_26 : decode cX0_possible 26 = .ok (.aload_n 0, 1) := by decide +kernel
theorem dX0_possible_27 : decode cX0_possible 27 = .ok (.getfield 48, 3) := by decide +kernel
theorem dX0_possible_30 : decode cX0_possible 30 = .ok (.aload_n 0, 1) := by decide +kernel
theorem dX0_possible_31 : decode cX0_possible 31 = .ok (.getfield 29, 3) := by decide +kernel
theorem dX0_possible_34 : decode cX0_possible 34 = .ok (.iconst 1, 1) := by decide +kernel
theorem dX0_possible_35 : decode cX0_possible 35 = .ok (.isub, 1) := by decide +kernel
theorem dX0_possible_36 : decode cX0_possible 36 = .ok (.aaload, 1) := by decide +kernel
theorem dX0_possible_37 : decode cX0_possible 37 = .ok (.iload_n 3, 1) := by decide +kernel
theorem dX0_possible_38 : decode cX0_possible 38 = .ok (.laload, 1) := by decide +kernel
theorem dX0_possible_39 : decode cX0_possible 39 = .ok (.ladd, 1) := by decide +kernel
theorem dX0_possible_40 : decode cX0_possible 40 = .ok (.lstore_n 1, 1) := by decide +kernel
theorem dX0_possible_41 : decode cX0_possible 41 = .ok (.iinc 3 1, 3) := by decide +kernel
theorem dX0_possible_44 : decode cX0_possible 44 = .ok (.goto (-27), 3) := by decide +kernel
theorem dX0_possible_47 : decode cX0_possible 47 = .ok (.lload_n 1, 1) := by decide +kernel
theorem dX0_possible_48 : decode cX0_possible 48 = .ok (.lreturn, 1) := by decide +kernel
theorem dX0_isState_0 : decode cX0_isState 0 = .ok (.iload_n 1, 1) := by decide +kernel
theorem dX0_isState_1 : decode cX0_isState 1 = .ok (.ifCond .lt 15, 3) := by decide +kernel
theorem dX0_isState_4 : decode cX0_isState 4 = .ok (.iload_n 1, 1) := by decide +kernel
theorem dX0_isState_5 : decode cX0_isState 5 = .ok (.aload_n 0, 1) := by decide +kernel
theorem dX0_isState_6 : decode cX0_isState 6 = .ok (.getfield 25, 3) := by decide +kernel
theorem dX0_isState_9 : decode cX0_isState 9 = .ok (.if_icmp .ge 7, 3) := by decide +kernel
theorem dX0_isState_12 : decode cX0_isState 12 = .ok (.iconst 1, 1) := by decide +kernel
theorem dX0_isState_13 : decode cX0_isState 13 = .ok (.goto 4, 3) := by decide +kernel
theorem dX0_isState_16 : decode cX0_isState 16 = .ok (.iconst 0, 1) := by decide +kernel
theorem dX0_isState_17 : decode cX0_isState 17 = .ok (.ireturn, 1) := by decide +kernel
theorem dX0_isPlace_0 : decode cX0_isPlace 0 = .ok (.iload_n 1, 1) := by decide +kernel
theorem dX0_isPlace_1 : decode cX0_isPlace 1 = .ok (.ifCond .lt 15, 3) := by decide +kernel
theorem dX0_isPlace_4 : decode cX0_isPlace 4 = .ok (.iload_n 1, 1) := by decide +kernel
theorem dX0_isPlace_5 : decode cX0_isPlace 5 = .ok (.aload_n 0, 1) := by decide +kernel
theorem dX0_isPlace_6 : decode cX0_isPlace 6 = .ok (.getfield 29, 3) := by decide +kernel
theorem dX0_isPlace_9 : decode cX0_isPlace 9 = .ok (.if_icmp .ge 7, 3) := by decide +kernel
theorem dX0_isPlace_12 : decode cX0_isPlace 12 = .ok (.iconst 1, 1) := by decide +kernel
theorem dX0_isPlace_13 : decode cX0_isPlace 13 = .ok (.goto 4, 3) := by decide +kernel
theorem dX0_isPlace_16 : decode cX0_isPlace 16 = .ok (.iconst 0, 1) := by decide +kernel
theorem dX0_isPlace_17 : decode cX0_isPlace 17 = .ok (.ireturn, 1) := by decide +kernel
theorem dX0_isSymbol_0 : decode cX0_isSymbol 0 = .ok (.iload_n 0, 1) := by decide +kernel
theorem dX0_isSymbol_1 : decode cX0_isSymbol 1 = .ok (.ifCond .lt 12, 3) := by decide +kernel
theorem dX0_isSymbol_4 : decode cX0_isSymbol 4 = .ok (.iload_n 0, 1) := by decide +kernel
theorem dX0_isSymbol_5 : decode cX0_isSymbol 5 = .ok (.iconst 4, 1) := by decide +kernel
theorem dX0_isSymbol_6 : decode cX0_isSymbol 6 = .ok (.if_icmp .ge 7, 3) := by decide +kernel
theorem dX0_isSymbol_9 : decode cX0_isSymbol 9 = .ok (.iconst 1, 1) := by decide +kernel
theorem dX0_isSymbol_10 : decode cX0_isSymbol 10 = .ok (.goto 4, 3) := by decide +kernel
theorem dX0_isSymbol_13 : decode cX0_isSymbol 13 = .ok (.iconst 0, 1) := by decide +kernel
theorem dX0_isSymbol_14 : decode cX0_isSymbol 14 = .ok (.ireturn, 1) := by decide +kernel
theorem dX0_isWeight_0 : decode cX0_isWeight 0 = .ok (.dload_n 0, 1) := by decide +kernel
theorem dX0_isWeight_1 : decode cX0_isWeight 1 = .ok (.dconst 0, 1) := by decide +kernel
theorem dX0_isWeight_2 : decode cX0_isWeight 2 = .ok (.dcmp .l, 1) := by decide +kernel
theorem dX0_isWeight_3 : decode cX0_isWeight 3 = .ok (.ifCond .lt 13, 3) := by decide +kernel
theorem dX0_isWeight_6 : decode cX0_isWeight 6 = .ok (.dload_n 0, 1) := by decide +kernel
theorem dX0_isWeight_7 : decode cX0_isWeight 7 = .ok (.dconst 1, 1) := by decide +kernel
theorem dX0_isWeight_8 : decode cX0_isWeight 8 = .ok (.dcmp .g, 1) := by decide +kernel
theorem dX0_isWeight_9 : decode cX0_isWeight 9 = .ok (.ifCond .gt 7, 3) := by decide +kernel
theorem dX0_isWeight_12 : decode cX0_isWeight 12 = .ok (.iconst 1, 1) := by decide +kernel
theorem dX0_isWeight_13 : decode cX0_isWeight 13 = .ok (.goto 4, 3) := by decide +kernel
theorem dX0_isWeight_16 : decode cX0_isWeight 16 = .ok (.iconst 0, 1) := by decide +kernel
theorem dX0_isWeight_17 : decode cX0_isWeight 17 = .ok (.ireturn, 1) := by decide +kernel
set_option maxRecDepth 20000 in
theorem ggX0_refuseWrongPlaceOrState_X0_isPlace : GoodIn wsX0_refuseWrongPlaceOrState wsX0_isPlace := goodIn_r _ [9, 10, 16, 17, 18, 19, 20, 21, 22, 23, 24, 25, 26] (by decide +kernel) (by decide +kernel)
set_option maxRecDepth 20000 in
theorem gX0_refuseWrongPlaceOrState_X0_isPlace : GoodIn wsX0_refuseWrongPlaceOrState (wsV RX0 86 RX0 yX0_isPlace wsX0_isPlace) := goodIn_app (goodIn_of _ (by decide +kernel)) ggX0_refuseWrongPlaceOrState_X0_isPlace
set_option maxRecDepth 20000 in
theorem ggX0_refuseWrongPlaceOrState_X0_isState : GoodIn wsX0_refuseWrongPlaceOrState wsX0_isState := goodIn_r _ [14, 15, 16, 17, 18, 19, 20, 21, 22, 23, 24, 25, 26] (by decide +kernel) (by decide +kernel)
set_option maxRecDepth 20000 in
theorem gX0_refuseWrongPlaceOrState_X0_isState : GoodIn wsX0_refuseWrongPlaceOrState (wsV RX0 54 RX0 yX0_isState wsX0_isState) := goodIn_app (goodIn_of _ (by decide +kernel)) ggX0_refuseWrongPlaceOrState_X0_isState
theorem dX0_refuseWrongPlaceOrState_0 : decode cX0_refuseWrongPlaceOrState 0 = .ok (.aload_n 0, 1) := by decide +kernel
theorem dX0_refuseWrongPlaceOrState_1 : decode cX0_refuseWrongPlaceOrState 1 = .ok (.iload_n 1, 1) := by decide +kernel
theorem dX0_refuseWrongPlaceOrState_2 : decode cX0_refuseWrongPlaceOrState 2 = .ok (.invokevirtual 86, 3) := by decide +kernel
theorem dX0_refuseWrongPlaceOrState_5 : decode cX0_refuseWrongPlaceOrState 5 = .ok (.ifCond .ne 13, 3) := by decide +kernel
theorem dX0_refuseWrongPlaceOrState_8 : decode cX0_refuseWrongPlaceOrState 8 = .ok (.new 99, 3) := by decide +kernel
theorem dX0_refuseWrongPlaceOrState_11 : decode cX0_refuseWrongPlaceOrState 11 = .ok (.dup, 1) := by decide +kernel
theorem dX0_refuseWrongPlaceOrState_12 : decode cX0_refuseWrongPlaceOrState 12 = .ok (.ldc 101, 2) := by decide +kernel
theorem dX0_refuseWrongPlaceOrState_14 : decode cX0_refuseWrongPlaceOrState 14 = .ok (.invokespecial 103, 3) := by decide +kernel
theorem dX0_refuseWrongPlaceOrState_17 : decode cX0_refuseWrongPlaceOrState 17 = .ok (.athrow, 1) := by decide +kernel
theorem dX0_refuseWrongPlaceOrState_18 : decode cX0_refuseWrongPlaceOrState 18 = .ok (.aload_n 0, 1) := by decide +kernel
theorem dX0_refuseWrongPlaceOrState_19 : decode cX0_refuseWrongPlaceOrState 19 = .ok (.iload_n 2, 1) := by decide +kernel
theorem dX0_refuseWrongPlaceOrState_20 : decode cX0_refuseWrongPlaceOrState 20 = .ok (.invokevirtual 54, 3) := by decide +kernel
theorem dX0_refuseWrongPlaceOrState_23 : decode cX0_refuseWrongPlaceOrState 23 = .ok (.ifCond .ne 13, 3) := by decide +kernel
theorem dX0_refuseWrongPlaceOrState_26 : decode cX0_refuseWrongPlaceOrState 26 = .ok (.new 104, 3) := by decide +kernel
theorem dX0_refuseWrongPlaceOrState_29 : decode cX0_refuseWrongPlaceOrState 29 = .ok (.dup, 1) := by decide +kernel
theorem dX0_refuseWrongPlaceOrState_30 : decode cX0_refuseWrongPlaceOrState 30 = .ok (.ldc 106, 2) := by decide +kernel
theorem dX0_refuseWrongPlaceOrState_32 : decode cX0_refuseWrongPlaceOrState 32 = .ok (.invokespecial 108, 3) := by decide +kernel
theorem dX0_refuseWrongPlaceOrState_35 : decode cX0_refuseWrongPlaceOrState 35 = .ok (.athrow, 1) := by decide +kernel
theorem dX0_refuseWrongPlaceOrState_36 : decode cX0_refuseWrongPlaceOrState 36 = .ok (.return_, 1) := by decide +kernel
theorem dX0_clearWeights_0 : decode cX0_clearWeights 0 = .ok (.iconst 0, 1) := by decide +kernel
theorem dX0_clearWeights_1 : decode cX0_clearWeights 1 = .ok (.istore_n 1, 1) := by decide +kernel
theorem dX0_clearWeights_2 : decode cX0_clearWeights 2 = .ok (.iload_n 1, 1) := by decide +kernel
theorem dX0_clearWeights_3 : decode cX0_clearWeights 3 = .ok (.bipush 6, 2) := by decide +kernel
theorem dX0_clearWeights_5 : decode cX0_clearWeights 5 = .ok (.if_icmp .ge 61, 3) := by decide +kernel
theorem dX0_clearWeights_8 : decode cX0_clearWeights 8 = .ok (.aload_n 0, 1) := by decide +kernel
theorem dX0_clearWeights_9 : decode cX0_clearWeights 9 = .ok (.getfield 9, 3) := by decide +kernel
theorem dX0_clearWeights_12 : decode cX0_clearWeights 12 = .ok (.iload_n 1, 1) := by decide +kernel
theorem dX0_clearWeights_13 : decode cX0_clearWeights 13 = .ok (.dconst 0, 1) := by decide +kernel
theorem dX0_clearWeights_14 : decode cX0_clearWeights 14 = .ok (.dastore, 1) := by decide +kernel
theorem dX0_clearWeights_15 : decode cX0_clearWeights 15 = .ok (.iconst 0, 1) := by decide +kernel
theorem dX0_clearWeights_16 : decode cX0_clearWeights 16 = .ok (.istore_n 2, 1) := by decide +kernel
theorem dX0_clearWeights_17 : decode cX0_clearWeights 17 = .ok (.iload_n 2, 1) := by decide +kernel
theorem dX0_clearWeights_18 : decode cX0_clearWeights 18 = .ok (.bipush 6, 2) := by decide +kernel
theorem dX0_clearWeights_20 : decode cX0_clearWeights 20 = .ok (.if_icmp .ge 18, 3) := by decide +kernel
theorem dX0_clearWeights_23 : decode cX0_clearWeights 23 = .ok (.aload_n 0, 1) := by decide +kernel
theorem dX0_clearWeights_24 : decode cX0_clearWeights 24 = .ok (.getfield 15, 3) := by decide +kernel
theorem dX0_clearWeights_27 : decode cX0_clearWeights 27 = .ok (.iload_n 1, 1) := by decide +kernel
theorem dX0_clearWeights_28 : decode cX0_clearWeights 28 = .ok (.aaload, 1) := by decide +kernel
theorem dX0_clearWeights_29 : decode cX0_clearWeights 29 = .ok (.iload_n 2, 1) := by decide +kernel
theorem dX0_clearWeights_30 : decode cX0_clearWeights 30 = .ok (.dconst 0, 1) := by decide +kernel
theorem dX0_clearWeights_31 : decode cX0_clearWeights 31 = .ok (.dastore, 1) := by decide +kernel
theorem dX0_clearWeights_32 : decode cX0_clearWeights 32 = .ok (.iinc 2 1, 3) := by decide +kernel
theorem dX0_clearWeights_35 : decode cX0_clearWeights 35 = .ok (.goto (-18), 3) := by decide +kernel
theorem dX0_clearWeights_38 : decode cX0_clearWeights 38 = .ok (.iconst 0, 1) := by decide +kernel
theorem dX0_clearWeights_39 : decode cX0_clearWeights 39 = .ok (.istore_n 2, 1) := by decide +kernel
theorem dX0_clearWeights_40 : decode cX0_clearWeights 40 = .ok (.iload_n 2, 1) := by decide +kernel
theorem dX0_clearWeights_41 : decode cX0_clearWeights 41 = .ok (.iconst 4, 1) := by decide +kernel
theorem dX0_clearWeights_42 : decode cX0_clearWeights 42 = .ok (.if_icmp .ge 18, 3) := by decide +kernel
theorem dX0_clearWeights_45 : decode cX0_clearWeights 45 = .ok (.aload_n 0, 1) := by decide +kernel
theorem dX0_clearWeights_46 : decode cX0_clearWeights 46 = .ok (.getfield 18, 3) := by decide +kernel
theorem dX0_clearWeights_49 : decode cX0_clearWeights 49 = .ok (.iload_n 1, 1) := by decide +kernel
theorem dX0_clearWeights_50 : decode cX0_clearWeights 50 = .ok (.aaload, 1) := by decide +kernel
theorem dX0_clearWeights_51 : decode cX0_clearWeights 51 = .ok (.iload_n 2, 1) := by decide +kernel
theorem dX0_clearWeights_52 : decode cX0_clearWeights 52 = .ok (.dconst 0, 1) := by decide +kernel
theorem dX0_clearWeights_53 : decode cX0_clearWeights 53 = .ok (.dastore, 1) := by decide +kernel
theorem dX0_clearWeights_54 : decode cX0_clearWeights 54 = .ok (.iinc 2 1, 3) := by decide +kernel
theorem dX0_clearWeights_57 : decode cX0_clearWeights 57 = .ok (.goto (-17), 3) := by decide +kernel
theorem dX0_clearWeights_60 : decode cX0_clearWeights 60 = .ok (.iinc 1 1, 3) := by decide +kernel
theorem dX0_clearWeights_63 : decode cX0_clearWeights 63 = .ok (.goto (-61), 3) := by decide +kernel
theorem dX0_clearWeights_66 : decode cX0_clearWeights 66 = .ok (.return_, 1) := by decide +kernel
set_option maxRecDepth 20000 in
theorem ggX0_fillForward_X0_forwardInto : GoodIn wsX0_fillForward wsX0_forwardInto := goodIn_ca (goodIn_r _ [10, 11, 3, 4, 12, 13, 14, 15, 16, 17, 18, 19, 20, 21, 22, 23] (by decide +kernel) (by decide +kernel)) (goodIn_sub (fun _ h => List.mem_cons_of_mem _ (List.mem_append_right _ h)) (by decide +kernel))
set_option maxRecDepth 20000 in
theorem gX0_fillForward_X0_forwardInto : GoodIn wsX0_fillForward (wsV RX0 109 RX0 yX0_forwardInto wsX0_forwardInto) := goodIn_app (goodIn_of _ (by decide +kernel)) ggX0_fillForward_X0_forwardInto
theorem dX0_fillForward_0 : decode cX0_fillForward 0 = .ok (.iconst 0, 1) := by decide +kernel
theorem dX0_fillForward_1 : decode cX0_fillForward 1 = .ok (.istore_n 1, 1) := by decide +kernel
theorem dX0_fillForward_2 : decode cX0_fillForward 2 = .ok (.iload_n 1, 1) := by decide +kernel
theorem dX0_fillForward_3 : decode cX0_fillForward 3 = .ok (.aload_n 0, 1) := by decide +kernel
theorem dX0_fillForward_4 : decode cX0_fillForward 4 = .ok (.getfield 29, 3) := by decide +kernel
theorem dX0_fillForward_7 : decode cX0_fillForward 7 = .ok (.if_icmp .ge 55, 3) := by decide +kernel
theorem dX0_fillForward_10 : decode cX0_fillForward 10 = .ok (.aload_n 0, 1) := by decide +kernel
theorem dX0_fillForward_11 : decode cX0_fillForward 11 = .ok (.getfield 21, 3) := by decide +kernel
theorem dX0_fillForward_14 : decode cX0_fillForward 14 = .ok (.iload_n 1, 1) := by decide +kernel
theorem dX0_fillForward_15 : decode cX0_fillForward 15 = .ok (.iaload, 1) := by decide +kernel
theorem dX0_fillForward_16 : decode cX0_fillForward 16 = .ok (.istore_n 2, 1) := by decide +kernel
theorem dX0_fillForward_17 : decode cX0_fillForward 17 = .ok (.iconst 0, 1) := by decide +kernel
theorem dX0_fillForward_18 : decode cX0_fillForward 18 = .ok (.istore_n 3, 1) := by decide +kernel
theorem dX0_fillForward_19 : decode cX0_fillForward 19 = .ok (.iload_n 3, 1) := by decide +kernel
theorem dX0_fillForward_20 : decode cX0_fillForward 20 = .ok (.aload_n 0, 1) := by decide +kernel
theorem dX0_fillForward_21 : decode cX0_fillForward 21 = .ok (.getfield 25, 3) := by decide +kernel
theorem dX0_fillForward_24 : decode cX0_fillForward 24 = .ok (.if_icmp .ge 32, 3) := by decide +kernel
theorem dX0_fillForward_27 : decode cX0_fillForward 27 = .ok (.aload_n 0, 1) := by decide +kernel
theorem dX0_fillForward_28 : decode cX0_fillForward 28 = .ok (.getfield 32, 3) := by decide +kernel
theorem dX0_fillForward_31 : decode cX0_fillForward 31 = .ok (.iload_n 1, 1) := by decide +kernel
theorem dX0_fillForward_32 : decode cX0_fillForward 32 = .ok (.aaload, 1) := by decide +kernel
theorem dX0_fillForward_33 : decode cX0_fillForward 33 = .ok (.iload_n 3, 1) := by decide +kernel
theorem dX0_fillForward_34 : decode cX0_fillForward 34 = .ok (.aload_n 0, 1) := by decide +kernel
theorem dX0_fillForward_35 : decode cX0_fillForward 35 = .ok (.iload_n 1, 1) := by decide +kernel
theorem dX0_fillForward_36 : decode cX0_fillForward 36 = .ok (.iload_n 3, 1) := by decide +kernel
theorem dX0_fillForward_37 : decode cX0_fillForward 37 = .ok (.invokevirtual 109, 3) := by decide +kernel
theorem dX0_fillForward_40 : decode cX0_fillForward 40 = .ok (.aload_n 0, 1) := by decide +kernel
theorem dX0_fillForward_41 : decode cX0_fillForward 41 = .ok (.getfield 18, 3) := by decide +kernel
theorem dX0_fillForward_44 : decode cX0_fillForward 44 = .ok (.iload_n 3, 1) := by decide +kernel
theorem dX0_fillForward_45 : decode cX0_fillForward 45 = .ok (.aaload, 1) := by decide +kernel
theorem dX0_fillForward_46 : decode cX0_fillForward 46 = .ok (.iload_n 2, 1) := by decide +kernel
theorem dX0_fillForward_47 : decode cX0_fillForward 47 = .ok (.daload, 1) := by decide +kernel
theorem dX0_fillForward_48 : decode cX0_fillForward 48 = .ok (.dmul, 1) := by decide +kernel
theorem dX0_fillForward_49 : decode cX0_fillForward 49 = .ok (.dastore, 1) := by decide +kernel
theorem dX0_fillForward_50 : decode cX0_fillForward 50 = .ok (.iinc 3 1, 3) := by decide +kernel
theorem dX0_fillForward_53 : decode cX0_fillForward 53 = .ok (.goto (-34), 3) := by decide +kernel
theorem dX0_fillForward_56 : decode cX0_fillForward 56 = .ok (.iinc 1 1, 3) := by decide +kernel
theorem dX0_fillForward_59 : decode cX0_fillForward 59 = .ok (.goto (-57), 3) := by decide +kernel
theorem dX0_fillForward_62 : decode cX0_fillForward 62 = .ok (.return_, 1) := by decide +kernel
theorem dX0_forwardInto_0 : decode cX0_forwardInto 0 = .ok (.iload_n 1, 1) := by decide +kernel
theorem dX0_forwardInto_1 : decode cX0_forwardInto 1 = .ok (.ifCond .ne 10, 3) := by decide +kernel
theorem dX0_forwardInto_4 : decode cX0_forwardInto 4 = .ok (.aload_n 0, 1) := by decide +kernel
theorem dX0_forwardInto_5 : decode cX0_forwardInto 5 = .ok (.getfield 9, 3) := by decide +kernel
theorem dX0_forwardInto_8 : decode cX0_forwardInto 8 = .ok (.iload_n 2, 1) := by decide +kernel
theorem dX0_forwardInto_9 : decode cX0_forwardInto 9 = .ok (.daload, 1) := by decide +kernel
theorem dX0_forwardInto_10 : decode cX0_forwardInto 10 = .ok (.dreturn, 1) := by decide +kernel
theorem dX0_forwardInto_11 : decode cX0_forwardInto 11 = .ok (.dconst 0, 1) := by decide +kernel
theorem dX0_forwardInto_12 : decode cX0_forwardInto 12 = .ok (.dstore_n 3, 1) := by decide +kernel
theorem dX0_forwardInto_13 : decode cX0_forwardInto 13 = .ok (.iconst 0, 1) := by decide +kernel
theorem dX0_forwardInto_14 : decode cX0_forwardInto 14 = .ok (.istore 5, 2) := by decide +kernel
theorem dX0_forwardInto_16 : decode cX0_forwardInto 16 = .ok (.iload 5, 2) := by decide +kernel
theorem dX0_forwardInto_18 : decode cX0_forwardInto 18 = .ok (.aload_n 0, 1) := by decide +kernel
theorem dX0_forwardInto_19 : decode cX0_forwardInto 19 = .ok (.getfield 25, 3) := by decide +kernel
theorem dX0_forwardInto_22 : decode cX0_forwardInto 22 = .ok (.if_icmp .ge 33, 3) := by decide +kernel
theorem dX0_forwardInto_25 : decode cX0_forwardInto 25 = .ok (.dload_n 3, 1) := by decide +kernel
theorem dX0_forwardInto_26 : decode cX0_forwardInto 26 = .ok (.aload_n 0, 1) := by decide +kernel
theorem dX0_forwardInto_27 : decode cX0_forwardInto 27 = .ok (.getfield 32, 3) := by decide +kernel
theorem dX0_forwardInto_30 : decode cX0_forwardInto 30 = .ok (.iload_n 1, 1) := by decide +kernel
theorem dX0_forwardInto_31 : decode cX0_forwardInto 31 = .ok (.iconst 1, 1) := by decide +kernel
theorem dX0_forwardInto_32 : decode cX0_forwardInto 32 = .ok (.isub, 1) := by decide +kernel
theorem dX0_forwardInto_33 : decode cX0_forwardInto 33 = .ok (.aaload, 1) := by decide +kernel
theorem dX0_forwardInto_34 : decode cX0_forwardInto 34 = .ok (.iload 5, 2) := by decide +kernel
theorem dX0_forwardInto_36 : decode cX0_forwardInto 36 = .ok (.daload, 1) := by decide +kernel
theorem dX0_forwardInto_37 : decode cX0_forwardInto 37 = .ok (.aload_n 0, 1) := by decide +kernel
theorem dX0_forwardInto_38 : decode cX0_forwardInto 38 = .ok (.getfield 15, 3) := by decide +kernel
theorem dX0_forwardInto_41 : decode cX0_forwardInto 41 = .ok (.iload 5, 2) := by decide +kernel
theorem dX0_forwardInto_43 : decode cX0_forwardInto 43 = .ok (.aaload, 1) := by decide +kernel
theorem dX0_forwardInto_44 : decode cX0_forwardInto 44 = .ok (.iload_n 2, 1) := by decide +kernel
theorem dX0_forwardInto_45 : decode cX0_forwardInto 45 = .ok (.daload, 1) := by decide +kernel
theorem dX0_forwardInto_46 : decode cX0_forwardInto 46 = .ok (.dmul, 1) := by decide +kernel
theorem dX0_forwardInto_47 : decode cX0_forwardInto 47 = .ok (.dadd, 1) := by decide +kernel
theorem dX0_forwardInto_48 : decode cX0_forwardInto 48 = .ok (.dstore_n 3, 1) := by decide +kernel
theorem dX0_forwardInto_49 : decode cX0_forwardInto 49 = .ok (.iinc 5 1, 3) := by decide +kernel
theorem dX0_forwardInto_52 : decode cX0_forwardInto 52 = .ok (.goto (-36), 3) := by decide +kernel
theorem dX0_forwardInto_55 : decode cX0_forwardInto 55 = .ok (.dload_n 3, 1) := by decide +kernel
theorem dX0_forwardInto_56 : decode cX0_forwardInto 56 = .ok (.dreturn, 1) := by decide +kernel
theorem dX0_sumOfLastForward_0 : decode cX0_sumOfLastForward 0 = .ok (.dconst 0, 1) := by decide +kernel
theorem dX0_sumOfLastForward_1 : decode cX0_sumOfLastForward 1 = .ok (.dstore_n 1, 1) := by decide +kernel
theorem dX0_sumOfLastForward_2 : decode cX0_sumOfLastForward 2 = .ok (.iconst 0, 1) := by decide +kernel
theorem dX0_sumOfLastForward_3 : decode cX0_sumOfLastForward 3 = .ok (.istore_n 3, 1) := by decide +kernel
theorem dX0_sumOfLastForward_4 : decode cX0_sumOfLastForward 4 = .ok (.iload_n 3, 1) := by decide +kernel
theorem dX0_sumOfLastForward_5 : decode cX0_sumOfLastForward 5 = .ok (.aload_n 0, 1) := by decide +kernel
theorem dX0_sumOfLastForward_6 : decode cX0_sumOfLastForward 6 = .ok (.getfield 25, 3) := by decide +kernel
theorem dX0_sumOfLastForward_9 : decode cX0_sumOfLastForward 9 = .ok (.if_icmp .ge 25, 3) := by decide +kernel
theorem dX0_sumOfLastForward_12 : decode cX0_sumOfLastForward 12 = .ok (.dload_n 1, 1) := by decide +kernel
theorem dX0_sumOfLastForward_13 : decode cX0_sumOfLastForward 13 = .ok (.aload_n 0, 1) := by decide +kernel
theorem dX0_sumOfLastForward_14 : decode cX0_sumOfLastForward 14 = .ok (.getfield 32, 3) := by decide +kernel
theorem dX0_sumOfLastForward_17 : decode cX0_sumOfLastForward 17 = .ok (.aload_n 0, 1) := by decide +kernel
theorem dX0_sumOfLastForward_18 : decode cX0_sumOfLastForward 18 = .ok (.getfield 29, 3) := by decide +kernel
theorem dX0_sumOfLastForward_21 : decode cX0_sumOfLastForward 21 = .ok (.iconst 1, 1) := by decide +kernel
theorem dX0_sumOfLastForward_22 : decode cX0_sumOfLastForward 22 = .ok (.isub, 1) := by decide +kernel
theorem dX0_sumOfLastForward_23 : decode cX0_sumOfLastForward 23 = .ok (.aaload, 1) := by decide +kernel
theorem dX0_sumOfLastForward_24 : decode cX0_sumOfLastForward 24 = .ok (.iload_n 3, 1) := by decide +kernel
theorem dX0_sumOfLastForward_25 : decode cX0_sumOfLastForward 25 = .ok (.daload, 1) := by decide +kernel
theorem dX0_sumOfLastForward_26 : decode cX0_sumOfLastForward 26 = .ok (.dadd, 1) := by decide +kernel
theorem dX0_sumOfLastForward_27 : decode cX0_sumOfLastForward 27 = .ok (.dstore_n 1, 1) := by decide +kernel
theorem dX0_sumOfLastForward_28 : decode cX0_sumOfLastForward 28 = .ok (.iinc 3 1, 3) := by decide +kernel
theorem dX0_sumOfLastForward_31 : decode cX0_sumOfLastForward 31 = .ok (.goto (-27), 3) := by decide +kernel
theorem dX0_sumOfLastForward_34 : decode cX0_sumOfLastForward 34 = .ok (.dload_n 1, 1) := by decide +kernel
theorem dX0_sumOfLastForward_35 : decode cX0_sumOfLastForward 35 = .ok (.dreturn, 1) := by decide +kernel
set_option maxRecDepth 20000 in
theorem ggX0_fillBackward_X0_backwardFrom : GoodIn wsX0_fillBackward wsX0_backwardFrom := goodIn_ca (goodIn_r _ [8, 1, 9, 2, 10, 11, 3, 12, 13, 14, 15, 16, 17, 18, 19, 20, 21, 22] (by decide +kernel) (by decide +kernel)) (goodIn_sub (fun _ h => List.mem_cons_of_mem _ (List.mem_append_right _ h)) (by decide +kernel))
set_option maxRecDepth 20000 in
theorem gX0_fillBackward_X0_backwardFrom : GoodIn wsX0_fillBackward (wsV RX0 113 RX0 yX0_backwardFrom wsX0_backwardFrom) := goodIn_app (goodIn_of _ (by decide +kernel)) ggX0_fillBackward_X0_backwardFrom
theorem dX0_fillBackward_0 : decode cX0_fillBackward 0 = .ok (.aload_n 0, 1) := by decide +kernel
theorem dX0_fillBackward_1 : decode cX0_fillBackward 1 = .ok (.getfield 29, 3) := by decide +kernel
theorem dX0_fillBackward_4 : decode cX0_fillBackward 4 = .ok (.iconst 1, 1) := by decide +kernel
theorem dX0_fillBackward_5 : decode cX0_fillBackward 5 = .ok (.isub, 1) := by decide +kernel
theorem dX0_fillBackward_6 : decode cX0_fillBackward 6 = .ok (.istore_n 1, 1) := by decide +kernel
theorem dX0_fillBackward_7 : decode cX0_fillBackward 7 = .ok (.iload_n 1, 1) := by decide +kernel
theorem dX0_fillBackward_8 : decode cX0_fillBackward 8 = .ok (.ifCond .lt 39, 3) := by decide +kernel
theorem dX0_fillBackward_11 : decode cX0_fillBackward 11 = .ok (.iconst 0, 1) := by decide +kernel
theorem dX0_fillBackward_12 : decode cX0_fillBackward 12 = .ok (.istore_n 2, 1) := by decide +kernel
theorem dX0_fillBackward_13 : decode cX0_fillBackward 13 = .ok (.iload_n 2, 1) := by decide +kernel
theorem dX0_fillBackward_14 : decode cX0_fillBackward 14 = .ok (.aload_n 0, 1) := by decide +kernel
theorem dX0_fillBackward_15 : decode cX0_fillBackward 15 = .ok (.getfield 25, 3) := by decide +kernel
theorem dX0_fillBackward_18 : decode cX0_fillBackward 18 = .ok (.if_icmp .ge 23, 3) := by decide +kernel
theorem dX0_fillBackward_21 : decode cX0_fillBackward 21 = .ok (.aload_n 0, 1) := by decide +kernel
theorem dX0_fillBackward_22 : decode cX0_fillBackward 22 = .ok (.getfield 35, 3) := by decide +kernel
theorem dX0_fillBackward_25 : decode cX0_fillBackward 25 = .ok (.iload_n 1, 1) := by decide +kernel
theorem dX0_fillBackward_26 : decode cX0_fillBackward 26 = .ok (.aaload, 1) := by decide +kernel
theorem dX0_fillBackward_27 : decode cX0_fillBackward 27 = .ok (.iload_n 2, 1) := by decide +kernel
theorem dX0_fillBackward_28 : decode cX0_fillBackward 28 = .ok (.aload_n 0, 1) := by decide +kernel
theorem dX0_fillBackward_29 : decode cX0_fillBackward 29 = .ok (.iload_n 1, 1) := by decide +kernel
theorem dX0_fillBackward_30 : decode cX0_fillBackward 30 = .ok (.iload_n 2, 1) := by decide +kernel
theorem dX0_fillBackward_31 : decode cX0_fillBackward 31 = .ok (.invokevirtual 113, 3) := by decide +kernel
theorem dX0_fillBackward_34 : decode cX0_fillBackward 34 = .ok (.dastore, 1) := by decide +kernel
theorem dX0_fillBackward_35 : decode cX0_fillBackward 35 = .ok (.iinc 2 1, 3) := by decide +kernel
theorem dX0_fillBackward_38 : decode cX0_fillBackward 38 = .ok (.goto (-25), 3) := by decide +kernel
theorem dX0_fillBackward_41 : decode cX0_fillBackward 41 = .ok (.iinc 1 (-1), 3) := by decide +kernel
theorem dX0_fillBackward_44 : decode cX0_fillBackward 44 = .ok (.goto (-37), 3) := by decide +kernel
theorem dX0_fillBackward_47 : decode cX0_fillBackward 47 = .ok (.return_, 1) := by decide +kernel
theorem dX0_backwardFrom_0 : decode cX0_backwardFrom 0 = .ok (.iload_n 1, 1) := by decide +kernel
theorem dX0_backwardFrom_1 : decode cX0_backwardFrom 1 = .ok (.aload_n 0, 1) := by decide +kernel
theorem dX0_backwardFrom_2 : decode cX0_backwardFrom 2 = .ok (.getfield 29, 3) := by decide +kernel
theorem dX0_backwardFrom_5 : decode cX0_backwardFrom 5 = .ok (.iconst 1, 1) := by decide +kernel
theorem dX0_backwardFrom_6 : decode cX0_backwardFrom 6 = .ok (.isub, 1) := by decide +kernel
theorem dX0_backwardFrom_7 : decode cX0_backwardFrom 7 = .ok (.if_icmp .ne 5, 3) := by decide +kernel
theorem dX0_backwardFrom_10 : decode cX0_backwardFrom 10 = .ok (.dconst 1, 1) := by decide +kernel
theorem dX0_backwardFrom_11 : decode cX0_backwardFrom 11 = .ok (.dreturn, 1) := by decide +kernel
theorem dX0_backwardFrom_12 : decode cX0_backwardFrom 12 = .ok (.aload_n 0, 1) := by decide +kernel
theorem dX0_backwardFrom_13 : decode cX0_backwardFrom 13 = .ok (.getfield 21, 3) := by decide +kernel
theorem dX0_backwardFrom_16 : decode cX0_backwardFrom 16 = .ok (.iload_n 1, 1) := by decide +kernel
theorem dX0_backwardFrom_17 : decode cX0_backwardFrom 17 = .ok (.iconst 1, 1) := by decide +kernel
theorem dX0_backwardFrom_18 : decode cX0_backwardFrom 18 = .ok (.iadd, 1) := by decide +kernel
theorem dX0_backwardFrom_19 : decode cX0_backwardFrom 19 = .ok (.iaload, 1) := by decide +kernel
theorem dX0_backwardFrom_20 : decode cX0_backwardFrom 20 = .ok (.istore_n 3, 1) := by decide +kernel
theorem dX0_backwardFrom_21 : decode cX0_backwardFrom 21 = .ok (.dconst 0, 1) := by decide +kernel
theorem dX0_backwardFrom_22 : decode cX0_backwardFrom 22 = .ok (.dstore 4, 2) := by decide +kernel
theorem dX0_backwardFrom_24 : decode cX0_backwardFrom 24 = .ok (.iconst 0, 1) := by decide +kernel
theorem dX0_backwardFrom_25 : decode cX0_backwardFrom 25 = .ok (.istore 6, 2) := by decide +kernel
theorem dX0_backwardFrom_27 : decode cX0_backwardFrom 27 = .ok (.iload 6, 2) := by decide +kernel
theorem dX0_backwardFrom_29 : decode cX0_backwardFrom 29 = .ok (.aload_n 0, 1) := by decide +kernel
theorem dX0_backwardFrom_30 : decode cX0_backwardFrom 30 = .ok (.getfield 25, 3) := by decide +kernel
theorem dX0_backwardFrom_33 : decode cX0_backwardFrom 33 = .ok (.if_icmp .ge 45, 3) := by decide +kernel
theorem dX0_backwardFrom_36 : decode cX0_backwardFrom 36 = .ok (.dload 4, 2) := by decide +kernel
theorem dX0_backwardFrom_38 : decode cX0_backwardFrom 38 = .ok (.aload_n 0, 1) := by decide +kernel
theorem dX0_backwardFrom_39 : decode cX0_backwardFrom 39 = .ok (.getfield 15, 3) := by decide +kernel
theorem dX0_backwardFrom_42 : decode cX0_backwardFrom 42 = .ok (.iload_n 2, 1) := by decide +kernel
theorem dX0_backwardFrom_43 : decode cX0_backwardFrom 43 = .ok (.aaload, 1) := by decide +kernel
theorem dX0_backwardFrom_44 : decode cX0_backwardFrom 44 = .ok (.iload 6, 2) := by decide +kernel
theorem dX0_backwardFrom_46 : decode cX0_backwardFrom 46 = .ok (.daload, 1) := by decide +kernel
theorem dX0_backwardFrom_47 : decode cX0_backwardFrom 47 = .ok (.aload_n 0, 1) := by decide +kernel
theorem dX0_backwardFrom_48 : decode cX0_backwardFrom 48 = .ok (.getfield 18, 3) := by decide +kernel
theorem dX0_backwardFrom_51 : decode cX0_backwardFrom 51 = .ok (.iload 6, 2) := by decide +kernel
theorem dX0_backwardFrom_53 : decode cX0_backwardFrom 53 = .ok (.aaload, 1) := by decide +kernel
theorem dX0_backwardFrom_54 : decode cX0_backwardFrom 54 = .ok (.iload_n 3, 1) := by decide +kernel
theorem dX0_backwardFrom_55 : decode cX0_backwardFrom 55 = .ok (.daload, 1) := by decide +kernel
theorem dX0_backwardFrom_56 : decode cX0_backwardFrom 56 = .ok (.dmul, 1) := by decide +kernel
theorem dX0_backwardFrom_57 : decode cX0_backwardFrom 57 = .ok (.aload_n 0, 1) := by decide +kernel
theorem dX0_backwardFrom_58 : decode cX0_backwardFrom 58 = .ok (.getfield 35, 3) := by decide +kernel
theorem dX0_backwardFrom_61 : decode cX0_backwardFrom 61 = .ok (.iload_n 1, 1) := by decide +kernel
theorem dX0_backwardFrom_62 : decode cX0_backwardFrom 62 = .ok (.iconst 1, 1) := by decide +kernel
theorem dX0_backwardFrom_63 : decode cX0_backwardFrom 63 = .ok (.iadd, 1) := by decide +kernel
theorem dX0_backwardFrom_64 : decode cX0_backwardFrom 64 = .ok (.aaload, 1) := by decide +kernel
theorem dX0_backwardFrom_65 : decode cX0_backwardFrom 65 = .ok (.iload 6, 2) := by decide +kernel
theorem dX0_backwardFrom_67 : decode cX0_backwardFrom 67 = .ok (.daload, 1) := by decide +kernel
theorem dX0_backwardFrom_68 : decode cX0_backwardFrom 68 = .ok (.dmul, 1) := by decide +kernel
theorem dX0_backwardFrom_69 : decode cX0_backwardFrom 69 = .ok (.dadd, 1) := by decide +kernel
theorem dX0_backwardFrom_70 : decode cX0_backwardFrom 70 = .ok (.dstore 4, 2) := by decide +kernel
theorem dX0_backwardFrom_72 : decode cX0_backwardFrom 72 = .ok (.iinc 6 1, 3) := by decide +kernel
theorem dX0_backwardFrom_75 : decode cX0_backwardFrom 75 = .ok (.goto (-48), 3) := by decide +kernel
theorem dX0_backwardFrom_78 : decode cX0_backwardFrom 78 = .ok (.dload 4, 2) := by decide +kernel
theorem dX0_backwardFrom_80 : decode cX0_backwardFrom 80 = .ok (.dreturn, 1) := by decide +kernel
set_option maxRecDepth 20000 in
theorem ggX0_fillBest_X0_bestInto : GoodIn wsX0_fillBest wsX0_bestInto := goodIn_ca (goodIn_r _ [10, 11, 4, 12, 3, 13, 14, 15, 16, 17, 18, 19, 20, 21, 22, 23, 24] (by decide +kernel) (by decide +kernel)) (goodIn_sub (fun _ h => List.mem_cons_of_mem _ (List.mem_append_right _ h)) (by decide +kernel))
set_option maxRecDepth 20000 in
theorem gX0_fillBest_X0_bestInto : GoodIn wsX0_fillBest (wsV RX0 116 RX0 yX0_bestInto wsX0_bestInto) := goodIn_app (goodIn_of _ (by decide +kernel)) ggX0_fillBest_X0_bestInto
theorem dX0_fillBest_0 : decode cX0_fillBest 0 = .ok (.iconst 0, 1) := by decide +kernel
theorem dX0_fillBest_1 : decode cX0_fillBest 1 = .ok (.istore_n 1, 1) := by decide +kernel
theorem dX0_fillBest_2 : decode cX0_fillBest 2 = .ok (.iload_n 1, 1) := by decide +kernel
theorem dX0_fillBest_3 : decode cX0_fillBest 3 = .ok (.aload_n 0, 1) := by decide +kernel
theorem dX0_fillBest_4 : decode cX0_fillBest 4 = .ok (.getfield 29, 3) := by decide +kernel
theorem dX0_fillBest_7 : decode cX0_fillBest 7 = .ok (.if_icmp .ge 55, 3) := by decide +kernel
theorem dX0_fillBest_10 : decode cX0_fillBest 10 = .ok (.aload_n 0, 1) := by decide +kernel
theorem dX0_fillBest_11 : decode cX0_fillBest 11 = .ok (.getfield 21, 3) := by decide +kernel
theorem dX0_fillBest_14 : decode cX0_fillBest 14 = .ok (.iload_n 1, 1) := by decide +kernel
theorem dX0_fillBest_15 : decode cX0_fillBest 15 = .ok (.iaload, 1) := by decide +kernel
theorem dX0_fillBest_16 : decode cX0_fillBest 16 = .ok (.istore_n 2, 1) := by decide +kernel
theorem dX0_fillBest_17 : decode cX0_fillBest 17 = .ok (.iconst 0, 1) := by decide +kernel
theorem dX0_fillBest_18 : decode cX0_fillBest 18 = .ok (.istore_n 3, 1) := by decide +kernel
theorem dX0_fillBest_19 : decode cX0_fillBest 19 = .ok (.iload_n 3, 1) := by decide +kernel
theorem dX0_fillBest_20 : decode cX0_fillBest 20 = .ok (.aload_n 0, 1) := by decide +kernel
theorem dX0_fillBest_21 : decode cX0_fillBest 21 = .ok (.getfield 25, 3) := by decide +kernel
theorem dX0_fillBest_24 : decode cX0_fillBest 24 = .ok (.if_icmp .ge 32, 3) := by decide +kernel
theorem dX0_fillBest_27 : decode cX0_fillBest 27 = .ok (.aload_n 0, 1) := by decide +kernel
theorem dX0_fillBest_28 : decode cX0_fillBest 28 = .ok (.getfield 38, 3) := by decide +kernel
theorem dX0_fillBest_31 : decode cX0_fillBest 31 = .ok (.iload_n 1, 1) := by decide +kernel
theorem dX0_fillBest_32 : decode cX0_fillBest 32 = .ok (.aaload, 1) := by decide +kernel
theorem dX0_fillBest_33 : decode cX0_fillBest 33 = .ok (.iload_n 3, 1) := by decide +kernel
theorem dX0_fillBest_34 : decode cX0_fillBest 34 = .ok (.aload_n 0, 1) := by decide +kernel
theorem dX0_fillBest_35 : decode cX0_fillBest 35 = .ok (.iload_n 1, 1) := by decide +kernel
theorem dX0_fillBest_36 : decode cX0_fillBest 36 = .ok (.iload_n 3, 1) := by decide +kernel
theorem dX0_fillBest_37 : decode cX0_fillBest 37 = .ok (.invokevirtual 116, 3) := by decide +kernel
theorem dX0_fillBest_40 : decode cX0_fillBest 40 = .ok (.aload_n 0, 1) := by decide +kernel
theorem dX0_fillBest_41 : decode cX0_fillBest 41 = .ok (.getfield 18, 3) := by decide +kernel
theorem dX0_fillBest_44 : decode cX0_fillBest 44 = .ok (.iload_n 3, 1) := by decide +kernel
theorem dX0_fillBest_45 : decode cX0_fillBest 45 = .ok (.aaload, 1) := by decide +kernel
theorem dX0_fillBest_46 : decode cX0_fillBest 46 = .ok (.iload_n 2, 1) := by decide +kernel
theorem dX0_fillBest_47 : decode cX0_fillBest 47 = .ok (.daload, 1) := by decide +kernel
theorem dX0_fillBest_48 : decode cX0_fillBest 48 = .ok (.dmul, 1) := by decide +kernel
theorem dX0_fillBest_49 : decode cX0_fillBest 49 = .ok (.dastore, 1) := by decide +kernel
theorem dX0_fillBest_50 : decode cX0_fillBest 50 = .ok (.iinc 3 1, 3) := by decide +kernel
theorem dX0_fillBest_53 : decode cX0_fillBest 53 = .ok (.goto (-34), 3) := by decide +kernel
theorem dX0_fillBest_56 : decode cX0_fillBest 56 = .ok (.iinc 1 1, 3) := by decide +kernel
theorem dX0_fillBest_59 : decode cX0_fillBest 59 = .ok (.goto (-57), 3) := by decide +kernel
theorem dX0_fillBest_62 : decode cX0_fillBest 62 = .ok (.return_, 1) := by decide +kernel
theorem dX0_bestInto_0 : decode cX0_bestInto 0 = .ok (.iload_n 1, 1) := by decide +kernel
theorem dX0_bestInto_1 : decode cX0_bestInto 1 = .ok (.ifCond .ne 10, 3) := by decide +kernel
theorem dX0_bestInto_4 : decode cX0_bestInto 4 = .ok (.aload_n 0, 1) := by decide +kernel
theorem dX0_bestInto_5 : decode cX0_bestInto 5 = .ok (.getfield 9, 3) := by decide +kernel
theorem dX0_bestInto_8 : decode cX0_bestInto 8 = .ok (.iload_n 2, 1) := by decide +kernel
theorem dX0_bestInto_9 : decode cX0_bestInto 9 = .ok (.daload, 1) := by decide +kernel
theorem dX0_bestInto_10 : decode cX0_bestInto 10 = .ok (.dreturn, 1) := by decide +kernel
theorem dX0_bestInto_11 : decode cX0_bestInto 11 = .ok (.iconst 0, 1) := by decide +kernel
theorem dX0_bestInto_12 : decode cX0_bestInto 12 = .ok (.istore_n 3, 1) := by decide +kernel
theorem dX0_bestInto_13 : decode cX0_bestInto 13 = .ok (.aload_n 0, 1) := by decide +kernel
theorem dX0_bestInto_14 : decode cX0_bestInto 14 = .ok (.getfield 38, 3) := by decide +kernel
theorem dX0_bestInto_17 : decode cX0_bestInto 17 = .ok (.iload_n 1, 1) := by decide +kernel
theorem dX0_bestInto_18 : decode cX0_bestInto 18 = .ok (.iconst 1, 1) := by decide +kernel
theorem dX0_bestInto_19 : decode cX0_bestInto 19 = .ok (.isub, 1) := by decide +kernel
theorem dX0_bestInto_20 : decode cX0_bestInto 20 = .ok (.aaload, 1) := by decide +kernel
theorem dX0_bestInto_21 : decode cX0_bestInto 21 = .ok (.iconst 0, 1) := by decide +kernel
theorem dX0_bestInto_22 : decode cX0_bestInto 22 = .ok (.daload, 1) := by decide +kernel
theorem dX0_bestInto_23 : decode cX0_bestInto 23 = .ok (.aload_n 0, 1) := by decide +kernel
theorem dX0_bestInto_24 : decode cX0_bestInto 24 = .ok (.getfield 15, 3) := by decide +kernel
theorem dX0_bestInto_27 : decode cX0_bestInto 27 = .ok (.iconst 0, 1) := by decide +kernel
theorem dX0_bestInto_28 : decode cX0_bestInto 28 = .ok (.aaload, 1) := by decide +kernel
theorem dX0_bestInto_29 : decode cX0_bestInto 29 = .ok (.iload_n 2, 1) := by decide +kernel
theorem dX0_bestInto_30 : decode cX0_bestInto 30 = .ok (.daload, 1) := by decide +kernel
theorem dX0_bestInto_31 : decode cX0_bestInto 31 = .ok (.dmul, 1) := by decide +kernel
theorem dX0_bestInto_32 : decode cX0_bestInto 32 = .ok (.dstore 4, 2) := by decide +kernel
theorem dX0_bestInto_34 : decode cX0_bestInto 34 = .ok (.iconst 1, 1) := by decide +kernel
theorem dX0_bestInto_35 : decode cX0_bestInto 35 = .ok (.istore 6, 2) := by decide +kernel
theorem dX0_bestInto_37 : decode cX0_bestInto 37 = .ok (.iload 6, 2) := by decide +kernel
theorem dX0_bestInto_39 : decode cX0_bestInto 39 = .ok (.aload_n 0, 1) := by decide +kernel
theorem dX0_bestInto_40 : decode cX0_bestInto 40 = .ok (.getfield 25, 3) := by decide +kernel
theorem dX0_bestInto_43 : decode cX0_bestInto 43 = .ok (.if_icmp .ge 47, 3) := by decide +kernel
theorem dX0_bestInto_46 : decode cX0_bestInto 46 = .ok (.aload_n 0, 1) := by decide +kernel
theorem dX0_bestInto_47 : decode cX0_bestInto 47 = .ok (.getfield 38, 3) := by decide +kernel
theorem dX0_bestInto_50 : decode cX0_bestInto 50 = .ok (.iload_n 1, 1) := by decide +kernel
theorem dX0_bestInto_51 : decode cX0_bestInto 51 = .ok (.iconst 1, 1) := by decide +kernel
theorem dX0_bestInto_52 : decode cX0_bestInto 52 = .ok (.isub, 1) := by decide +kernel
theorem dX0_bestInto_53 : decode cX0_bestInto 53 = .ok (.aaload, 1) := by decide +kernel
theorem dX0_bestInto_54 : decode cX0_bestInto 54 = .ok (.iload 6, 2) := by decide +kernel
theorem dX0_bestInto_56 : decode cX0_bestInto 56 = .ok (.daload, 1) := by decide +kernel
theorem dX0_bestInto_57 : decode cX0_bestInto 57 = .ok (.aload_n 0, 1) := by decide +kernel
theorem dX0_bestInto_58 : decode cX0_bestInto 58 = .ok (.getfield 15, 3) := by decide +kernel
theorem dX0_bestInto_61 : decode cX0_bestInto 61 = .ok (.iload 6, 2) := by decide +kernel
theorem dX0_bestInto_63 : decode cX0_bestInto 63 = .ok (.aaload, 1) := by decide +kernel
theorem dX0_bestInto_64 : decode cX0_bestInto 64 = .ok (.iload_n 2, 1) := by decide +kernel
theorem dX0_bestInto_65 : decode cX0_bestInto 65 = .ok (.daload, 1) := by decide +kernel
theorem dX0_bestInto_66 : decode cX0_bestInto 66 = .ok (.dmul, 1) := by decide +kernel
theorem dX0_bestInto_67 : decode cX0_bestInto 67 = .ok (.dstore 7, 2) := by decide +kernel
theorem dX0_bestInto_69 : decode cX0_bestInto 69 = .ok (.dload 7, 2) := by decide +kernel
theorem dX0_bestInto_71 : decode cX0_bestInto 71 = .ok (.dload 4, 2) := by decide +kernel
theorem dX0_bestInto_73 : decode cX0_bestInto 73 = .ok (.dcmp .l, 1) := by decide +kernel
theorem dX0_bestInto_74 : decode cX0_bestInto 74 = .ok (.ifCond .le 10, 3) := by decide +kernel
theorem dX0_bestInto_77 : decode cX0_bestInto 77 = .ok (.dload 7, 2) := by decide +kernel
theorem dX0_bestInto_79 : decode cX0_bestInto 79 = .ok (.dstore 4, 2) := by decide +kernel
theorem dX0_bestInto_81 : decode cX0_bestInto 81 = .ok (.iload 6, 2) := by decide +kernel
theorem dX0_bestInto_83 : decode cX0_bestInto 83 = .ok (.istore_n 3, 1) := by decide +kernel
theorem dX0_bestInto_84 : decode cX0_bestInto 84 = .ok (.iinc 6 1, 3) := by decide +kernel
theorem dX0_bestInto_87 : decode cX0_bestInto 87 = .ok (.goto (-50), 3) := by decide +kernel
theorem dX0_bestInto_90 : decode cX0_bestInto 90 = .ok (.aload_n 0, 1) := by decide +kernel
theorem dX0_bestInto_91 : decode cX0_bestInto 91 = .ok (.getfield 43, 3) := by decide +kernel
theorem dX0_bestInto_94 : decode cX0_bestInto 94 = .ok (.iload_n 1, 1) := by decide +kernel
theorem dX0_bestInto_95 : decode cX0_bestInto 95 = .ok (.aaload, 1) := by decide +kernel
theorem dX0_bestInto_96 : decode cX0_bestInto 96 = .ok (.iload_n 2, 1) := by decide +kernel
theorem dX0_bestInto_97 : decode cX0_bestInto 97 = .ok (.iload_n 3, 1) := by decide +kernel
theorem dX0_bestInto_98 : decode cX0_bestInto 98 = .ok (.iastore, 1) := by decide +kernel
theorem dX0_bestInto_99 : decode cX0_bestInto 99 = .ok (.dload 4, 2) := by decide +kernel
theorem dX0_bestInto_101 : decode cX0_bestInto 101 = .ok (.dreturn, 1) := by decide +kernel
theorem dX0_lastBestState_0 : decode cX0_lastBestState 0 = .ok (.iconst 0, 1) := by decide +kernel
theorem dX0_lastBestState_1 : decode cX0_lastBestState 1 = .ok (.istore_n 1, 1) := by decide +kernel
theorem dX0_lastBestState_2 : decode cX0_lastBestState 2 = .ok (.iconst 1, 1) := by decide +kernel
theorem dX0_lastBestState_3 : decode cX0_lastBestState 3 = .ok (.istore_n 2, 1) := by decide +kernel
theorem dX0_lastBestState_4 : decode cX0_lastBestState 4 = .ok (.iload_n 2, 1) := by decide +kernel
theorem dX0_lastBestState_5 : decode cX0_lastBestState 5 = .ok (.aload_n 0, 1) := by decide +kernel
theorem dX0_lastBestState_6 : decode cX0_lastBestState 6 = .ok (.getfield 25, 3) := by decide +kernel
theorem dX0_lastBestState_9 : decode cX0_lastBestState 9 = .ok (.if_icmp .ge 41, 3) := by decide +kernel
theorem dX0_lastBestState_12 : decode cX0_lastBestState 12 = .ok (.aload_n 0, 1) := by decide +kernel
theorem dX0_lastBestState_13 : decode cX0_lastBestState 13 = .ok (.getfield 38, 3) := by decide +kernel
theorem dX0_lastBestState_16 : decode cX0_lastBestState 16 = .ok (.aload_n 0, 1) := by decide +kernel
theorem dX0_lastBestState_17 : decode cX0_lastBestState 17 = .ok (.getfield 29, 3) := by decide +kernel
theorem dX0_lastBestState_20 : decode cX0_lastBestState 20 = .ok (.iconst 1, 1) := by decide +kernel
theorem dX0_lastBestState_21 : decode cX0_lastBestState 21 = .ok (.isub, 1) := by decide +kernel
theorem dX0_lastBestState_22 : decode cX0_lastBestState 22 = .ok (.aaload, 1) := by decide +kernel
theorem dX0_lastBestState_23 : decode cX0_lastBestState 23 = .ok (.iload_n 2, 1) := by decide +kernel
theorem dX0_lastBestState_24 : decode cX0_lastBestState 24 = .ok (.daload, 1) := by decide +kernel
theorem dX0_lastBestState_25 : decode cX0_lastBestState 25 = .ok (.aload_n 0, 1) := by decide +kernel
theorem dX0_lastBestState_26 : decode cX0_lastBestState 26 = .ok (.getfield 38, 3) := by decide +kernel
theorem dX0_lastBestState_29 : decode cX0_lastBestState 29 = .ok (.aload_n 0, 1) := by decide +kernel
theorem dX0_lastBestState_30 : decode cX0_lastBestState 30 = .ok (.getfield 29, 3) := by decide +kernel
theorem dX0_lastBestState_33 : decode cX0_lastBestState 33 = .ok (.iconst 1, 1) := by decide +kernel
theorem dX0_lastBestState_34 : decode cX0_lastBestState 34 = .ok (.isub, 1) := by decide +kernel
theorem dX0_lastBestState_35 : decode cX0_lastBestState 35 = .ok (.aaload, 1) := by decide +kernel
theorem dX0_lastBestState_36 : decode cX0_lastBestState 36 = .ok (.iload_n 1, 1) := by decide +kernel
theorem dX0_lastBestState_37 : decode cX0_lastBestState 37 = .ok (.daload, 1) := by decide +kernel
theorem dX0_lastBestState_38 : decode cX0_lastBestState 38 = .ok (.dcmp .l, 1) := by decide +kernel
theorem dX0_lastBestState_39 : decode cX0_lastBestState 39 = .ok (.ifCond .le 5, 3) := by decide +kernel
theorem dX0_lastBestState_42 : decode cX0_lastBestState 42 = .ok (.iload_n 2, 1) := by decide +kernel
theorem dX0_lastBestState_43 : decode cX0_lastBestState 43 = .ok (.istore_n 1, 1) := by decide +kernel
theorem dX0_lastBestState_44 : decode cX0_lastBestState 44 = .ok (.iinc 2 1, 3) := by decide +kernel
theorem dX0_lastBestState_47 : decode cX0_lastBestState 47 = .ok (.goto (-43), 3) := by decide +kernel
theorem dX0_lastBestState_50 : decode cX0_lastBestState 50 = .ok (.iload_n 1, 1) := by decide +kernel
theorem dX0_lastBestState_51 : decode cX0_lastBestState 51 = .ok (.ireturn, 1) := by decide +kernel
set_option maxRecDepth 20000 in
theorem ggX0_fillWayCounts_X0_waysInto : GoodIn wsX0_fillWayCounts wsX0_waysInto := goodIn_ca (goodIn_r _ [10, 11, 3, 12, 4, 13, 14, 15, 16, 17, 18, 19, 20, 21, 22, 23] (by decide +kernel) (by decide +kernel)) (goodIn_sub (fun _ h => List.mem_cons_of_mem _ (List.mem_append_right _ h)) (by decide +kernel))
set_option maxRecDepth 20000 in
theorem gX0_fillWayCounts_X0_waysInto : GoodIn wsX0_fillWayCounts (wsV RX0 119 RX0 yX0_waysInto wsX0_waysInto) := goodIn_app (goodIn_of _ (by decide +kernel)) ggX0_fillWayCounts_X0_waysInto
theorem dX0_fillWayCounts_0 : decode cX0_fillWayCounts 0 = .ok (.iconst 0, 1) := by decide +kernel
theorem dX0_fillWayCounts_1 : decode cX0_fillWayCounts 1 = .ok (.istore_n 1, 1) := by decide +kernel
theorem dX0_fillWayCounts_2 : decode cX0_fillWayCounts 2 = .ok (.iload_n 1, 1) := by decide +kernel
theorem dX0_fillWayCounts_3 : decode cX0_fillWayCounts 3 = .ok (.aload_n 0, 1) := by decide +kernel
theorem dX0_fillWayCounts_4 : decode cX0_fillWayCounts 4 = .ok (.getfield 29, 3) := by decide +kernel
theorem dX0_fillWayCounts_7 : decode cX0_fillWayCounts 7 = .ok (.if_icmp .ge 63, 3) := by decide +kernel
theorem dX0_fillWayCounts_10 : decode cX0_fillWayCounts 10 = .ok (.aload_n 0, 1) := by decide +kernel
theorem dX0_fillWayCounts_11 : decode cX0_fillWayCounts 11 = .ok (.getfield 21, 3) := by decide +kernel
theorem dX0_fillWayCounts_14 : decode cX0_fillWayCounts 14 = .ok (.iload_n 1, 1) := by decide +kernel
theorem dX0_fillWayCounts_15 : decode cX0_fillWayCounts 15 = .ok (.iaload, 1) := by decide +kernel
theorem dX0_fillWayCounts_16 : decode cX0_fillWayCounts 16 = .ok (.istore_n 2, 1) := by decide +kernel
theorem dX0_fillWayCounts_17 : decode cX0_fillWayCounts 17 = .ok (.iconst 0, 1) := by decide +kernel
theorem dX0_fillWayCounts_18 : decode cX0_fillWayCounts 18 = .ok (.istore_n 3, 1) := by decide +kernel
theorem dX0_fillWayCounts_19 : decode cX0_fillWayCounts 19 = .ok (.iload_n 3, 1) := by decide +kernel
theorem dX0_fillWayCounts_20 : decode cX0_fillWayCounts 20 = .ok (.aload_n 0, 1) := by decide +kernel
theorem dX0_fillWayCounts_21 : decode cX0_fillWayCounts 21 = .ok (.getfield 25, 3) := by decide +kernel
theorem dX0_fillWayCounts_24 : decode cX0_fillWayCounts 24 = .ok (.if_icmp .ge 40, 3) := by decide +kernel
theorem dX0_fillWayCounts_27 : decode cX0_fillWayCounts 27 = .ok (.aload_n 0, 1) := by decide +kernel
theorem dX0_fillWayCounts_28 : decode cX0_fillWayCounts 28 = .ok (.getfield 48, 3) := by decide +kernel
theorem dX0_fillWayCounts_31 : decode cX0_fillWayCounts 31 = .ok (.iload_n 1, 1) := by decide +kernel
theorem dX0_fillWayCounts_32 : decode cX0_fillWayCounts 32 = .ok (.aaload, 1) := by decide +kernel
theorem dX0_fillWayCounts_33 : decode cX0_fillWayCounts 33 = .ok (.iload_n 3, 1) := by decide +kernel
theorem dX0_fillWayCounts_34 : decode cX0_fillWayCounts 34 = .ok (.aload_n 0, 1) := by decide +kernel
theorem dX0_fillWayCounts_35 : decode cX0_fillWayCounts 35 = .ok (.getfield 18, 3) := by decide +kernel
theorem dX0_fillWayCounts_38 : decode cX0_fillWayCounts 38 = .ok (.iload_n 3, 1) := by decide +kernel
theorem dX0_fillWayCounts_39 : decode cX0_fillWayCounts 39 = .ok (.aaload, 1) := by decide +kernel
theorem dX0_fillWayCounts_40 : decode cX0_fillWayCounts 40 = .ok (.iload_n 2, 1) := by decide +kernel
theorem dX0_fillWayCounts_41 : decode cX0_fillWayCounts 41 = .ok (.daload, 1) := by decide +kernel
theorem dX0_fillWayCounts_42 : decode cX0_fillWayCounts 42 = .ok (.dconst 0, 1) := by decide +kernel
theorem dX0_fillWayCounts_43 : decode cX0_fillWayCounts 43 = .ok (.dcmp .l, 1) := by decide +kernel
theorem dX0_fillWayCounts_44 : decode cX0_fillWayCounts 44 = .ok (.ifCond .le 12, 3) := by decide +kernel
theorem dX0_fillWayCounts_47 : decode cX0_fillWayCounts 47 = .ok (.aload_n 0, 1) := by decide +kernel
theorem dX0_fillWayCounts_48 : decode cX0_fillWayCounts 48 = .ok (.iload_n 1, 1) := by decide +kernel
theorem dX0_fillWayCounts_49 : decode cX0_fillWayCounts 49 = .ok (.iload_n 3, 1) := by decide +kernel
theorem dX0_fillWayCounts_50 : decode cX0_fillWayCounts 50 = .ok (.invokevirtual 119, 3) := by decide +kernel
theorem dX0_fillWayCounts_53 : decode cX0_fillWayCounts 53 = .ok (.goto 4, 3) := by decide +kernel
theorem dX0_fillWayCounts_56 : decode cX0_fillWayCounts 56 = .ok (.lconst 0, 1) := by decide +kernel
theorem dX0_fillWayCounts_57 : decode cX0_fillWayCounts 57 = .ok (.lastore, 1) := by decide +kernel
theorem dX0_fillWayCounts_58 : decode cX0_fillWayCounts 58 = .ok (.iinc 3 1, 3) := by decide +kernel
theorem dX0_fillWayCounts_61 : decode cX0_fillWayCounts 61 = .ok (.goto (-42), 3) := by decide +kernel
theorem dX0_fillWayCounts_64 : decode cX0_fillWayCounts 64 = .ok (.iinc 1 1, 3) := by decide +kernel
theorem dX0_fillWayCounts_67 : decode cX0_fillWayCounts 67 = .ok (.goto (-65), 3) := by decide +kernel
theorem dX0_fillWayCounts_70 : decode cX0_fillWayCounts 70 = .ok (.return_, 1) := by decide +kernel
theorem dX0_waysInto_0 : decode cX0_waysInto 0 = .ok (.iload_n 1, 1) := by decide +kernel
theorem dX0_waysInto_1 : decode cX0_waysInto 1 = .ok (.ifCond .ne 20, 3) := by decide +kernel
theorem dX0_waysInto_4 : decode cX0_waysInto 4 = .ok (.aload_n 0, 1) := by decide +kernel
theorem dX0_waysInto_5 : decode cX0_waysInto 5 = .ok (.getfield 9, 3) := by decide +kernel
theorem dX0_waysInto_8 : decode cX0_waysInto 8 = .ok (.iload_n 2, 1) := by decide +kernel
theorem dX0_waysInto_9 : decode cX0_waysInto 9 = .ok (.daload, 1) := by decide +kernel
theorem dX0_waysInto_10 : decode cX0_waysInto 10 = .ok (.dconst 0, 1) := by decide +kernel
theorem dX0_waysInto_11 : decode cX0_waysInto 11 = .ok (.dcmp .l, 1) := by decide +kernel
theorem dX0_waysInto_12 : decode cX0_waysInto 12 = .ok (.ifCond .le 7, 3) := by decide +kernel
theorem dX0_waysInto_15 : decode cX0_waysInto 15 = .ok (.lconst 1, 1) := by decide +kernel
theorem dX0_waysInto_16 : decode cX0_waysInto 16 = .ok (.goto 4, 3) := by decide +kernel
theorem dX0_waysInto_19 : decode cX0_waysInto 19 = .ok (.lconst 0, 1) := by decide +kernel
theorem dX0_waysInto_20 : decode cX0_waysInto 20 = .ok (.lreturn, 1) := by decide +kernel
theorem dX0_waysInto_21 : decode cX0_waysInto 21 = .ok (.lconst 0, 1) := by decide +kernel
theorem dX0_waysInto_22 : decode cX0_waysInto 22 = .ok (.lstore_n 3, 1) := by decide +kernel
theorem dX0_waysInto_23 : decode cX0_waysInto 23 = .ok (.iconst 0, 1) := by decide +kernel
theorem dX0_waysInto_24 : decode cX0_waysInto 24 = .ok (.istore 5, 2) := by decide +kernel
theorem dX0_waysInto_26 : decode cX0_waysInto 26 = .ok (.iload 5, 2) := by decide +kernel
theorem dX0_waysInto_28 : decode cX0_waysInto 28 = .ok (.aload_n 0, 1) := by decide +kernel
theorem dX0_waysInto_29 : decode cX0_waysInto 29 = .ok (.getfield 25, 3) := by decide +kernel
theorem dX0_waysInto_32 : decode cX0_waysInto 32 = .ok (.if_icmp .ge 37, 3) := by decide +kernel
theorem dX0_waysInto_35 : decode cX0_waysInto 35 = .ok (.aload_n 0, 1) := by decide +kernel
theorem dX0_waysInto_36 : decode cX0_waysInto 36 = .ok (.getfield 15, 3) := by decide +kernel
theorem dX0_waysInto_39 : decode cX0_waysInto 39 = .ok (.iload 5, 2) := by decide +kernel
theorem dX0_waysInto_41 : decode cX0_waysInto 41 = .ok (.aaload, 1) := by decide +kernel
theorem dX0_waysInto_42 : decode cX0_waysInto 42 = .ok (.iload_n 2, 1) := by decide +kernel
theorem dX0_waysInto_43 : decode cX0_waysInto 43 = .ok (.daload, 1) := by decide +kernel
theorem dX0_waysInto_44 : decode cX0_waysInto 44 = .ok (.dconst 0, 1) := by decide +kernel
theorem dX0_waysInto_45 : decode cX0_waysInto 45 = .ok (.dcmp .l, 1) := by decide +kernel
theorem dX0_waysInto_46 : decode cX0_waysInto 46 = .ok (.ifCond .le 17, 3) := by decide +kernel
theorem dX0_waysInto_49 : decode cX0_waysInto 49 = .ok (.lload_n 3, 1) := by decide +kernel
theorem dX0_waysInto_50 : decode cX0_waysInto 50 = .ok (.aload_n 0, 1) := by decide +kernel
theorem dX0_waysInto_51 : decode cX0_waysInto 51 = .ok (.getfield 48, 3) := by decide +kernel
theorem dX0_waysInto_54 : decode cX0_waysInto 54 = .ok (.iload_n 1, 1) := by decide +kernel
theorem dX0_waysInto_55 : decode cX0_waysInto 55 = .ok (.iconst 1, 1) := by decide +kernel
theorem dX0_waysInto_56 : decode cX0_waysInto 56 = .ok (.isub, 1) := by decide +kernel
theorem dX0_waysInto_57 : decode cX0_waysInto 57 = .ok (.aaload, 1) := by decide +kernel
theorem dX0_waysInto_58 : decode cX0_waysInto 58 = .ok (.iload 5, 2) := by decide +kernel
theorem dX0_waysInto_60 : decode cX0_waysInto 60 = .ok (.laload, 1) := by decide +kernel
theorem dX0_waysInto_61 : decode cX0_waysInto 61 = .ok (.ladd, 1) := by decide +kernel
theorem dX0_waysInto_62 : decode cX0_waysInto 62 = .ok (.lstore_n 3, 1) := by decide +kernel
theorem dX0_waysInto_63 : decode cX0_waysInto 63 = .ok (.iinc 5 1, 3) := by decide +kernel
theorem dX0_waysInto_66 : decode cX0_waysInto 66 = .ok (.goto (-40), 3) := by decide +kernel
theorem dX0_waysInto_69 : decode cX0_waysInto 69 = .ok (.lload_n 3, 1) := by decide +kernel
theorem dX0_waysInto_70 : decode cX0_waysInto 70 = .ok (.lreturn, 1) := by decide +kernel
