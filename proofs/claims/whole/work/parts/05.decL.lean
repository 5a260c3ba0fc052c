theorem dL_forward_0 : decode cL_forward 0 = .ok (.aload_n 3, 1) := by decide +kernel
theorem dL_forward_1 : decode cL_forward 1 = .ok (.iconst 0, 1) := by decide +kernel
theorem dL_forward_2 : decode cL_forward 2 = .ok (.aload_n 0, 1) := by decide +kernel
theorem dL_forward_3 : decode cL_forward 3 = .ok (.iload_n 1, 1) := by decide +kernel
theorem dL_forward_4 : decode cL_forward 4 = .ok (.iload_n 2, 1) := by decide +kernel
theorem dL_forward_5 : decode cL_forward 5 = .ok (.invokevirtual 7, 3) := by decide +kernel
theorem dL_forward_8 : decode cL_forward 8 = .ok (.dastore, 1) := by decide +kernel
theorem dL_forward_9 : decode cL_forward 9 = .ok (.goto 11, 3) := by decide +kernel
theorem dL_forward_12 : decode cL_forward 12 = .ok (.astore 4, 2) := by decide +kernel
theorem dL_forward_14 : decode cL_forward 14 = .ok (.iconst 1, 1) := by decide +kernel
theorem dL_forward_15 : decode cL_forward 15 = .ok (.ireturn, 1) := by decide +kernel
theorem dL_forward_16 : decode cL_forward 16 = .ok (.astore 4, 2) := by decide +kernel
theorem dL_forward_18 : decode cL_forward 18 = .ok (.iconst 2, 1) := by decide +kernel
theorem dL_forward_19 : decode cL_forward 19 = .ok (.ireturn, 1) := by decide +kernel
theorem dL_forward_20 : decode cL_forward 20 = .ok (.iconst 0, 1) := by decide +kernel
theorem dL_forward_21 : decode cL_forward 21 = .ok (.ireturn, 1) := by decide +kernel
set_option maxRecDepth 20000 in
theorem ggL_backward_X0_backward : GoodIn wsL_backward wsX0_backward := goodIn_ca (goodIn_ca (goodIn_ca (goodIn_r _ [7, 8, 9, 10, 11, 6, 12, 13, 14, 15, 16, 17, 18, 19, 20, 21, 22, 23, 24, 25, 26, 27, 28, 29, 30, 31, 32, 33, 34, 35, 36, 37, 38, 39, 40, 41, 42, 43, 44, 45, 46, 47, 48] (by decide +kernel) (by decide +kernel)) (goodIn_sub (fun _ h => List.mem_cons_of_mem _ (List.mem_append_left _ (List.mem_append_left _ (List.mem_append_right _ h)))) (by decide +kernel))) (goodIn_sub (fun _ h => List.mem_cons_of_mem _ (List.mem_append_left _ (List.mem_append_right _ h))) (by decide +kernel))) (goodIn_sub (fun _ h => List.mem_cons_of_mem _ (List.mem_append_right _ h)) (by decide +kernel))
set_option maxRecDepth 20000 in
theorem gL_backward_X0_backward : GoodIn wsL_backward (wsV RL 17 RX0 yX0_backward wsX0_backward) := goodIn_app (goodIn_of _ (by decide +kernel)) ggL_backward_X0_backward
theorem dL_backward_0 : decode cL_backward 0 = .ok (.aload_n 3, 1) := by decide +kernel
theorem dL_backward_1 : decode cL_backward 1 = .ok (.iconst 0, 1) := by decide +kernel
theorem dL_backward_2 : decode cL_backward 2 = .ok (.aload_n 0, 1) := by decide +kernel
theorem dL_backward_3 : decode cL_backward 3 = .ok (.iload_n 1, 1) := by decide +kernel
theorem dL_backward_4 : decode cL_backward 4 = .ok (.iload_n 2, 1) := by decide +kernel
theorem dL_backward_5 : decode cL_backward 5 = .ok (.invokevirtual 17, 3) := by decide +kernel
theorem dL_backward_8 : decode cL_backward 8 = .ok (.dastore, 1) := by decide +kernel
theorem dL_backward_9 : decode cL_backward 9 = .ok (.goto 11, 3) := by decide +kernel
theorem dL_backward_12 : decode cL_backward 12 = .ok (.astore 4, 2) := by decide +kernel
theorem dL_backward_14 : decode cL_backward 14 = .ok (.iconst 1, 1) := by decide +kernel
theorem dL_backward_15 : decode cL_backward 15 = .ok (.ireturn, 1) := by decide +kernel
theorem dL_backward_16 : decode cL_backward 16 = .ok (.astore 4, 2) := by decide +kernel
theorem dL_backward_18 : decode cL_backward 18 = .ok (.iconst 2, 1) := by decide +kernel
theorem dL_backward_19 : decode cL_backward 19 = .ok (.ireturn, 1) := by decide +kernel
theorem dL_backward_20 : decode cL_backward 20 = .ok (.iconst 0, 1) := by decide +kernel
theorem dL_backward_21 : decode cL_backward 21 = .ok (.ireturn, 1) := by decide +kernel
set_option maxRecDepth 20000 in
theorem ggL_share_X0_share : GoodIn wsL_share wsX0_share := goodIn_ca (goodIn_ca (goodIn_ca (goodIn_ca (goodIn_r _ [8, 9, 10, 11, 12, 13, 14, 15, 7, 16, 17, 18, 19, 20, 21, 22, 23, 24, 25, 26, 27, 28, 29, 30, 31, 32, 33, 34, 35, 36, 37, 38, 39, 40, 41, 42, 43, 44, 45, 46, 47, 48, 49, 50, 51, 52, 53, 54, 55, 56, 57, 58, 59, 60, 61, 62, 63, 64, 65] (by decide +kernel) (by decide +kernel)) (goodIn_sub (fun _ h => List.mem_cons_of_mem _ (List.mem_append_left _ (List.mem_append_left _ (List.mem_append_right _ h)))) (by decide +kernel))) (goodIn_sub (fun _ h => List.mem_cons_of_mem _ (List.mem_append_left _ (List.mem_append_left _ (List.mem_append_left _ (List.mem_append_right _ h))))) (by decide +kernel))) (goodIn_sub (fun _ h => List.mem_cons_of_mem _ (List.mem_append_left _ (List.mem_append_right _ h))) (by decide +kernel))) (goodIn_sub (fun _ h => List.mem_cons_of_mem _ (List.mem_append_right _ h)) (by decide +kernel))
set_option maxRecDepth 20000 in
theorem gL_share_X0_share : GoodIn wsL_share (wsV RL 20 RX0 yX0_share wsX0_share) := goodIn_app (goodIn_of _ (by decide +kernel)) ggL_share_X0_share
theorem dL_share_0 : decode cL_share 0 = .ok (.aload_n 3, 1) := by decide +kernel
theorem dL_share_1 : decode cL_share 1 = .ok (.iconst 0, 1) := by decide +kernel
theorem dL_share_2 : decode cL_share 2 = .ok (.aload_n 0, 1) := by decide +kernel
theorem dL_share_3 : decode cL_share 3 = .ok (.iload_n 1, 1) := by decide +kernel
theorem dL_share_4 : decode cL_share 4 = .ok (.iload_n 2, 1) := by decide +kernel
theorem dL_share_5 : decode cL_share 5 = .ok (.invokevirtual 20, 3) := by decide +kernel
theorem dL_share_8 : decode cL_share 8 = .ok (.dastore, 1) := by decide +kernel
theorem dL_share_9 : decode cL_share 9 = .ok (.goto 15, 3) := by decide +kernel
theorem dL_share_12 : decode cL_share 12 = .ok (.astore 4, 2) := by decide +kernel
theorem dL_share_14 : decode cL_share 14 = .ok (.iconst 1, 1) := by decide +kernel
theorem dL_share_15 : decode cL_share 15 = .ok (.ireturn, 1) := by decide +kernel
theorem dL_share_16 : decode cL_share 16 = .ok (.astore 4, 2) := by decide +kernel
theorem dL_share_18 : decode cL_share 18 = .ok (.iconst 2, 1) := by decide +kernel
theorem dL_share_19 : decode cL_share 19 = .ok (.ireturn, 1) := by decide +kernel
theorem dL_share_20 : decode cL_share 20 = .ok (.astore 4, 2) := by decide +kernel
theorem dL_share_22 : decode cL_share 22 = .ok (.iconst 3, 1) := by decide +kernel
theorem dL_share_23 : decode cL_share 23 = .ok (.ireturn, 1) := by decide +kernel
theorem dL_share_24 : decode cL_share 24 = .ok (.iconst 0, 1) := by decide +kernel
theorem dL_share_25 : decode cL_share 25 = .ok (.ireturn, 1) := by decide +kernel
set_option maxRecDepth 20000 in
theorem ggL_law_X0_init : GoodIn wsL_law wsX0_init := goodIn_r _ [10, 11, 12, 13, 6, 14, 15, 16, 17, 18, 19, 20, 21, 22, 23, 24, 25, 26, 27, 28, 29, 296, 297, 298, 299, 300, 301, 302, 303, 304, 305, 306] (by decide +kernel) (by decide +kernel)
set_option maxRecDepth 20000 in
theorem gL_law_X0_init : GoodIn wsL_law (wsX0_init) := ggL_law_X0_init
set_option maxRecDepth 20000 in
theorem ggL_law_X1_init : GoodIn wsL_law wsX1_init := goodIn_r _ [32, 33, 12, 13, 6, 34, 35, 36, 18, 37, 38, 39, 28, 40, 41, 42, 307, 308, 309, 310, 311, 312, 313, 314, 315, 316, 317] (by decide +kernel) (by decide +kernel)
set_option maxRecDepth 20000 in
theorem gL_law_X1_init : GoodIn wsL_law (wsX1_init) := ggL_law_X1_init
set_option maxRecDepth 20000 in
theorem ggL_law_X0_states : GoodIn wsL_law wsX0_states := goodIn_ca (goodIn_r _ [46, 20, 21, 47, 48, 49, 2, 50, 14, 16, 17, 296, 297, 298, 299, 300, 301, 302, 303, 304, 305, 306] (by decide +kernel) (by decide +kernel)) (goodIn_sub (fun _ h => List.mem_append_left _ (List.mem_append_left _ (List.mem_append_left _ (List.mem_append_right _ h)))) (by decide +kernel))
set_option maxRecDepth 20000 in
theorem gL_law_X0_states : GoodIn wsL_law (wsV RL 29 RX0 yX0_states wsX0_states) := goodIn_app (goodIn_of _ (by decide +kernel)) ggL_law_X0_states
set_option maxRecDepth 20000 in
theorem ggL_law_X1_states : GoodIn wsL_law wsX1_states := goodIn_ca (goodIn_r _ [54, 55, 42, 56, 34, 35, 36, 307, 308, 309, 310, 311, 312, 313, 314, 315, 316, 317] (by decide +kernel) (by decide +kernel)) (goodIn_sub (fun _ h => List.mem_append_left _ (List.mem_append_left _ (List.mem_append_left _ (List.mem_append_right _ h)))) (by decide +kernel))
set_option maxRecDepth 20000 in
theorem gL_law_X1_states : GoodIn wsL_law (wsV RL 33 RX1 yX1_states wsX1_states) := goodIn_app (goodIn_of _ (by decide +kernel)) ggL_law_X1_states
set_option maxRecDepth 20000 in
theorem ggL_law_X0_size : GoodIn wsL_law wsX0_size := goodIn_r _ [60, 20, 296, 297, 298, 299, 300, 301, 302, 303, 304, 305, 306] (by decide +kernel) (by decide +kernel)
set_option maxRecDepth 20000 in
theorem gL_law_X0_size : GoodIn wsL_law (wsV RL 34 RX0 yX0_size wsX0_size) := goodIn_app (goodIn_of _ (by decide +kernel)) ggL_law_X0_size
set_option maxRecDepth 20000 in
theorem ggL_law_X1_size : GoodIn wsL_law wsX1_size := goodIn_r _ [64, 55, 42, 307, 308, 309, 310, 311, 312, 313, 314, 315, 316, 317] (by decide +kernel) (by decide +kernel)
set_option maxRecDepth 20000 in
theorem gL_law_X1_size : GoodIn wsL_law (wsV RL 38 RX1 yX1_size wsX1_size) := goodIn_app (goodIn_of _ (by decide +kernel)) ggL_law_X1_size
set_option maxRecDepth 20000 in
theorem ggL_law_X0_start : GoodIn wsL_law wsX0_start := goodIn_ca (goodIn_r _ [68, 14, 69, 70, 71, 2, 72, 20, 73, 74, 75, 296, 297, 298, 299, 300, 301, 302, 303, 304, 305, 306] (by decide +kernel) (by decide +kernel)) (goodIn_sub (fun _ h => List.mem_append_left _ (List.mem_append_left _ (List.mem_append_left _ (List.mem_append_right _ h)))) (by decide +kernel))
set_option maxRecDepth 20000 in
theorem gL_law_X0_start : GoodIn wsL_law (wsV RL 41 RX0 yX0_start wsX0_start) := goodIn_app (goodIn_of _ (by decide +kernel)) ggL_law_X0_start
set_option maxRecDepth 20000 in
theorem ggL_law_X1_start : GoodIn wsL_law wsX1_start := goodIn_ca (goodIn_r _ [79, 55, 34, 80, 81, 82, 5, 83, 42, 84, 85, 86, 307, 308, 309, 310, 311, 312, 313, 314, 315, 316, 317] (by decide +kernel) (by decide +kernel)) (goodIn_sub (fun _ h => List.mem_append_left _ (List.mem_append_left _ (List.mem_append_left _ (List.mem_append_right _ h)))) (by decide +kernel))
set_option maxRecDepth 20000 in
theorem gL_law_X1_start : GoodIn wsL_law (wsV RL 45 RX1 yX1_start wsX1_start) := goodIn_app (goodIn_of _ (by decide +kernel)) ggL_law_X1_start
set_option maxRecDepth 20000 in
theorem ggL_law_X0_move : GoodIn wsL_law wsX0_move := goodIn_ca (goodIn_r _ [90, 16, 69, 70, 71, 2, 72, 20, 73, 74, 75, 296, 297, 298, 299, 300, 301, 302, 303, 304, 305, 306] (by decide +kernel) (by decide +kernel)) (goodIn_sub (fun _ h => List.mem_append_left _ (List.mem_append_left _ (List.mem_append_left _ (List.mem_append_right _ h)))) (by decide +kernel))
set_option maxRecDepth 20000 in
theorem gL_law_X0_move : GoodIn wsL_law (wsV RL 46 RX0 yX0_move wsX0_move) := goodIn_app (goodIn_of _ (by decide +kernel)) ggL_law_X0_move
set_option maxRecDepth 20000 in
theorem ggL_law_X1_move : GoodIn wsL_law wsX1_move := goodIn_ca (goodIn_r _ [94, 55, 35, 80, 81, 82, 5, 83, 42, 84, 85, 86, 307, 308, 309, 310, 311, 312, 313, 314, 315, 316, 317] (by decide +kernel) (by decide +kernel)) (goodIn_sub (fun _ h => List.mem_append_left _ (List.mem_append_left _ (List.mem_append_left _ (List.mem_append_right _ h)))) (by decide +kernel))
set_option maxRecDepth 20000 in
theorem gL_law_X1_move : GoodIn wsL_law (wsV RL 50 RX1 yX1_move wsX1_move) := goodIn_app (goodIn_of _ (by decide +kernel)) ggL_law_X1_move
set_option maxRecDepth 20000 in
theorem ggL_law_X0_show : GoodIn wsL_law wsX0_show := goodIn_ca (goodIn_r _ [98, 17, 69, 70, 71, 2, 72, 20, 99, 100, 101, 73, 74, 75, 296, 297, 298, 299, 300, 301, 302, 303, 304, 305, 306] (by decide +kernel) (by decide +kernel)) (goodIn_sub (fun _ h => List.mem_append_left _ (List.mem_append_left _ (List.mem_append_left _ (List.mem_append_right _ h)))) (by decide +kernel))
set_option maxRecDepth 20000 in
theorem gL_law_X0_show : GoodIn wsL_law (wsV RL 51 RX0 yX0_show wsX0_show) := goodIn_app (goodIn_of _ (by decide +kernel)) ggL_law_X0_show
set_option maxRecDepth 20000 in
theorem ggL_law_X1_show : GoodIn wsL_law wsX1_show := goodIn_ca (goodIn_r _ [105, 55, 36, 80, 81, 82, 5, 83, 42, 106, 107, 108, 84, 85, 86, 307, 308, 309, 310, 311, 312, 313, 314, 315, 316, 317] (by decide +kernel) (by decide +kernel)) (goodIn_sub (fun _ h => List.mem_append_left _ (List.mem_append_left _ (List.mem_append_left _ (List.mem_append_right _ h)))) (by decide +kernel))
set_option maxRecDepth 20000 in
theorem gL_law_X1_show : GoodIn wsL_law (wsV RL 54 RX1 yX1_show wsX1_show) := goodIn_app (goodIn_of _ (by decide +kernel)) ggL_law_X1_show
set_option maxRecDepth 20000 in
theorem ggL_law_X0_read : GoodIn wsL_law wsX0_read := goodIn_ca (goodIn_r _ [112, 21, 19, 99, 100, 2, 101, 296, 297, 298, 299, 300, 301, 302, 303, 304, 305, 306] (by decide +kernel) (by decide +kernel)) (goodIn_sub (fun _ h => List.mem_append_left _ (List.mem_append_left _ (List.mem_append_left _ (List.mem_append_right _ h)))) (by decide +kernel))
set_option maxRecDepth 20000 in
theorem gL_law_X0_read : GoodIn wsL_law (wsV RL 55 RX0 yX0_read wsX0_read) := goodIn_app (goodIn_of _ (by decide +kernel)) ggL_law_X0_read
set_option maxRecDepth 20000 in
theorem ggL_law_X1_read : GoodIn wsL_law wsX1_read := goodIn_ca (goodIn_r _ [116, 55, 56, 37, 106, 107, 5, 108, 307, 308, 309, 310, 311, 312, 313, 314, 315, 316, 317] (by decide +kernel) (by decide +kernel)) (goodIn_sub (fun _ h => List.mem_append_left _ (List.mem_append_left _ (List.mem_append_left _ (List.mem_append_right _ h)))) (by decide +kernel))
set_option maxRecDepth 20000 in
theorem gL_law_X1_read : GoodIn wsL_law (wsV RL 58 RX1 yX1_read wsX1_read) := goodIn_app (goodIn_of _ (by decide +kernel)) ggL_law_X1_read
set_option maxRecDepth 20000 in
theorem ggL_law_X0_unread : GoodIn wsL_law wsX0_unread := goodIn_r _ [120, 21, 296, 297, 298, 299, 300, 301, 302, 303, 304, 305, 306] (by decide +kernel) (by decide +kernel)
set_option maxRecDepth 20000 in
theorem gL_law_X0_unread : GoodIn wsL_law (wsV RL 59 RX0 yX0_unread wsX0_unread) := goodIn_app (goodIn_of _ (by decide +kernel)) ggL_law_X0_unread
set_option maxRecDepth 20000 in
theorem ggL_law_X1_unread : GoodIn wsL_law wsX1_unread := goodIn_r _ [124, 55, 56, 307, 308, 309, 310, 311, 312, 313, 314, 315, 316, 317] (by decide +kernel) (by decide +kernel)
set_option maxRecDepth 20000 in
theorem gL_law_X1_unread : GoodIn wsL_law (wsV RL 63 RX1 yX1_unread wsX1_unread) := goodIn_app (goodIn_of _ (by decide +kernel)) ggL_law_X1_unread
set_option maxRecDepth 20000 in
theorem ggL_law_X0_length : GoodIn wsL_law wsX0_length := goodIn_r _ [128, 21, 296, 297, 298, 299, 300, 301, 302, 303, 304, 305, 306] (by decide +kernel) (by decide +kernel)
set_option maxRecDepth 20000 in
theorem gL_law_X0_length : GoodIn wsL_law (wsV RL 64 RX0 yX0_length wsX0_length) := goodIn_app (goodIn_of _ (by decide +kernel)) ggL_law_X0_length
set_option maxRecDepth 20000 in
theorem ggL_law_X1_length : GoodIn wsL_law wsX1_length := goodIn_r _ [132, 55, 56, 307, 308, 309, 310, 311, 312, 313, 314, 315, 316, 317] (by decide +kernel) (by decide +kernel)
set_option maxRecDepth 20000 in
theorem gL_law_X1_length : GoodIn wsL_law (wsV RL 67 RX1 yX1_length wsX1_length) := goodIn_app (goodIn_of _ (by decide +kernel)) ggL_law_X1_length
set_option maxRecDepth 20000 in
theorem ggL_law_L_forward : GoodIn wsL_law wsL_forward := goodIn_ca (goodIn_ca (goodIn_ca (goodIn_r _ [136, 137, 138, 139, 140, 141, 2, 142, 22, 143, 144, 145, 146, 147, 148, 149, 150, 151, 152, 153, 154, 21, 69, 70, 71, 72, 20, 155, 156, 157, 158, 19, 17, 159, 160, 161, 162, 14, 16, 296, 297, 298, 299, 300, 301, 302, 303, 304, 305, 306] (by decide +kernel) (by decide +kernel)) (goodIn_sub (fun _ h => List.mem_append_left _ (List.mem_append_left _ (List.mem_append_left _ (List.mem_append_right _ h)))) (by decide +kernel))) (goodIn_sub (fun _ h => List.mem_append_left _ (List.mem_append_left _ (List.mem_append_right _ h))) (by decide +kernel))) (goodIn_sub (fun _ h => List.mem_append_left _ (List.mem_append_right _ h)) (by decide +kernel))
set_option maxRecDepth 20000 in
theorem gL_law_L_forward : GoodIn wsL_law (va_wsS RL 68 yL_forward wsL_forward) := goodIn_app (goodIn_of _ (by decide +kernel)) ggL_law_L_forward
set_option maxRecDepth 20000 in
theorem ggL_law_X1_forward : GoodIn wsL_law wsX1_forward := goodIn_ca (goodIn_r _ [166, 55, 38, 167, 168, 169, 5, 170, 56, 80, 81, 82, 83, 42, 171, 172, 173, 174, 34, 39, 35, 175, 176, 177, 178, 36, 37, 179, 180, 181, 182, 307, 308, 309, 310, 311, 312, 313, 314, 315, 316, 317] (by decide +kernel) (by decide +kernel)) (goodIn_sub (fun _ h => List.mem_append_left _ (List.mem_append_left _ (List.mem_append_left _ (List.mem_append_right _ h)))) (by decide +kernel))
set_option maxRecDepth 20000 in
theorem gL_law_X1_forward : GoodIn wsL_law (wsV RL 73 RX1 yX1_forward wsX1_forward) := goodIn_app (goodIn_of _ (by decide +kernel)) ggL_law_X1_forward
set_option maxRecDepth 20000 in
theorem ggL_law_X1_thrown : GoodIn wsL_law wsX1_thrown := goodIn_r _ [186, 55, 307, 308, 309, 310, 311, 312, 313, 314, 315, 316, 317] (by decide +kernel) (by decide +kernel)
set_option maxRecDepth 20000 in
theorem gL_law_X1_thrown : GoodIn wsL_law (wsV RL 74 RX1 yX1_thrown wsX1_thrown) := goodIn_app (goodIn_of _ (by decide +kernel)) ggL_law_X1_thrown
set_option maxRecDepth 20000 in
theorem ggL_law_L_backward : GoodIn wsL_law wsL_backward := goodIn_ca (goodIn_ca (goodIn_ca (goodIn_r _ [189, 137, 138, 190, 191, 192, 2, 193, 23, 143, 144, 145, 146, 147, 148, 149, 150, 151, 152, 153, 154, 21, 69, 70, 71, 72, 20, 194, 195, 196, 197, 198, 199, 200, 201, 19, 16, 17, 296, 297, 298, 299, 300, 301, 302, 303, 304, 305, 306] (by decide +kernel) (by decide +kernel)) (goodIn_sub (fun _ h => List.mem_append_left _ (List.mem_append_left _ (List.mem_append_left _ (List.mem_append_right _ h)))) (by decide +kernel))) (goodIn_sub (fun _ h => List.mem_append_left _ (List.mem_append_left _ (List.mem_append_right _ h))) (by decide +kernel))) (goodIn_sub (fun _ h => List.mem_append_left _ (List.mem_append_right _ h)) (by decide +kernel))
set_option maxRecDepth 20000 in
theorem gL_law_L_backward : GoodIn wsL_law (va_wsS RL 77 yL_backward wsL_backward) := goodIn_app (goodIn_of _ (by decide +kernel)) ggL_law_L_backward
set_option maxRecDepth 20000 in
theorem ggL_law_X1_backward : GoodIn wsL_law wsX1_backward := goodIn_ca (goodIn_r _ [205, 55, 38, 167, 168, 169, 5, 170, 56, 80, 81, 82, 83, 42, 206, 207, 208, 209, 35, 39, 179, 180, 181, 182, 175, 176, 177, 178, 36, 37, 307, 308, 309, 310, 311, 312, 313, 314, 315, 316, 317] (by decide +kernel) (by decide +kernel)) (goodIn_sub (fun _ h => List.mem_append_left _ (List.mem_append_left _ (List.mem_append_left _ (List.mem_append_right _ h)))) (by decide +kernel))
set_option maxRecDepth 20000 in
theorem gL_law_X1_backward : GoodIn wsL_law (wsV RL 79 RX1 yX1_backward wsX1_backward) := goodIn_app (goodIn_of _ (by decide +kernel)) ggL_law_X1_backward
set_option maxRecDepth 20000 in
theorem ggL_law_X0_total : GoodIn wsL_law wsX0_total := goodIn_ca (goodIn_r _ [213, 21, 155, 156, 157, 2, 158, 19, 20, 22, 17, 159, 160, 161, 162, 14, 16, 214, 215, 216, 217, 296, 297, 298, 299, 300, 301, 302, 303, 304, 305, 306] (by decide +kernel) (by decide +kernel)) (goodIn_sub (fun _ h => List.mem_append_left _ (List.mem_append_left _ (List.mem_append_left _ (List.mem_append_right _ h)))) (by decide +kernel))
set_option maxRecDepth 20000 in
theorem gL_law_X0_total : GoodIn wsL_law (wsV RL 80 RX0 yX0_total wsX0_total) := goodIn_app (goodIn_of _ (by decide +kernel)) ggL_law_X0_total
set_option maxRecDepth 20000 in
theorem ggL_law_X1_total : GoodIn wsL_law wsX1_total := goodIn_ca (goodIn_r _ [221, 55, 222, 223, 224, 5, 225, 56, 42, 38, 171, 172, 173, 174, 34, 39, 35, 175, 176, 177, 178, 36, 37, 179, 180, 181, 182, 307, 308, 309, 310, 311, 312, 313, 314, 315, 316, 317] (by decide +kernel) (by decide +kernel)) (goodIn_sub (fun _ h => List.mem_append_left _ (List.mem_append_left _ (List.mem_append_left _ (List.mem_append_right _ h)))) (by decide +kernel))
set_option maxRecDepth 20000 in
theorem gL_law_X1_total : GoodIn wsL_law (wsV RL 84 RX1 yX1_total wsX1_total) := goodIn_app (goodIn_of _ (by decide +kernel)) ggL_law_X1_total
set_option maxRecDepth 20000 in
theorem ggL_law_X0_best : GoodIn wsL_law wsX0_best := goodIn_ca (goodIn_r _ [229, 21, 24, 230, 231, 232, 2, 233, 19, 20, 17, 234, 235, 236, 237, 14, 16, 26, 238, 239, 240, 241, 296, 297, 298, 299, 300, 301, 302, 303, 304, 305, 306] (by decide +kernel) (by decide +kernel)) (goodIn_sub (fun _ h => List.mem_append_left _ (List.mem_append_left _ (List.mem_append_left _ (List.mem_append_right _ h)))) (by decide +kernel))
set_option maxRecDepth 20000 in
theorem gL_law_X0_best : GoodIn wsL_law (wsV RL 85 RX0 yX0_best wsX0_best) := goodIn_app (goodIn_of _ (by decide +kernel)) ggL_law_X0_best
set_option maxRecDepth 20000 in
theorem ggL_law_X1_best : GoodIn wsL_law wsX1_best := goodIn_ca (goodIn_r _ [245, 55, 56, 38, 246, 247, 248, 5, 249, 42, 34, 39, 35, 175, 176, 177, 178, 36, 37, 179, 180, 181, 182, 250, 251, 252, 253, 254, 255, 256, 257, 307, 308, 309, 310, 311, 312, 313, 314, 315, 316, 317] (by decide +kernel) (by decide +kernel)) (goodIn_sub (fun _ h => List.mem_append_left _ (List.mem_append_left _ (List.mem_append_left _ (List.mem_append_right _ h)))) (by decide +kernel))
set_option maxRecDepth 20000 in
theorem gL_law_X1_best : GoodIn wsL_law (wsV RL 88 RX1 yX1_best wsX1_best) := goodIn_app (goodIn_of _ (by decide +kernel)) ggL_law_X1_best
set_option maxRecDepth 20000 in
theorem ggL_law_X0_bestState : GoodIn wsL_law wsX0_bestState := goodIn_ca (goodIn_r _ [261, 21, 26, 151, 152, 153, 2, 154, 230, 231, 232, 233, 19, 20, 24, 17, 234, 235, 236, 237, 14, 16, 238, 239, 240, 241, 296, 297, 298, 299, 300, 301, 302, 303, 304, 305, 306] (by decide +kernel) (by decide +kernel)) (goodIn_sub (fun _ h => List.mem_append_left _ (List.mem_append_left _ (List.mem_append_left _ (List.mem_append_right _ h)))) (by decide +kernel))
set_option maxRecDepth 20000 in
theorem gL_law_X0_bestState : GoodIn wsL_law (wsV RL 89 RX0 yX0_bestState wsX0_bestState) := goodIn_app (goodIn_of _ (by decide +kernel)) ggL_law_X0_bestState
set_option maxRecDepth 20000 in
theorem ggL_law_X1_bestState : GoodIn wsL_law wsX1_bestState := goodIn_ca (goodIn_r _ [265, 55, 56, 246, 247, 248, 5, 249, 42, 38, 34, 39, 35, 175, 176, 177, 178, 36, 37, 179, 180, 181, 182, 250, 251, 252, 253, 254, 255, 256, 257, 307, 308, 309, 310, 311, 312, 313, 314, 315, 316, 317] (by decide +kernel) (by decide +kernel)) (goodIn_sub (fun _ h => List.mem_append_left _ (List.mem_append_left _ (List.mem_append_left _ (List.mem_append_right _ h)))) (by decide +kernel))
set_option maxRecDepth 20000 in
theorem gL_law_X1_bestState : GoodIn wsL_law (wsV RL 93 RX1 yX1_bestState wsX1_bestState) := goodIn_app (goodIn_of _ (by decide +kernel)) ggL_law_X1_bestState
set_option maxRecDepth 20000 in
theorem ggL_law_L_share : GoodIn wsL_law wsL_share := goodIn_ca (goodIn_ca (goodIn_ca (goodIn_ca (goodIn_r _ [268, 137, 138, 269, 270, 271, 272, 2, 273, 274, 275, 22, 23, 143, 144, 145, 146, 147, 148, 149, 150, 151, 152, 153, 154, 21, 69, 70, 71, 72, 20, 155, 156, 157, 158, 19, 17, 159, 160, 161, 162, 14, 16, 214, 215, 216, 217, 194, 195, 196, 197, 198, 199, 200, 201, 296, 297, 298, 299, 300, 301, 302, 303, 304, 305, 306] (by decide +kernel) (by decide +kernel)) (goodIn_sub (fun _ h => List.mem_append_left _ (List.mem_append_left _ (List.mem_append_left _ (List.mem_append_right _ h)))) (by decide +kernel))) (goodIn_sub (fun _ h => List.mem_append_right _ h) (by decide +kernel))) (goodIn_sub (fun _ h => List.mem_append_left _ (List.mem_append_left _ (List.mem_append_right _ h))) (by decide +kernel))) (goodIn_sub (fun _ h => List.mem_append_left _ (List.mem_append_right _ h)) (by decide +kernel))
set_option maxRecDepth 20000 in
theorem gL_law_L_share : GoodIn wsL_law (va_wsS RL 94 yL_share wsL_share) := goodIn_app (goodIn_of _ (by decide +kernel)) ggL_law_L_share
set_option maxRecDepth 20000 in
theorem ggL_law_X1_share : GoodIn wsL_law wsX1_share := goodIn_ca (goodIn_r _ [279, 55, 38, 167, 168, 169, 5, 170, 56, 80, 81, 82, 83, 42, 222, 223, 224, 225, 171, 172, 173, 174, 34, 39, 35, 175, 176, 177, 178, 36, 37, 179, 180, 181, 182, 206, 207, 208, 209, 307, 308, 309, 310, 311, 312, 313, 314, 315, 316, 317] (by decide +kernel) (by decide +kernel)) (goodIn_sub (fun _ h => List.mem_append_left _ (List.mem_append_left _ (List.mem_append_left _ (List.mem_append_right _ h)))) (by decide +kernel))
set_option maxRecDepth 20000 in
theorem gL_law_X1_share : GoodIn wsL_law (wsV RL 96 RX1 yX1_share wsX1_share) := goodIn_app (goodIn_of _ (by decide +kernel)) ggL_law_X1_share
set_option maxRecDepth 20000 in
theorem ggL_law_X0_possible : GoodIn wsL_law wsX0_possible := goodIn_ca (goodIn_r _ [283, 21, 20, 29, 284, 285, 286, 2, 287, 19, 17, 288, 289, 290, 291, 14, 16, 296, 297, 298, 299, 300, 301, 302, 303, 304, 305, 306] (by decide +kernel) (by decide +kernel)) (goodIn_sub (fun _ h => List.mem_append_left _ (List.mem_append_left _ (List.mem_append_left _ (List.mem_append_right _ h)))) (by decide +kernel))
set_option maxRecDepth 20000 in
theorem gL_law_X0_possible : GoodIn wsL_law (wsV RL 97 RX0 yX0_possible wsX0_possible) := goodIn_app (goodIn_of _ (by decide +kernel)) ggL_law_X0_possible
set_option maxRecDepth 20000 in
theorem ggL_law_X1_possible : GoodIn wsL_law wsX1_possible := goodIn_ca (goodIn_r _ [295, 55, 56, 40, 42, 34, 41, 35, 175, 176, 177, 5, 178, 36, 37, 307, 308, 309, 310, 311, 312, 313, 314, 315, 316, 317] (by decide +kernel) (by decide +kernel)) (goodIn_sub (fun _ h => List.mem_append_left _ (List.mem_append_left _ (List.mem_append_left _ (List.mem_append_right _ h)))) (by decide +kernel))
set_option maxRecDepth 20000 in
theorem gL_law_X1_possible : GoodIn wsL_law (wsV RL 101 RX1 yX1_possible wsX1_possible) := goodIn_app (goodIn_of _ (by decide +kernel)) ggL_law_X1_possible
theorem dL_law_0 : decode cL_law 0 = .ok (.new 8, 3) := by decide +kernel
theorem dL_law_3 : decode cL_law 3 = .ok (.dup, 1) := by decide +kernel
theorem dL_law_4 : decode cL_law 4 = .ok (.invokespecial 25, 3) := by decide +kernel
theorem dL_law_7 : decode cL_law 7 = .ok (.astore_n 1, 1) := by decide +kernel
theorem dL_law_8 : decode cL_law 8 = .ok (.new 26, 3) := by decide +kernel
theorem dL_law_11 : decode cL_law 11 = .ok (.dup, 1) := by decide +kernel
theorem dL_law_12 : decode cL_law 12 = .ok (.invokespecial 28, 3) := by decide +kernel
theorem dL_law_15 : decode cL_law 15 = .ok (.astore_n 2, 1) := by decide +kernel
theorem dL_law_16 : decode cL_law 16 = .ok (.iconst 1, 1) := by decide +kernel
theorem dL_law_17 : decode cL_law 17 = .ok (.newarray .double, 2) := by decide +kernel
theorem dL_law_19 : decode cL_law 19 = .ok (.astore_n 3, 1) := by decide +kernel
theorem dL_law_20 : decode cL_law 20 = .ok (.iconst 0, 1) := by decide +kernel
theorem dL_law_21 : decode cL_law 21 = .ok (.istore 4, 2) := by decide +kernel
theorem dL_law_23 : decode cL_law 23 = .ok (.iload 4, 2) := by decide +kernel
theorem dL_law_25 : decode cL_law 25 = .ok (.aload_n 0, 1) := by decide +kernel
theorem dL_law_26 : decode cL_law 26 = .ok (.arraylength, 1) := by decide +kernel
theorem dL_law_27 : decode cL_law 27 = .ok (.iconst 4, 1) := by decide +kernel
theorem dL_law_28 : decode cL_law 28 = .ok (.isub, 1) := by decide +kernel
theorem dL_law_29 : decode cL_law 29 = .ok (.if_icmp .gt 719, 3) := by decide +kernel
theorem dL_law_32 : decode cL_law 32 = .ok (.aload_n 0, 1) := by decide +kernel
theorem dL_law_33 : decode cL_law 33 = .ok (.iload 4, 2) := by decide +kernel
theorem dL_law_35 : decode cL_law 35 = .ok (.iaload, 1) := by decide +kernel
theorem dL_law_36 : decode cL_law 36 = .ok (.bipush 15, 2) := by decide +kernel
theorem dL_law_38 : decode cL_law 38 = .ok (.iand, 1) := by decide +kernel
theorem dL_law_39 : decode cL_law 39 = .ok (.tableswitch 703 0 14 #[73, 98, 111, 158, 217, 276, 301, 314, 327, 412, 497, 538, 579, 604, 689], 73) := by decide +kernel
theorem dL_law_112 : decode cL_law 112 = .ok (.aload_n 1, 1) := by decide +kernel
theorem dL_law_113 : decode cL_law 113 = .ok (.aload_n 0, 1) := by decide +kernel
theorem dL_law_114 : decode cL_law 114 = .ok (.iload 4, 2) := by decide +kernel
theorem dL_law_116 : decode cL_law 116 = .ok (.iconst 1, 1) := by decide +kernel
theorem dL_law_117 : decode cL_law 117 = .ok (.iadd, 1) := by decide +kernel
theorem dL_law_118 : decode cL_law 118 = .ok (.iaload, 1) := by decide +kernel
theorem dL_law_119 : decode cL_law 119 = .ok (.invokevirtual 29, 3) := by decide +kernel
theorem dL_law_122 : decode cL_law 122 = .ok (.aload_n 2, 1) := by decide +kernel
theorem dL_law_123 : decode cL_law 123 = .ok (.aload_n 0, 1) := by decide +kernel
theorem dL_law_124 : decode cL_law 124 = .ok (.iload 4, 2) := by decide +kernel
theorem dL_law_126 : decode cL_law 126 = .ok (.iconst 1, 1) := by decide +kernel
theorem dL_law_127 : decode cL_law 127 = .ok (.iadd, 1) := by decide +kernel
theorem dL_law_128 : decode cL_law 128 = .ok (.iaload, 1) := by decide +kernel
theorem dL_law_129 : decode cL_law 129 = .ok (.invokevirtual 33, 3) := by decide +kernel
theorem dL_law_132 : decode cL_law 132 = .ok (.if_icmp .eq 610, 3) := by decide +kernel
theorem dL_law_135 : decode cL_law 135 = .ok (.iconst 0, 1) := by decide +kernel
theorem dL_law_136 : decode cL_law 136 = .ok (.ireturn, 1) := by decide +kernel
theorem dL_law_137 : decode cL_law 137 = .ok (.aload_n 1, 1) := by decide +kernel
theorem dL_law_138 : decode cL_law 138 = .ok (.invokevirtual 34, 3) := by decide +kernel
theorem dL_law_141 : decode cL_law 141 = .ok (.aload_n 2, 1) := by decide +kernel
theorem dL_law_142 : decode cL_law 142 = .ok (.invokevirtual 38, 3) := by decide +kernel
theorem dL_law_145 : decode cL_law 145 = .ok (.if_icmp .eq 597, 3) := by decide +kernel
theorem dL_law_148 : decode cL_law 148 = .ok (.iconst 0, 1) := by decide +kernel
theorem dL_law_149 : decode cL_law 149 = .ok (.ireturn, 1) := by decide +kernel
theorem dL_law_150 : decode cL_law 150 = .ok (.aload_n 1, 1) := by decide +kernel
theorem dL_law_151 : decode cL_law 151 = .ok (.aload_n 0, 1) := by decide +kernel
theorem dL_law_152 : decode cL_law 152 = .ok (.iload 4, 2) := by decide +kernel
theorem dL_law_154 : decode cL_law 154 = .ok (.iconst 1, 1) := by decide +kernel
theorem dL_law_155 : decode cL_law 155 = .ok (.iadd, 1) := by decide +kernel
theorem dL_law_156 : decode cL_law 156 = .ok (.iaload, 1) := by decide +kernel
theorem dL_law_157 : decode cL_law 157 = .ok (.aload_n 0, 1) := by decide +kernel
theorem dL_law_158 : decode cL_law 158 = .ok (.iload 4, 2) := by decide +kernel
theorem dL_law_160 : decode cL_law 160 = .ok (.iconst 2, 1) := by decide +kernel
theorem dL_law_161 : decode cL_law 161 = .ok (.iadd, 1) := by decide +kernel
theorem dL_law_162 : decode cL_law 162 = .ok (.iaload, 1) := by decide +kernel
theorem dL_law_163 : decode cL_law 163 = .ok (.i2d, 1) := by decide +kernel
theorem dL_law_164 : decode cL_law 164 = .ok (.ldc2_w 39, 3) := by decide +kernel
theorem dL_law_167 : decode cL_law 167 = .ok (.dmul, 1) := by decide +kernel
theorem dL_law_168 : decode cL_law 168 = .ok (.invokevirtual 41, 3) := by decide +kernel
theorem dL_law_171 : decode cL_law 171 = .ok (.aload_n 2, 1) := by decide +kernel
theorem dL_law_172 : decode cL_law 172 = .ok (.aload_n 0, 1) := by decide +kernel
theorem dL_law_173 : decode cL_law 173 = .ok (.iload 4, 2) := by decide +kernel
theorem dL_law_175 : decode cL_law 175 = .ok (.iconst 1, 1) := by decide +kernel
theorem dL_law_176 : decode cL_law 176 = .ok (.iadd, 1) := by decide +kernel
theorem dL_law_177 : decode cL_law 177 = .ok (.iaload, 1) := by decide +kernel
theorem dL_law_178 : decode cL_law 178 = .ok (.aload_n 0, 1) := by decide +kernel
theorem dL_law_179 : decode cL_law 179 = .ok (.iload 4, 2) := by decide +kernel
theorem dL_law_181 : decode cL_law 181 = .ok (.iconst 2, 1) := by decide +kernel
theorem dL_law_182 : decode cL_law 182 = .ok (.iadd, 1) := by decide +kernel
theorem dL_law_183 : decode cL_law 183 = .ok (.iaload, 1) := by decide +kernel
theorem dL_law_184 : decode cL_law 184 = .ok (.i2d, 1) := by decide +kernel
theorem dL_law_185 : decode cL_law 185 = .ok (.ldc2_w 39, 3) := by decide +kernel
theorem dL_law_188 : decode cL_law 188 = .ok (.dmul, 1) := by decide +kernel
theorem dL_law_189 : decode cL_law 189 = .ok (.invokevirtual 45, 3) := by decide +kernel
theorem dL_law_192 : decode cL_law 192 = .ok (.if_icmp .eq 550, 3) := by decide +kernel
theorem dL_law_195 : decode cL_law 195 = .ok (.iconst 0, 1) := by decide +kernel
theorem dL_law_196 : decode cL_law 196 = .ok (.ireturn, 1) := by decide +kernel
theorem dL_law_197 : decode cL_law 197 = .ok (.aload_n 1, 1) := by decide +kernel
theorem dL_law_198 : decode cL_law 198 = .ok (.aload_n 0, 1) := by decide +kernel
theorem dL_law_199 : decode cL_law 199 = .ok (.iload 4, 2) := by decide +kernel
theorem dL_law_201 : decode cL_law 201 = .ok (.iconst 1, 1) := by decide +kernel
theorem dL_law_202 : decode cL_law 202 = .ok (.iadd, 1) := by decide +kernel
theorem dL_law_203 : decode cL_law 203 = .ok (.iaload, 1) := by decide +kernel
theorem dL_law_204 : decode cL_law 204 = .ok (.aload_n 0, 1) := by decide +kernel
theorem dL_law_205 : decode cL_law 205 = .ok (.iload 4, 2) := by decide +kernel
theorem dL_law_207 : decode cL_law 207 = .ok (.iconst 2, 1) := by decide +kernel
theorem dL_law_208 : decode cL_law 208 = .ok (.iadd, 1) := by decide +kernel
theorem dL_law_209 : decode cL_law 209 = .ok (.iaload, 1) := by decide +kernel
theorem dL_law_210 : decode cL_law 210 = .ok (.aload_n 0, 1) := by decide +kernel
theorem dL_law_211 : decode cL_law 211 = .ok (.iload 4, 2) := by decide +kernel
theorem dL_law_213 : decode cL_law 213 = .ok (.iconst 3, 1) := by decide +kernel
theorem dL_law_214 : decode cL_law 214 = .ok (.iadd, 1) := by decide +kernel
theorem dL_law_215 : decode cL_law 215 = .ok (.iaload, 1) := by decide +kernel
theorem dL_law_216 : decode cL_law 216 = .ok (.i2d, 1) := by decide +kernel
theorem dL_law_217 : decode cL_law 217 = .ok (.ldc2_w 39, 3) := by decide +kernel
theorem dL_law_220 : decode cL_law 220 = .ok (.dmul, 1) := by decide +kernel
theorem dL_law_221 : decode cL_law 221 = .ok (.invokevirtual 46, 3) := by decide +kernel
theorem dL_law_224 : decode cL_law 224 = .ok (.aload_n 2, 1) := by decide +kernel
theorem dL_law_225 : decode cL_law 225 = .ok (.aload_n 0, 1) := by decide +kernel
theorem dL_law_226 : decode cL_law 226 = .ok (.iload 4, 2) := by decide +kernel
theorem dL_law_228 : decode cL_law 228 = .ok (.iconst 1, 1) := by decide +kernel
theorem dL_law_229 : decode cL_law 229 = .ok (.iadd, 1) := by decide +kernel
theorem dL_law_230 : decode cL_law 230 = .ok (.iaload, 1) := by decide +kernel
theorem dL_law_231 : decode cL_law 231 = .ok (.aload_n 0, 1) := by decide +kernel
theorem dL_law_232 : decode cL_law 232 = .ok (.iload 4, 2) := by decide +kernel
theorem dL_law_234 : decode cL_law 234 = .ok (.iconst 2, 1) := by decide +kernel
theorem dL_law_235 : decode cL_law 235 = .ok (.iadd, 1) := by decide +kernel
theorem dL_law_236 : decode cL_law 236 = .ok (.iaload, 1) := by decide +kernel
theorem dL_law_237 : decode cL_law 237 = .ok (.aload_n 0, 1) := by decide +kernel
theorem dL_law_238 : decode cL_law 238 = .ok (.iload 4, 2) := by decide +kernel
theorem dL_law_240 : decode cL_law 240 = .ok (.iconst 3, 1) := by decide +kernel
theorem dL_law_241 : decode cL_law 241 = .ok (.iadd, 1) := by decide +kernel
theorem dL_law_242 : decode cL_law 242 = .ok (.iaload, 1) := by decide +kernel
theorem dL_law_243 : decode cL_law 243 = .ok (.i2d, 1) := by decide +kernel
theorem dL_law_244 : decode cL_law 244 = .ok (.ldc2_w 39, 3) := by decide +kernel
theorem dL_law_247 : decode cL_law 247 = .ok (.dmul, 1) := by decide +kernel
theorem dL_law_248 : decode cL_law 248 = .ok (.invokevirtual 50, 3) := by decide +kernel
theorem dL_law_251 : decode cL_law 251 = .ok (.if_icmp .eq 491, 3) := by decide +kernel
theorem dL_law_254 : decode cL_law 254 = .ok (.iconst 0, 1) := by decide +kernel
theorem dL_law_255 : decode cL_law 255 = .ok (.ireturn, 1) := by decide +kernel
theorem dL_law_256 : decode cL_law 256 = .ok (.aload_n 1, 1) := by decide +kernel
theorem dL_law_257 : decode cL_law 257 = .ok (.aload_n 0, 1) := by decide +kernel
theorem dL_law_258 : decode cL_law 258 = .ok (.iload 4, 2) := by decide +kernel
theorem dL_law_260 : decode cL_law 260 = .ok (.iconst 1, 1) := by decide +kernel
theorem dL_law_261 : decode cL_law 261 = .ok (.iadd, 1) := by decide +kernel
theorem dL_law_262 : decode cL_law 262 = .ok (.iaload, 1) := by decide +kernel
theorem dL_law_263 : decode cL_law 263 = .ok (.aload_n 0, 1) := by decide +kernel
theorem dL_law_264 : decode cL_law 264 = .ok (.iload 4, 2) := by decide +kernel
theorem dL_law_266 : decode cL_law 266 = .ok (.iconst 2, 1) := by decide +kernel
theorem dL_law_267 : decode cL_law 267 = .ok (.iadd, 1) := by decide +kernel
theorem dL_law_268 : decode cL_law 268 = .ok (.iaload, 1) := by decide +kernel
theorem dL_law_269 : decode cL_law 269 = .ok (.aload_n 0, 1) := by decide +kernel
theorem dL_law_270 : decode cL_law 270 = .ok (.iload 4, 2) := by decide +kernel
theorem dL_law_272 : decode cL_law 272 = .ok (.iconst 3, 1) := by decide +kernel
theorem dL_law_273 : decode cL_law 273 = .ok (.iadd, 1) := by decide +kernel
theorem dL_law_274 : decode cL_law 274 = .ok (.iaload, 1) := by decide +kernel
theorem dL_law_275 : decode cL_law 275 = .ok (.i2d, 1) := by decide +kernel
theorem dL_law_276 : decode cL_law 276 = .ok (.ldc2_w 39, 3) := by decide +kernel
theorem dL_law_279 : decode cL_law 279 = .ok (.dmul, 1) := by decide +kernel
theorem dL_law_280 : decode cL_law 280 = .ok (.invokevirtual 51, 3) := by decide +kernel
theorem dL_law_283 : decode cL_law 283 = .ok (.aload_n 2, 1) := by decide +kernel
theorem dL_law_284 : decode cL_law 284 = .ok (.aload_n 0, 1) := by decide +kernel
theorem dL_law_285 : decode cL_law 285 = .ok (.iload 4, 2) := by decide +kernel
theorem dL_law_287 : decode cL_law 287 = .ok (.iconst 1, 1) := by decide +kernel
theorem dL_law_288 : decode cL_law 288 = .ok (.iadd, 1) := by decide +kernel
theorem dL_law_289 : decode cL_law 289 = .ok (.iaload, 1) := by decide +kernel
theorem dL_law_290 : decode cL_law 290 = .ok (.aload_n 0, 1) := by decide +kernel
theorem dL_law_291 : decode cL_law 291 = .ok (.iload 4, 2) := by decide +kernel
theorem dL_law_293 : decode cL_law 293 = .ok (.iconst 2, 1) := by decide +kernel
theorem dL_law_294 : decode cL_law 294 = .ok (.iadd, 1) := by decide +kernel
theorem dL_law_295 : decode cL_law 295 = .ok (.iaload, 1) := by decide +kernel
theorem dL_law_296 : decode cL_law 296 = .ok (.aload_n 0, 1) := by decide +kernel
theorem dL_law_297 : decode cL_law 297 = .ok (.iload 4, 2) := by decide +kernel
theorem dL_law_299 : decode cL_law 299 = .ok (.iconst 3, 1) := by decide +kernel
theorem dL_law_300 : decode cL_law 300 = .ok (.iadd, 1) := by decide +kernel
theorem dL_law_301 : decode cL_law 301 = .ok (.iaload, 1) := by decide +kernel
theorem dL_law_302 : decode cL_law 302 = .ok (.i2d, 1) := by decide +kernel
theorem dL_law_303 : decode cL_law 303 = .ok (.ldc2_w 39, 3) := by decide +kernel
theorem dL_law_306 : decode cL_law 306 = .ok (.dmul, 1) := by decide +kernel
theorem dL_law_307 : decode cL_law 307 = .ok (.invokevirtual 54, 3) := by decide +kernel
theorem dL_law_310 : decode cL_law 310 = .ok (.if_icmp .eq 432, 3) := by decide +kernel
theorem dL_law_313 : decode cL_law 313 = .ok (.iconst 0, 1) := by decide +kernel
theorem dL_law_314 : decode cL_law 314 = .ok (.ireturn, 1) := by decide +kernel
theorem dL_law_315 : decode cL_law 315 = .ok (.aload_n 1, 1) := by decide +kernel
theorem dL_law_316 : decode cL_law 316 = .ok (.aload_n 0, 1) := by decide +kernel
theorem dL_law_317 : decode cL_law 317 = .ok (.iload 4, 2) := by decide +kernel
theorem dL_law_319 : decode cL_law 319 = .ok (.iconst 1, 1) := by decide +kernel
theorem dL_law_320 : decode cL_law 320 = .ok (.iadd, 1) := by decide +kernel
theorem dL_law_321 : decode cL_law 321 = .ok (.iaload, 1) := by decide +kernel
theorem dL_law_322 : decode cL_law 322 = .ok (.invokevirtual 55, 3) := by decide +kernel
theorem dL_law_325 : decode cL_law 325 = .ok (.aload_n 2, 1) := by decide +kernel
theorem dL_law_326 : decode cL_law 326 = .ok (.aload_n 0, 1) := by decide +kernel
theorem dL_law_327 : decode cL_law 327 = .ok (.iload 4, 2) := by decide +kernel
theorem dL_law_329 : decode cL_law 329 = .ok (.iconst 1, 1) := by decide +kernel
theorem dL_law_330 : decode cL_law 330 = .ok (.iadd, 1) := by decide +kernel
theorem dL_law_331 : decode cL_law 331 = .ok (.iaload, 1) := by decide +kernel
theorem dL_law_332 : decode cL_law 332 = .ok (.invokevirtual 58, 3) := by decide +kernel
theorem dL_law_335 : decode cL_law 335 = .ok (.if_icmp .eq 407, 3) := by decide +kernel
theorem dL_law_338 : decode cL_law 338 = .ok (.iconst 0, 1) := by decide +kernel
theorem dL_law_339 : decode cL_law 339 = .ok (.ireturn, 1) := by decide +kernel
theorem dL_law_340 : decode cL_law 340 = .ok (.aload_n 1, 1) := by decide +kernel
theorem dL_law_341 : decode cL_law 341 = .ok (.invokevirtual 59, 3) := by decide +kernel
theorem dL_law_344 : decode cL_law 344 = .ok (.aload_n 2, 1) := by decide +kernel
theorem dL_law_345 : decode cL_law 345 = .ok (.invokevirtual 63, 3) := by decide +kernel
theorem dL_law_348 : decode cL_law 348 = .ok (.if_icmp .eq 394, 3) := by decide +kernel
theorem dL_law_351 : decode cL_law 351 = .ok (.iconst 0, 1) := by decide +kernel
theorem dL_law_352 : decode cL_law 352 = .ok (.ireturn, 1) := by decide +kernel
theorem dL_law_353 : decode cL_law 353 = .ok (.aload_n 1, 1) := by decide +kernel
theorem dL_law_354 : decode cL_law 354 = .ok (.invokevirtual 64, 3) := by decide +kernel
theorem dL_law_357 : decode cL_law 357 = .ok (.aload_n 2, 1) := by decide +kernel
theorem dL_law_358 : decode cL_law 358 = .ok (.invokevirtual 67, 3) := by decide +kernel
theorem dL_law_361 : decode cL_law 361 = .ok (.if_icmp .eq 381, 3) := by decide +kernel
theorem dL_law_364 : decode cL_law 364 = .ok (.iconst 0, 1) := by decide +kernel
theorem dL_law_365 : decode cL_law 365 = .ok (.ireturn, 1) := by decide +kernel
theorem dL_law_366 : decode cL_law 366 = .ok (.aload_n 1, 1) := by decide +kernel
theorem dL_law_367 : decode cL_law 367 = .ok (.aload_n 0, 1) := by decide +kernel
theorem dL_law_368 : decode cL_law 368 = .ok (.iload 4, 2) := by decide +kernel
theorem dL_law_370 : decode cL_law 370 = .ok (.iconst 1, 1) := by decide +kernel
theorem dL_law_371 : decode cL_law 371 = .ok (.iadd, 1) := by decide +kernel
theorem dL_law_372 : decode cL_law 372 = .ok (.iaload, 1) := by decide +kernel
theorem dL_law_373 : decode cL_law 373 = .ok (.aload_n 0, 1) := by decide +kernel
theorem dL_law_374 : decode cL_law 374 = .ok (.iload 4, 2) := by decide +kernel
theorem dL_law_376 : decode cL_law 376 = .ok (.iconst 2, 1) := by decide +kernel
theorem dL_law_377 : decode cL_law 377 = .ok (.iadd, 1) := by decide +kernel
theorem dL_law_378 : decode cL_law 378 = .ok (.iaload, 1) := by decide +kernel
theorem dL_law_379 : decode cL_law 379 = .ok (.aload_n 3, 1) := by decide +kernel
theorem dL_law_380 : decode cL_law 380 = .ok (.invokestatic 68, 3) := by decide +kernel
theorem dL_law_383 : decode cL_law 383 = .ok (.istore 5, 2) := by decide +kernel
theorem dL_law_385 : decode cL_law 385 = .ok (.aload_n 2, 1) := by decide +kernel
theorem dL_law_386 : decode cL_law 386 = .ok (.aload_n 0, 1) := by decide +kernel
theorem dL_law_387 : decode cL_law 387 = .ok (.iload 4, 2) := by decide +kernel
theorem dL_law_389 : decode cL_law 389 = .ok (.iconst 1, 1) := by decide +kernel
theorem dL_law_390 : decode cL_law 390 = .ok (.iadd, 1) := by decide +kernel
theorem dL_law_391 : decode cL_law 391 = .ok (.iaload, 1) := by decide +kernel
theorem dL_law_392 : decode cL_law 392 = .ok (.aload_n 0, 1) := by decide +kernel
theorem dL_law_393 : decode cL_law 393 = .ok (.iload 4, 2) := by decide +kernel
theorem dL_law_395 : decode cL_law 395 = .ok (.iconst 2, 1) := by decide +kernel
theorem dL_law_396 : decode cL_law 396 = .ok (.iadd, 1) := by decide +kernel
theorem dL_law_397 : decode cL_law 397 = .ok (.iaload, 1) := by decide +kernel
theorem dL_law_398 : decode cL_law 398 = .ok (.invokevirtual 73, 3) := by decide +kernel
theorem dL_law_401 : decode cL_law 401 = .ok (.dstore 6, 2) := by decide +kernel
theorem dL_law_403 : decode cL_law 403 = .ok (.aload_n 2, 1) := by decide +kernel
theorem dL_law_404 : decode cL_law 404 = .ok (.invokevirtual 74, 3) := by decide +kernel
theorem dL_law_407 : decode cL_law 407 = .ok (.iload 5, 2) := by decide +kernel
theorem dL_law_409 : decode cL_law 409 = .ok (.if_icmp .eq 5, 3) := by decide +kernel
theorem dL_law_412 : decode cL_law 412 = .ok (.iconst 0, 1) := by decide +kernel
theorem dL_law_413 : decode cL_law 413 = .ok (.ireturn, 1) := by decide +kernel
theorem dL_law_414 : decode cL_law 414 = .ok (.iload 5, 2) := by decide +kernel
theorem dL_law_416 : decode cL_law 416 = .ok (.ifCond .ne 32, 3) := by decide +kernel
theorem dL_law_419 : decode cL_law 419 = .ok (.aload_n 3, 1) := by decide +kernel
theorem dL_law_420 : decode cL_law 420 = .ok (.iconst 0, 1) := by decide +kernel
theorem dL_law_421 : decode cL_law 421 = .ok (.daload, 1) := by decide +kernel
theorem dL_law_422 : decode cL_law 422 = .ok (.dload 6, 2) := by decide +kernel
theorem dL_law_424 : decode cL_law 424 = .ok (.dcmp .l, 1) := by decide +kernel
theorem dL_law_425 : decode cL_law 425 = .ok (.ifCond .eq 23, 3) := by decide +kernel
theorem dL_law_428 : decode cL_law 428 = .ok (.aload_n 3, 1) := by decide +kernel
theorem dL_law_429 : decode cL_law 429 = .ok (.iconst 0, 1) := by decide +kernel
theorem dL_law_430 : decode cL_law 430 = .ok (.daload, 1) := by decide +kernel
theorem dL_law_431 : decode cL_law 431 = .ok (.aload_n 3, 1) := by decide +kernel
theorem dL_law_432 : decode cL_law 432 = .ok (.iconst 0, 1) := by decide +kernel
theorem dL_law_433 : decode cL_law 433 = .ok (.daload, 1) := by decide +kernel
theorem dL_law_434 : decode cL_law 434 = .ok (.dcmp .l, 1) := by decide +kernel
theorem dL_law_435 : decode cL_law 435 = .ok (.ifCond .eq 11, 3) := by decide +kernel
theorem dL_law_438 : decode cL_law 438 = .ok (.dload 6, 2) := by decide +kernel
theorem dL_law_440 : decode cL_law 440 = .ok (.dload 6, 2) := by decide +kernel
theorem dL_law_442 : decode cL_law 442 = .ok (.dcmp .l, 1) := by decide +kernel
theorem dL_law_443 : decode cL_law 443 = .ok (.ifCond .ne 5, 3) := by decide +kernel
theorem dL_law_446 : decode cL_law 446 = .ok (.iconst 0, 1) := by decide +kernel
theorem dL_law_447 : decode cL_law 447 = .ok (.ireturn, 1) := by decide +kernel
theorem dL_law_448 : decode cL_law 448 = .ok (.goto 294, 3) := by decide +kernel
theorem dL_law_451 : decode cL_law 451 = .ok (.aload_n 1, 1) := by decide +kernel
theorem dL_law_452 : decode cL_law 452 = .ok (.aload_n 0, 1) := by decide +kernel
theorem dL_law_453 : decode cL_law 453 = .ok (.iload 4, 2) := by decide +kernel
theorem dL_law_455 : decode cL_law 455 = .ok (.iconst 1, 1) := by decide +kernel
theorem dL_law_456 : decode cL_law 456 = .ok (.iadd, 1) := by decide +kernel
theorem dL_law_457 : decode cL_law 457 = .ok (.iaload, 1) := by decide +kernel
theorem dL_law_458 : decode cL_law 458 = .ok (.aload_n 0, 1) := by decide +kernel
theorem dL_law_459 : decode cL_law 459 = .ok (.iload 4, 2) := by decide +kernel
theorem dL_law_461 : decode cL_law 461 = .ok (.iconst 2, 1) := by decide +kernel
theorem dL_law_462 : decode cL_law 462 = .ok (.iadd, 1) := by decide +kernel
theorem dL_law_463 : decode cL_law 463 = .ok (.iaload, 1) := by decide +kernel
theorem dL_law_464 : decode cL_law 464 = .ok (.aload_n 3, 1) := by decide +kernel
theorem dL_law_465 : decode cL_law 465 = .ok (.invokestatic 77, 3) := by decide +kernel
theorem dL_law_468 : decode cL_law 468 = .ok (.istore 5, 2) := by decide +kernel
theorem dL_law_470 : decode cL_law 470 = .ok (.aload_n 2, 1) := by decide +kernel
theorem dL_law_471 : decode cL_law 471 = .ok (.aload_n 0, 1) := by decide +kernel
theorem dL_law_472 : decode cL_law 472 = .ok (.iload 4, 2) := by decide +kernel
theorem dL_law_474 : decode cL_law 474 = .ok (.iconst 1, 1) := by decide +kernel
theorem dL_law_475 : decode cL_law 475 = .ok (.iadd, 1) := by decide +kernel
theorem dL_law_476 : decode cL_law 476 = .ok (.iaload, 1) := by decide +kernel
theorem dL_law_477 : decode cL_law 477 = .ok (.aload_n 0, 1) := by decide +kernel
theorem dL_law_478 : decode cL_law 478 = .ok (.iload 4, 2) := by decide +kernel
theorem dL_law_480 : decode cL_law 480 = .ok (.iconst 2, 1) := by decide +kernel
theorem dL_law_481 : decode cL_law 481 = .ok (.iadd, 1) := by decide +kernel
theorem dL_law_482 : decode cL_law 482 = .ok (.iaload, 1) := by decide +kernel
theorem dL_law_483 : decode cL_law 483 = .ok (.invokevirtual 79, 3) := by decide +kernel
theorem dL_law_486 : decode cL_law 486 = .ok (.dstore 6, 2) := by decide +kernel
theorem dL_law_488 : decode cL_law 488 = .ok (.aload_n 2, 1) := by decide +kernel
theorem dL_law_489 : decode cL_law 489 = .ok (.invokevirtual 74, 3) := by decide +kernel
theorem dL_law_492 : decode cL_law 492 = .ok (.iload 5, 2) := by decide +kernel
theorem dL_law_494 : decode cL_law 494 = .ok (.if_icmp .eq 5, 3) := by decide +kernel
theorem dL_law_497 : decode cL_law 497 = .ok (.iconst 0, 1) := by decide +kernel
theorem dL_law_498 : decode cL_law 498 = .ok (.ireturn, 1) := by decide +kernel
theorem dL_law_499 : decode cL_law 499 = .ok (.iload 5, 2) := by decide +kernel
theorem dL_law_501 : decode cL_law 501 = .ok (.ifCond .ne 32, 3) := by decide +kernel
theorem dL_law_504 : decode cL_law 504 = .ok (.aload_n 3, 1) := by decide +kernel
theorem dL_law_505 : decode cL_law 505 = .ok (.iconst 0, 1) := by decide +kernel
theorem dL_law_506 : decode cL_law 506 = .ok (.daload, 1) := by decide +kernel
theorem dL_law_507 : decode cL_law 507 = .ok (.dload 6, 2) := by decide +kernel
theorem dL_law_509 : decode cL_law 509 = .ok (.dcmp .l, 1) := by decide +kernel
theorem dL_law_510 : decode cL_law 510 = .ok (.ifCond .eq 23, 3) := by decide +kernel
theorem dL_law_513 : decode cL_law 513 = .ok (.aload_n 3, 1) := by decide +kernel
theorem dL_law_514 : decode cL_law 514 = .ok (.iconst 0, 1) := by decide +kernel
theorem dL_law_515 : decode cL_law 515 = .ok (.daload, 1) := by decide +kernel
theorem dL_law_516 : decode cL_law 516 = .ok (.aload_n 3, 1) := by decide +kernel
theorem dL_law_517 : decode cL_law 517 = .ok (.iconst 0, 1) := by decide +kernel
theorem dL_law_518 : decode cL_law 518 = .ok (.daload, 1) := by decide +kernel
theorem dL_law_519 : decode cL_law 519 = .ok (.dcmp .l, 1) := by decide +kernel
theorem dL_law_520 : decode cL_law 520 = .ok (.ifCond .eq 11, 3) := by decide +kernel
theorem dL_law_523 : decode cL_law 523 = .ok (.dload 6, 2) := by decide +kernel
theorem dL_law_525 : decode cL_law 525 = .ok (.dload 6, 2) := by decide +kernel
theorem dL_law_527 : decode cL_law 527 = .ok (.dcmp .l, 1) := by decide +kernel
theorem dL_law_528 : decode cL_law 528 = .ok (.ifCond .ne 5, 3) := by decide +kernel
theorem dL_law_531 : decode cL_law 531 = .ok (.iconst 0, 1) := by decide +kernel
theorem dL_law_532 : decode cL_law 532 = .ok (.ireturn, 1) := by decide +kernel
theorem dL_law_533 : decode cL_law 533 = .ok (.goto 209, 3) := by decide +kernel
theorem dL_law_536 : decode cL_law 536 = .ok (.aload_n 1, 1) := by decide +kernel
theorem dL_law_537 : decode cL_law 537 = .ok (.invokevirtual 80, 3) := by decide +kernel
theorem dL_law_540 : decode cL_law 540 = .ok (.dstore 5, 2) := by decide +kernel
theorem dL_law_542 : decode cL_law 542 = .ok (.aload_n 2, 1) := by decide +kernel
theorem dL_law_543 : decode cL_law 543 = .ok (.invokevirtual 84, 3) := by decide +kernel
theorem dL_law_546 : decode cL_law 546 = .ok (.dstore 7, 2) := by decide +kernel
theorem dL_law_548 : decode cL_law 548 = .ok (.dload 5, 2) := by decide +kernel
theorem dL_law_550 : decode cL_law 550 = .ok (.dload 7, 2) := by decide +kernel
theorem dL_law_552 : decode cL_law 552 = .ok (.dcmp .l, 1) := by decide +kernel
theorem dL_law_553 : decode cL_law 553 = .ok (.ifCond .eq 21, 3) := by decide +kernel
theorem dL_law_556 : decode cL_law 556 = .ok (.dload 5, 2) := by decide +kernel
theorem dL_law_558 : decode cL_law 558 = .ok (.dload 5, 2) := by decide +kernel
theorem dL_law_560 : decode cL_law 560 = .ok (.dcmp .l, 1) := by decide +kernel
theorem dL_law_561 : decode cL_law 561 = .ok (.ifCond .eq 11, 3) := by decide +kernel
theorem dL_law_564 : decode cL_law 564 = .ok (.dload 7, 2) := by decide +kernel
theorem dL_law_566 : decode cL_law 566 = .ok (.dload 7, 2) := by decide +kernel
theorem dL_law_568 : decode cL_law 568 = .ok (.dcmp .l, 1) := by decide +kernel
theorem dL_law_569 : decode cL_law 569 = .ok (.ifCond .ne 5, 3) := by decide +kernel
theorem dL_law_572 : decode cL_law 572 = .ok (.iconst 0, 1) := by decide +kernel
theorem dL_law_573 : decode cL_law 573 = .ok (.ireturn, 1) := by decide +kernel
theorem dL_law_574 : decode cL_law 574 = .ok (.goto 168, 3) := by decide +kernel
theorem dL_law_577 : decode cL_law 577 = .ok (.aload_n 1, 1) := by decide +kernel
theorem dL_law_578 : decode cL_law 578 = .ok (.invokevirtual 85, 3) := by decide +kernel
theorem dL_law_581 : decode cL_law 581 = .ok (.dstore 5, 2) := by decide +kernel
theorem dL_law_583 : decode cL_law 583 = .ok (.aload_n 2, 1) := by decide +kernel
theorem dL_law_584 : decode cL_law 584 = .ok (.invokevirtual 88, 3) := by decide +kernel
theorem dL_law_587 : decode cL_law 587 = .ok (.dstore 7, 2) := by decide +kernel
theorem dL_law_589 : decode cL_law 589 = .ok (.dload 5, 2) := by decide +kernel
theorem dL_law_591 : decode cL_law 591 = .ok (.dload 7, 2) := by decide +kernel
theorem dL_law_593 : decode cL_law 593 = .ok (.dcmp .l, 1) := by decide +kernel
theorem dL_law_594 : decode cL_law 594 = .ok (.ifCond .eq 21, 3) := by decide +kernel
theorem dL_law_597 : decode cL_law 597 = .ok (.dload 5, 2) := by decide +kernel
theorem dL_law_599 : decode cL_law 599 = .ok (.dload 5, 2) := by decide +kernel
theorem dL_law_601 : decode cL_law 601 = .ok (.dcmp .l, 1) := by decide +kernel
theorem dL_law_602 : decode cL_law 602 = .ok (.ifCond .eq 11, 3) := by decide +kernel
theorem dL_law_605 : decode cL_law 605 = .ok (.dload 7, 2) := by decide +kernel
theorem dL_law_607 : decode cL_law 607 = .ok (.dload 7, 2) := by decide +kernel
theorem dL_law_609 : decode cL_law 609 = .ok (.dcmp .l, 1) := by decide +kernel
theorem dL_law_610 : decode cL_law 610 = .ok (.ifCond .ne 5, 3) := by decide +kernel
theorem dL_law_613 : decode cL_law 613 = .ok (.iconst 0, 1) := by decide +kernel
theorem dL_law_614 : decode cL_law 614 = .ok (.ireturn, 1) := by decide +kernel
theorem dL_law_615 : decode cL_law 615 = .ok (.goto 127, 3) := by decide +kernel
theorem dL_law_618 : decode cL_law 618 = .ok (.aload_n 1, 1) := by decide +kernel
theorem dL_law_619 : decode cL_law 619 = .ok (.aload_n 0, 1) := by decide +kernel
theorem dL_law_620 : decode cL_law 620 = .ok (.iload 4, 2) := by decide +kernel
theorem dL_law_622 : decode cL_law 622 = .ok (.iconst 1, 1) := by decide +kernel
theorem dL_law_623 : decode cL_law 623 = .ok (.iadd, 1) := by decide +kernel
theorem dL_law_624 : decode cL_law 624 = .ok (.iaload, 1) := by decide +kernel
theorem dL_law_625 : decode cL_law 625 = .ok (.invokevirtual 89, 3) := by decide +kernel
theorem dL_law_628 : decode cL_law 628 = .ok (.aload_n 2, 1) := by decide +kernel
theorem dL_law_629 : decode cL_law 629 = .ok (.aload_n 0, 1) := by decide +kernel
theorem dL_law_630 : decode cL_law 630 = .ok (.iload 4, 2) := by decide +kernel
theorem dL_law_632 : decode cL_law 632 = .ok (.iconst 1, 1) := by decide +kernel
theorem dL_law_633 : decode cL_law 633 = .ok (.iadd, 1) := by decide +kernel
theorem dL_law_634 : decode cL_law 634 = .ok (.iaload, 1) := by decide +kernel
theorem dL_law_635 : decode cL_law 635 = .ok (.invokevirtual 93, 3) := by decide +kernel
theorem dL_law_638 : decode cL_law 638 = .ok (.if_icmp .eq 104, 3) := by decide +kernel
theorem dL_law_641 : decode cL_law 641 = .ok (.iconst 0, 1) := by decide +kernel
theorem dL_law_642 : decode cL_law 642 = .ok (.ireturn, 1) := by decide +kernel
theorem dL_law_643 : decode cL_law 643 = .ok (.aload_n 1, 1) := by decide +kernel
theorem dL_law_644 : decode cL_law 644 = .ok (.aload_n 0, 1) := by decide +kernel
theorem dL_law_645 : decode cL_law 645 = .ok (.iload 4, 2) := by decide +kernel
theorem dL_law_647 : decode cL_law 647 = .ok (.iconst 1, 1) := by decide +kernel
theorem dL_law_648 : decode cL_law 648 = .ok (.iadd, 1) := by decide +kernel
theorem dL_law_649 : decode cL_law 649 = .ok (.iaload, 1) := by decide +kernel
theorem dL_law_650 : decode cL_law 650 = .ok (.aload_n 0, 1) := by decide +kernel
theorem dL_law_651 : decode cL_law 651 = .ok (.iload 4, 2) := by decide +kernel
theorem dL_law_653 : decode cL_law 653 = .ok (.iconst 2, 1) := by decide +kernel
theorem dL_law_654 : decode cL_law 654 = .ok (.iadd, 1) := by decide +kernel
theorem dL_law_655 : decode cL_law 655 = .ok (.iaload, 1) := by decide +kernel
theorem dL_law_656 : decode cL_law 656 = .ok (.aload_n 3, 1) := by decide +kernel
theorem dL_law_657 : decode cL_law 657 = .ok (.invokestatic 94, 3) := by decide +kernel
theorem dL_law_660 : decode cL_law 660 = .ok (.istore 5, 2) := by decide +kernel
theorem dL_law_662 : decode cL_law 662 = .ok (.aload_n 2, 1) := by decide +kernel
theorem dL_law_663 : decode cL_law 663 = .ok (.aload_n 0, 1) := by decide +kernel
theorem dL_law_664 : decode cL_law 664 = .ok (.iload 4, 2) := by decide +kernel
theorem dL_law_666 : decode cL_law 666 = .ok (.iconst 1, 1) := by decide +kernel
theorem dL_law_667 : decode cL_law 667 = .ok (.iadd, 1) := by decide +kernel
theorem dL_law_668 : decode cL_law 668 = .ok (.iaload, 1) := by decide +kernel
theorem dL_law_669 : decode cL_law 669 = .ok (.aload_n 0, 1) := by decide +kernel
theorem dL_law_670 : decode cL_law 670 = .ok (.iload 4, 2) := by decide +kernel
theorem dL_law_672 : decode cL_law 672 = .ok (.iconst 2, 1) := by decide +kernel
theorem dL_law_673 : decode cL_law 673 = .ok (.iadd, 1) := by decide +kernel
theorem dL_law_674 : decode cL_law 674 = .ok (.iaload, 1) := by decide +kernel
theorem dL_law_675 : decode cL_law 675 = .ok (.invokevirtual 96, 3) := by decide +kernel
theorem dL_law_678 : decode cL_law 678 = .ok (.dstore 6, 2) := by decide +kernel
theorem dL_law_680 : decode cL_law 680 = .ok (.aload_n 2, 1) := by decide +kernel
theorem dL_law_681 : decode cL_law 681 = .ok (.invokevirtual 74, 3) := by decide +kernel
theorem dL_law_684 : decode cL_law 684 = .ok (.iload 5, 2) := by decide +kernel
theorem dL_law_686 : decode cL_law 686 = .ok (.if_icmp .eq 5, 3) := by decide +kernel
theorem dL_law_689 : decode cL_law 689 = .ok (.iconst 0, 1) := by decide +kernel
theorem dL_law_690 : decode cL_law 690 = .ok (.ireturn, 1) := by decide +kernel
theorem dL_law_691 : decode cL_law 691 = .ok (.iload 5, 2) := by decide +kernel
theorem dL_law_693 : decode cL_law 693 = .ok (.ifCond .ne 32, 3) := by decide +kernel
theorem dL_law_696 : decode cL_law 696 = .ok (.aload_n 3, 1) := by decide +kernel
theorem dL_law_697 : decode cL_law 697 = .ok (.iconst 0, 1) := by decide +kernel
theorem dL_law_698 : decode cL_law 698 = .ok (.daload, 1) := by decide +kernel
theorem dL_law_699 : decode cL_law 699 = .ok (.dload 6, 2) := by decide +kernel
theorem dL_law_701 : decode cL_law 701 = .ok (.dcmp .l, 1) := by decide +kernel
theorem dL_law_702 : decode cL_law 702 = .ok (.ifCond .eq 23, 3) := by decide +kernel
theorem dL_law_705 : decode cL_law 705 = .ok (.aload_n 3, 1) := by decide +kernel
theorem dL_law_706 : decode cL_law 706 = .ok (.iconst 0, 1) := by decide +kernel
theorem dL_law_707 : decode cL_law 707 = .ok (.daload, 1) := by decide +kernel
theorem dL_law_708 : decode cL_law 708 = .ok (.aload_n 3, 1) := by decide +kernel
theorem dL_law_709 : decode cL_law 709 = .ok (.iconst 0, 1) := by decide +kernel
theorem dL_law_710 : decode cL_law 710 = .ok (.daload, 1) := by decide +kernel
theorem dL_law_711 : decode cL_law 711 = .ok (.dcmp .l, 1) := by decide +kernel
theorem dL_law_712 : decode cL_law 712 = .ok (.ifCond .eq 11, 3) := by decide +kernel
theorem dL_law_715 : decode cL_law 715 = .ok (.dload 6, 2) := by decide +kernel
theorem dL_law_717 : decode cL_law 717 = .ok (.dload 6, 2) := by decide +kernel
theorem dL_law_719 : decode cL_law 719 = .ok (.dcmp .l, 1) := by decide +kernel
theorem dL_law_720 : decode cL_law 720 = .ok (.ifCond .ne 5, 3) := by decide +kernel
theorem dL_law_723 : decode cL_law 723 = .ok (.iconst 0, 1) := by decide +kernel
theorem dL_law_724 : decode cL_law 724 = .ok (.ireturn, 1) := by decide +kernel
theorem dL_law_725 : decode cL_law 725 = .ok (.goto 17, 3) := by decide +kernel
theorem dL_law_728 : decode cL_law 728 = .ok (.aload_n 1, 1) := by decide +kernel
theorem dL_law_729 : decode cL_law 729 = .ok (.invokevirtual 97, 3) := by decide +kernel
theorem dL_law_732 : decode cL_law 732 = .ok (.aload_n 2, 1) := by decide +kernel
theorem dL_law_733 : decode cL_law 733 = .ok (.invokevirtual 101, 3) := by decide +kernel
theorem dL_law_736 : decode cL_law 736 = .ok (.lcmp, 1) := by decide +kernel
theorem dL_law_737 : decode cL_law 737 = .ok (.ifCond .eq 5, 3) := by decide +kernel
theorem dL_law_740 : decode cL_law 740 = .ok (.iconst 0, 1) := by decide +kernel
theorem dL_law_741 : decode cL_law 741 = .ok (.ireturn, 1) := by decide +kernel
theorem dL_law_742 : decode cL_law 742 = .ok (.iinc 4 4, 3) := by decide +kernel
theorem dL_law_745 : decode cL_law 745 = .ok (.goto (-722), 3) := by decide +kernel
theorem dL_law_748 : decode cL_law 748 = .ok (.iconst 1, 1) := by decide +kernel
theorem dL_law_749 : decode cL_law 749 = .ok (.ireturn, 1) := by decide +kernel
abbrev vwCl : List vw_C := [(RJ0, TJ0, 2), (RJx00060, TJx00060, 6), (RX0, TX0, 11), (RX1, TX1, 11)]
