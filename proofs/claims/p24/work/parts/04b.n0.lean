theorem dX0_init_0 : decode cX0_init 0 = .ok (.aload_n 0, 1) := by decide +kernel
theorem dX0_init_1 : decode cX0_init 1 = .ok (.invokespecial 3, 3) := by decide +kernel
theorem dX0_init_4 : decode cX0_init 4 = .ok (.aload_n 0, 1) := by decide +kernel
theorem dX0_init_5 : decode cX0_init 5 = .ok (.bipush 8, 2) := by decide +kernel
theorem dX0_init_7 : decode cX0_init 7 = .ok (.newarray .int, 2) := by decide +kernel
theorem dX0_init_9 : decode cX0_init 9 = .ok (.putfield 9, 3) := by decide +kernel
theorem dX0_init_12 : decode cX0_init 12 = .ok (.aload_n 0, 1) := by decide +kernel
theorem dX0_init_13 : decode cX0_init 13 = .ok (.bipush 8, 2) := by decide +kernel
theorem dX0_init_15 : decode cX0_init 15 = .ok (.newarray .int, 2) := by decide +kernel
theorem dX0_init_17 : decode cX0_init 17 = .ok (.putfield 15, 3) := by decide +kernel
theorem dX0_init_20 : decode cX0_init 20 = .ok (.return_, 1) := by decide +kernel
theorem dX0_now_0 : decode cX0_now 0 = .ok (.aload_n 0, 1) := by decide +kernel
theorem dX0_now_1 : decode cX0_now 1 = .ok (.getfield 18, 3) := by decide +kernel
theorem dX0_now_4 : decode cX0_now 4 = .ok (.ireturn, 1) := by decide +kernel
theorem dX0_size_0 : decode cX0_size 0 = .ok (.aload_n 0, 1) := by decide +kernel
theorem dX0_size_1 : decode cX0_size 1 = .ok (.getfield 22, 3) := by decide +kernel
theorem dX0_size_4 : decode cX0_size 4 = .ok (.ireturn, 1) := by decide +kernel
set_option maxRecDepth 20000 in
theorem ggX0_leftAt_X7_at : GoodIn wsX0_leftAt wsX7_at := goodIn_r _ [4] (by decide +kernel) (by decide +kernel)
set_option maxRecDepth 20000 in
theorem gX0_leftAt_X7_at_n25 : GoodIn wsX0_leftAt (wsX7_at) := ggX0_leftAt_X7_at
theorem dX0_leftAt_0 : decode cX0_leftAt 0 = .ok (.aload_n 0, 1) := by decide +kernel
theorem dX0_leftAt_1 : decode cX0_leftAt 1 = .ok (.getfield 9, 3) := by decide +kernel
theorem dX0_leftAt_4 : decode cX0_leftAt 4 = .ok (.iload_n 1, 1) := by decide +kernel
theorem dX0_leftAt_5 : decode cX0_leftAt 5 = .ok (.invokestatic 25, 3) := by decide +kernel
theorem dX0_leftAt_8 : decode cX0_leftAt 8 = .ok (.ireturn, 1) := by decide +kernel
set_option maxRecDepth 20000 in
theorem ggX0_total_X0_leftAt : GoodIn wsX0_total wsX0_leftAt := goodIn_r _ [6, 7, 8, 9, 10, 11, 12, 13, 14] (by decide +kernel) (by decide +kernel)
set_option maxRecDepth 20000 in
theorem gX0_total_X0_leftAt : GoodIn wsX0_total (wsV RX0 29 RX0 yX0_leftAt wsX0_leftAt) := goodIn_app (goodIn_of _ (by decide +kernel)) ggX0_total_X0_leftAt
theorem dX0_total_0 : decode cX0_total 0 = .ok (.iconst 0, 1) := by decide +kernel
theorem dX0_total_1 : decode cX0_total 1 = .ok (.istore_n 1, 1) := by decide +kernel
theorem dX0_total_2 : decode cX0_total 2 = .ok (.iconst 0, 1) := by decide +kernel
theorem dX0_total_3 : decode cX0_total 3 = .ok (.istore_n 2, 1) := by decide +kernel
theorem dX0_total_4 : decode cX0_total 4 = .ok (.iload_n 2, 1) := by decide +kernel
theorem dX0_total_5 : decode cX0_total 5 = .ok (.aload_n 0, 1) := by decide +kernel
theorem dX0_total_6 : decode cX0_total 6 = .ok (.getfield 22, 3) := by decide +kernel
theorem dX0_total_9 : decode cX0_total 9 = .ok (.if_icmp .ge 17, 3) := by decide +kernel
theorem dX0_total_12 : decode cX0_total 12 = .ok (.iload_n 1, 1) := by decide +kernel
theorem dX0_total_13 : decode cX0_total 13 = .ok (.aload_n 0, 1) := by decide +kernel
theorem dX0_total_14 : decode cX0_total 14 = .ok (.iload_n 2, 1) := by decide +kernel
theorem dX0_total_15 : decode cX0_total 15 = .ok (.invokevirtual 29, 3) := by decide +kernel
theorem dX0_total_18 : decode cX0_total 18 = .ok (.iadd, 1) := by decide +kernel
theorem dX0_total_19 : decode cX0_total 19 = .ok (.istore_n 1, 1) := by decide +kernel
theorem dX0_total_20 : decode cX0_total 20 = .ok (.iinc 2 1, 3) := by decide +kernel
theorem dX0_total_23 : decode cX0_total 23 = .ok (.goto (-19), 3) := by decide +kernel
theorem dX0_total_26 : decode cX0_total 26 = .ok (.iload_n 1, 1) := by decide +kernel
theorem dX0_total_27 : decode cX0_total 27 = .ok (.ireturn, 1) := by decide +kernel
set_option maxRecDepth 20000 in
theorem ggX0_add_X7_at : GoodIn wsX0_add wsX7_at := goodIn_r _ [6] (by decide +kernel) (by decide +kernel)
set_option maxRecDepth 20000 in
theorem gX0_add_X7_at_n25 : GoodIn wsX0_add (wsX7_at) := ggX0_add_X7_at
set_option maxRecDepth 20000 in
theorem ggX0_add_X0_move : GoodIn wsX0_add wsX0_move := goodIn_r _ [11, 3, 2, 4, 5, 6, 12, 13, 14, 15, 16, 17] (by decide +kernel) (by decide +kernel)
set_option maxRecDepth 20000 in
theorem gX0_add_X0_move : GoodIn wsX0_add (wsV RX0 33 RX0 yX0_move wsX0_move) := goodIn_app (goodIn_of _ (by decide +kernel)) ggX0_add_X0_move
set_option maxRecDepth 20000 in
theorem ggX0_add_X7_put : GoodIn wsX0_add wsX7_put := goodIn_r _ [13] (by decide +kernel) (by decide +kernel)
set_option maxRecDepth 20000 in
theorem gX0_add_X7_put_n37 : GoodIn wsX0_add (wsX7_put) := ggX0_add_X7_put
theorem dX0_add_0 : decode cX0_add 0 = .ok (.aload_n 0, 1) := by decide +kernel
theorem dX0_add_1 : decode cX0_add 1 = .ok (.getfield 22, 3) := by decide +kernel
theorem dX0_add_4 : decode cX0_add 4 = .ok (.istore_n 3, 1) := by decide +kernel
theorem dX0_add_5 : decode cX0_add 5 = .ok (.iload_n 3, 1) := by decide +kernel
theorem dX0_add_6 : decode cX0_add 6 = .ok (.ifCond .le 31, 3) := by decide +kernel
theorem dX0_add_9 : decode cX0_add 9 = .ok (.aload_n 0, 1) := by decide +kernel
theorem dX0_add_10 : decode cX0_add 10 = .ok (.getfield 15, 3) := by decide +kernel
theorem dX0_add_13 : decode cX0_add 13 = .ok (.iload_n 3, 1) := by decide +kernel
theorem dX0_add_14 : decode cX0_add 14 = .ok (.iconst 1, 1) := by decide +kernel
theorem dX0_add_15 : decode cX0_add 15 = .ok (.isub, 1) := by decide +kernel
theorem dX0_add_16 : decode cX0_add 16 = .ok (.invokestatic 25, 3) := by decide +kernel
theorem dX0_add_19 : decode cX0_add 19 = .ok (.iload_n 2, 1) := by decide +kernel
theorem dX0_add_20 : decode cX0_add 20 = .ok (.if_icmp .le 17, 3) := by decide +kernel
theorem dX0_add_23 : decode cX0_add 23 = .ok (.aload_n 0, 1) := by decide +kernel
theorem dX0_add_24 : decode cX0_add 24 = .ok (.iload_n 3, 1) := by decide +kernel
theorem dX0_add_25 : decode cX0_add 25 = .ok (.iconst 1, 1) := by decide +kernel
theorem dX0_add_26 : decode cX0_add 26 = .ok (.isub, 1) := by decide +kernel
theorem dX0_add_27 : decode cX0_add 27 = .ok (.iload_n 3, 1) := by decide +kernel
theorem dX0_add_28 : decode cX0_add 28 = .ok (.invokevirtual 33, 3) := by decide +kernel
theorem dX0_add_31 : decode cX0_add 31 = .ok (.iinc 3 (-1), 3) := by decide +kernel
theorem dX0_add_34 : decode cX0_add 34 = .ok (.goto (-29), 3) := by decide +kernel
theorem dX0_add_37 : decode cX0_add 37 = .ok (.aload_n 0, 1) := by decide +kernel
theorem dX0_add_38 : decode cX0_add 38 = .ok (.getfield 9, 3) := by decide +kernel
theorem dX0_add_41 : decode cX0_add 41 = .ok (.iload_n 3, 1) := by decide +kernel
theorem dX0_add_42 : decode cX0_add 42 = .ok (.iload_n 1, 1) := by decide +kernel
theorem dX0_add_43 : decode cX0_add 43 = .ok (.invokestatic 37, 3) := by decide +kernel
theorem dX0_add_46 : decode cX0_add 46 = .ok (.aload_n 0, 1) := by decide +kernel
theorem dX0_add_47 : decode cX0_add 47 = .ok (.getfield 15, 3) := by decide +kernel
theorem dX0_add_50 : decode cX0_add 50 = .ok (.iload_n 3, 1) := by decide +kernel
theorem dX0_add_51 : decode cX0_add 51 = .ok (.iload_n 2, 1) := by decide +kernel
theorem dX0_add_52 : decode cX0_add 52 = .ok (.invokestatic 37, 3) := by decide +kernel
theorem dX0_add_55 : decode cX0_add 55 = .ok (.aload_n 0, 1) := by decide +kernel
theorem dX0_add_56 : decode cX0_add 56 = .ok (.dup, 1) := by decide +kernel
theorem dX0_add_57 : decode cX0_add 57 = .ok (.getfield 22, 3) := by decide +kernel
theorem dX0_add_60 : decode cX0_add 60 = .ok (.iconst 1, 1) := by decide +kernel
theorem dX0_add_61 : decode cX0_add 61 = .ok (.iadd, 1) := by decide +kernel
theorem dX0_add_62 : decode cX0_add 62 = .ok (.putfield 22, 3) := by decide +kernel
theorem dX0_add_65 : decode cX0_add 65 = .ok (.return_, 1) := by decide +kernel
set_option maxRecDepth 20000 in
theorem ggX0_take_X0_leftAt : GoodIn wsX0_take wsX0_leftAt := goodIn_r _ [11, 6, 12, 13, 14, 17, 18, 19, 20] (by decide +kernel) (by decide +kernel)
set_option maxRecDepth 20000 in
theorem gX0_take_X0_leftAt : GoodIn wsX0_take (wsV RX0 29 RX0 yX0_leftAt wsX0_leftAt) := goodIn_app (goodIn_of _ (by decide +kernel)) ggX0_take_X0_leftAt
set_option maxRecDepth 20000 in
theorem ggX0_take_X7_put : GoodIn wsX0_take wsX7_put := goodIn_r _ [16] (by decide +kernel) (by decide +kernel)
set_option maxRecDepth 20000 in
theorem gX0_take_X7_put_n37 : GoodIn wsX0_take (wsX7_put) := ggX0_take_X7_put
theorem dX0_take_0 : decode cX0_take 0 = .ok (.iload_n 1, 1) := by decide +kernel
theorem dX0_take_1 : decode cX0_take 1 = .ok (.istore_n 2, 1) := by decide +kernel
theorem dX0_take_2 : decode cX0_take 2 = .ok (.iconst 0, 1) := by decide +kernel
theorem dX0_take_3 : decode cX0_take 3 = .ok (.istore_n 3, 1) := by decide +kernel
theorem dX0_take_4 : decode cX0_take 4 = .ok (.iload_n 3, 1) := by decide +kernel
theorem dX0_take_5 : decode cX0_take 5 = .ok (.aload_n 0, 1) := by decide +kernel
theorem dX0_take_6 : decode cX0_take 6 = .ok (.getfield 22, 3) := by decide +kernel
theorem dX0_take_9 : decode cX0_take 9 = .ok (.if_icmp .ge 41, 3) := by decide +kernel
theorem dX0_take_12 : decode cX0_take 12 = .ok (.iload_n 2, 1) := by decide +kernel
theorem dX0_take_13 : decode cX0_take 13 = .ok (.aload_n 0, 1) := by decide +kernel
theorem dX0_take_14 : decode cX0_take 14 = .ok (.iload_n 3, 1) := by decide +kernel
theorem dX0_take_15 : decode cX0_take 15 = .ok (.invokevirtual 29, 3) := by decide +kernel
theorem dX0_take_18 : decode cX0_take 18 = .ok (.invokestatic 41, 3) := by decide +kernel
theorem dX0_take_21 : decode cX0_take 21 = .ok (.istore 4, 2) := by decide +kernel
theorem dX0_take_23 : decode cX0_take 23 = .ok (.aload_n 0, 1) := by decide +kernel
theorem dX0_take_24 : decode cX0_take 24 = .ok (.getfield 9, 3) := by decide +kernel
theorem dX0_take_27 : decode cX0_take 27 = .ok (.iload_n 3, 1) := by decide +kernel
theorem dX0_take_28 : decode cX0_take 28 = .ok (.aload_n 0, 1) := by decide +kernel
theorem dX0_take_29 : decode cX0_take 29 = .ok (.iload_n 3, 1) := by decide +kernel
theorem dX0_take_30 : decode cX0_take 30 = .ok (.invokevirtual 29, 3) := by decide +kernel
theorem dX0_take_33 : decode cX0_take 33 = .ok (.iload 4, 2) := by decide +kernel
theorem dX0_take_35 : decode cX0_take 35 = .ok (.isub, 1) := by decide +kernel
theorem dX0_take_36 : decode cX0_take 36 = .ok (.invokestatic 37, 3) := by decide +kernel
theorem dX0_take_39 : decode cX0_take 39 = .ok (.iload_n 2, 1) := by decide +kernel
theorem dX0_take_40 : decode cX0_take 40 = .ok (.iload 4, 2) := by decide +kernel
theorem dX0_take_42 : decode cX0_take 42 = .ok (.isub, 1) := by decide +kernel
theorem dX0_take_43 : decode cX0_take 43 = .ok (.istore_n 2, 1) := by decide +kernel
theorem dX0_take_44 : decode cX0_take 44 = .ok (.iinc 3 1, 3) := by decide +kernel
theorem dX0_take_47 : decode cX0_take 47 = .ok (.goto (-43), 3) := by decide +kernel
theorem dX0_take_50 : decode cX0_take 50 = .ok (.iload_n 1, 1) := by decide +kernel
theorem dX0_take_51 : decode cX0_take 51 = .ok (.iload_n 2, 1) := by decide +kernel
theorem dX0_take_52 : decode cX0_take 52 = .ok (.isub, 1) := by decide +kernel
theorem dX0_take_53 : decode cX0_take 53 = .ok (.ireturn, 1) := by decide +kernel
set_option maxRecDepth 20000 in
theorem ggX0_endYear_X0_leftAt : GoodIn wsX0_endYear wsX0_leftAt := goodIn_r _ [8, 9, 10, 11, 12, 19, 20, 21, 22] (by decide +kernel) (by decide +kernel)
set_option maxRecDepth 20000 in
theorem gX0_endYear_X0_leftAt : GoodIn wsX0_endYear (wsV RX0 29 RX0 yX0_leftAt wsX0_leftAt) := goodIn_app (goodIn_of _ (by decide +kernel)) ggX0_endYear_X0_leftAt
set_option maxRecDepth 20000 in
theorem ggX0_endYear_X7_at : GoodIn wsX0_endYear wsX7_at := goodIn_r _ [12] (by decide +kernel) (by decide +kernel)
set_option maxRecDepth 20000 in
theorem gX0_endYear_X7_at_n25 : GoodIn wsX0_endYear (wsX7_at) := ggX0_endYear_X7_at
set_option maxRecDepth 20000 in
theorem ggX0_endYear_X0_move : GoodIn wsX0_endYear wsX0_move := goodIn_r _ [16, 9, 2, 10, 11, 12, 17, 18, 19, 20, 21, 22] (by decide +kernel) (by decide +kernel)
set_option maxRecDepth 20000 in
theorem gX0_endYear_X0_move : GoodIn wsX0_endYear (wsV RX0 33 RX0 yX0_move wsX0_move) := goodIn_app (goodIn_of _ (by decide +kernel)) ggX0_endYear_X0_move
theorem dX0_endYear_0 : decode cX0_endYear 0 = .ok (.iconst 0, 1) := by decide +kernel
theorem dX0_endYear_1 : decode cX0_endYear 1 = .ok (.istore_n 1, 1) := by decide +kernel
theorem dX0_endYear_2 : decode cX0_endYear 2 = .ok (.iconst 0, 1) := by decide +kernel
theorem dX0_endYear_3 : decode cX0_endYear 3 = .ok (.istore_n 2, 1) := by decide +kernel
theorem dX0_endYear_4 : decode cX0_endYear 4 = .ok (.iload_n 2, 1) := by decide +kernel
theorem dX0_endYear_5 : decode cX0_endYear 5 = .ok (.aload_n 0, 1) := by decide +kernel
theorem dX0_endYear_6 : decode cX0_endYear 6 = .ok (.getfield 22, 3) := by decide +kernel
theorem dX0_endYear_9 : decode cX0_endYear 9 = .ok (.if_icmp .ge 41, 3) := by decide +kernel
theorem dX0_endYear_12 : decode cX0_endYear 12 = .ok (.aload_n 0, 1) := by decide +kernel
theorem dX0_endYear_13 : decode cX0_endYear 13 = .ok (.iload_n 2, 1) := by decide +kernel
theorem dX0_endYear_14 : decode cX0_endYear 14 = .ok (.invokevirtual 29, 3) := by decide +kernel
theorem dX0_endYear_17 : decode cX0_endYear 17 = .ok (.ifCond .le 27, 3) := by decide +kernel
theorem dX0_endYear_20 : decode cX0_endYear 20 = .ok (.aload_n 0, 1) := by decide +kernel
theorem dX0_endYear_21 : decode cX0_endYear 21 = .ok (.getfield 15, 3) := by decide +kernel
theorem dX0_endYear_24 : decode cX0_endYear 24 = .ok (.iload_n 2, 1) := by decide +kernel
theorem dX0_endYear_25 : decode cX0_endYear 25 = .ok (.invokestatic 25, 3) := by decide +kernel
theorem dX0_endYear_28 : decode cX0_endYear 28 = .ok (.aload_n 0, 1) := by decide +kernel
theorem dX0_endYear_29 : decode cX0_endYear 29 = .ok (.getfield 18, 3) := by decide +kernel
theorem dX0_endYear_32 : decode cX0_endYear 32 = .ok (.if_icmp .le 12, 3) := by decide +kernel
theorem dX0_endYear_35 : decode cX0_endYear 35 = .ok (.aload_n 0, 1) := by decide +kernel
theorem dX0_endYear_36 : decode cX0_endYear 36 = .ok (.iload_n 2, 1) := by decide +kernel
theorem dX0_endYear_37 : decode cX0_endYear 37 = .ok (.iload_n 1, 1) := by decide +kernel
theorem dX0_endYear_38 : decode cX0_endYear 38 = .ok (.invokevirtual 33, 3) := by decide +kernel
theorem dX0_endYear_41 : decode cX0_endYear 41 = .ok (.iinc 1 1, 3) := by decide +kernel
theorem dX0_endYear_44 : decode cX0_endYear 44 = .ok (.iinc 2 1, 3) := by decide +kernel
theorem dX0_endYear_47 : decode cX0_endYear 47 = .ok (.goto (-43), 3) := by decide +kernel
theorem dX0_endYear_50 : decode cX0_endYear 50 = .ok (.aload_n 0, 1) := by decide +kernel
theorem dX0_endYear_51 : decode cX0_endYear 51 = .ok (.iload_n 1, 1) := by decide +kernel
theorem dX0_endYear_52 : decode cX0_endYear 52 = .ok (.putfield 22, 3) := by decide +kernel
theorem dX0_endYear_55 : decode cX0_endYear 55 = .ok (.aload_n 0, 1) := by decide +kernel
theorem dX0_endYear_56 : decode cX0_endYear 56 = .ok (.dup, 1) := by decide +kernel
theorem dX0_endYear_57 : decode cX0_endYear 57 = .ok (.getfield 18, 3) := by decide +kernel
theorem dX0_endYear_60 : decode cX0_endYear 60 = .ok (.iconst 1, 1) := by decide +kernel
theorem dX0_endYear_61 : decode cX0_endYear 61 = .ok (.iadd, 1) := by decide +kernel
theorem dX0_endYear_62 : decode cX0_endYear 62 = .ok (.putfield 18, 3) := by decide +kernel
theorem dX0_endYear_65 : decode cX0_endYear 65 = .ok (.return_, 1) := by decide +kernel
set_option maxRecDepth 20000 in
theorem ggX0_move_X7_at : GoodIn wsX0_move wsX7_at := goodIn_r _ [5] (by decide +kernel) (by decide +kernel)
set_option maxRecDepth 20000 in
theorem gX0_move_X7_at_n25 : GoodIn wsX0_move (wsX7_at) := ggX0_move_X7_at
set_option maxRecDepth 20000 in
theorem ggX0_move_X7_put : GoodIn wsX0_move wsX7_put := goodIn_r _ [7] (by decide +kernel) (by decide +kernel)
set_option maxRecDepth 20000 in
theorem gX0_move_X7_put_n37 : GoodIn wsX0_move (wsX7_put) := ggX0_move_X7_put
theorem dX0_move_0 : decode cX0_move 0 = .ok (.aload_n 0, 1) := by decide +kernel
theorem dX0_move_1 : decode cX0_move 1 = .ok (.getfield 9, 3) := by decide +kernel
theorem dX0_move_4 : decode cX0_move 4 = .ok (.iload_n 2, 1) := by decide +kernel
theorem dX0_move_5 : decode cX0_move 5 = .ok (.aload_n 0, 1) := by decide +kernel
theorem dX0_move_6 : decode cX0_move 6 = .ok (.getfield 9, 3) := by decide +kernel
theorem dX0_move_9 : decode cX0_move 9 = .ok (.iload_n 1, 1) := by decide +kernel
theorem dX0_move_10 : decode cX0_move 10 = .ok (.invokestatic 25, 3) := by decide +kernel
theorem dX0_move_13 : decode cX0_move 13 = .ok (.invokestatic 37, 3) := by decide +kernel
theorem dX0_move_16 : decode cX0_move 16 = .ok (.aload_n 0, 1) := by decide +kernel
theorem dX0_move_17 : decode cX0_move 17 = .ok (.getfield 15, 3) := by decide +kernel
theorem dX0_move_20 : decode cX0_move 20 = .ok (.iload_n 2, 1) := by decide +kernel
theorem dX0_move_21 : decode cX0_move 21 = .ok (.aload_n 0, 1) := by decide +kernel
theorem dX0_move_22 : decode cX0_move 22 = .ok (.getfield 15, 3) := by decide +kernel
theorem dX0_move_25 : decode cX0_move 25 = .ok (.iload_n 1, 1) := by decide +kernel
theorem dX0_move_26 : decode cX0_move 26 = .ok (.invokestatic 25, 3) := by decide +kernel
theorem dX0_move_29 : decode cX0_move 29 = .ok (.invokestatic 37, 3) := by decide +kernel
theorem dX0_move_32 : decode cX0_move 32 = .ok (.return_, 1) := by decide +kernel
theorem dX1_init_0 : decode cX1_init 0 = .ok (.aload_n 0, 1) := by decide +kernel
theorem dX1_init_1 : decode cX1_init 1 = .ok (.invokespecial 3, 3) := by decide +kernel
theorem dX1_init_4 : decode cX1_init 4 = .ok (.aload_n 0, 1) := by decide +kernel
theorem dX1_init_5 : decode cX1_init 5 = .ok (.iconst 5, 1) := by decide +kernel
theorem dX1_init_6 : decode cX1_init 6 = .ok (.newarray .int, 2) := by decide +kernel
theorem dX1_init_8 : decode cX1_init 8 = .ok (.putfield 9, 3) := by decide +kernel
theorem dX1_init_11 : decode cX1_init 11 = .ok (.aload_n 0, 1) := by decide +kernel
theorem dX1_init_12 : decode cX1_init 12 = .ok (.iconst 5, 1) := by decide +kernel
theorem dX1_init_13 : decode cX1_init 13 = .ok (.newarray .int, 2) := by decide +kernel
theorem dX1_init_15 : decode cX1_init 15 = .ok (.putfield 15, 3) := by decide +kernel
theorem dX1_init_18 : decode cX1_init 18 = .ok (.return_, 1) := by decide +kernel
theorem dX1_size_0 : decode cX1_size 0 = .ok (.aload_n 0, 1) := by decide +kernel
theorem dX1_size_1 : decode cX1_size 1 = .ok (.getfield 18, 3) := by decide +kernel
theorem dX1_size_4 : decode cX1_size 4 = .ok (.ireturn, 1) := by decide +kernel
theorem dX1_clear_0 : decode cX1_clear 0 = .ok (.aload_n 0, 1) := by decide +kernel
theorem dX1_clear_1 : decode cX1_clear 1 = .ok (.iconst 0, 1) := by decide +kernel
theorem dX1_clear_2 : decode cX1_clear 2 = .ok (.putfield 18, 3) := by decide +kernel
theorem dX1_clear_5 : decode cX1_clear 5 = .ok (.return_, 1) := by decide +kernel
set_option maxRecDepth 20000 in
theorem ggX1_hasRoomFor_X1_placeFor : GoodIn wsX1_hasRoomFor wsX1_placeFor := goodIn_r _ [6, 1, 7, 8, 9, 10, 15, 16, 17] (by decide +kernel) (by decide +kernel)
set_option maxRecDepth 20000 in
theorem gX1_hasRoomFor_X1_placeFor : GoodIn wsX1_hasRoomFor (wsV RX1 22 RX1 yX1_placeFor wsX1_placeFor) := goodIn_app (goodIn_of _ (by decide +kernel)) ggX1_hasRoomFor_X1_placeFor
set_option maxRecDepth 20000 in
theorem ggX1_hasRoomFor_X1_isAt : GoodIn wsX1_hasRoomFor wsX1_isAt := goodIn_r _ [14, 1, 7, 8, 9, 10, 15, 16, 17] (by decide +kernel) (by decide +kernel)
set_option maxRecDepth 20000 in
theorem gX1_hasRoomFor_X1_isAt : GoodIn wsX1_hasRoomFor (wsV RX1 26 RX1 yX1_isAt wsX1_isAt) := goodIn_app (goodIn_of _ (by decide +kernel)) ggX1_hasRoomFor_X1_isAt
theorem dX1_hasRoomFor_0 : decode cX1_hasRoomFor 0 = .ok (.aload_n 0, 1) := by decide +kernel
theorem dX1_hasRoomFor_1 : decode cX1_hasRoomFor 1 = .ok (.getfield 18, 3) := by decide +kernel
theorem dX1_hasRoomFor_4 : decode cX1_hasRoomFor 4 = .ok (.iconst 5, 1) := by decide +kernel
theorem dX1_hasRoomFor_5 : decode cX1_hasRoomFor 5 = .ok (.if_icmp .lt 16, 3) := by decide +kernel
theorem dX1_hasRoomFor_8 : decode cX1_hasRoomFor 8 = .ok (.aload_n 0, 1) := by decide +kernel
theorem dX1_hasRoomFor_9 : decode cX1_hasRoomFor 9 = .ok (.aload_n 0, 1) := by decide +kernel
theorem dX1_hasRoomFor_10 : decode cX1_hasRoomFor 10 = .ok (.iload_n 1, 1) := by decide +kernel
theorem dX1_hasRoomFor_11 : decode cX1_hasRoomFor 11 = .ok (.invokevirtual 22, 3) := by decide +kernel
theorem dX1_hasRoomFor_14 : decode cX1_hasRoomFor 14 = .ok (.iload_n 1, 1) := by decide +kernel
theorem dX1_hasRoomFor_15 : decode cX1_hasRoomFor 15 = .ok (.invokevirtual 26, 3) := by decide +kernel
theorem dX1_hasRoomFor_18 : decode cX1_hasRoomFor 18 = .ok (.ifCond .eq 7, 3) := by decide +kernel
theorem dX1_hasRoomFor_21 : decode cX1_hasRoomFor 21 = .ok (.iconst 1, 1) := by decide +kernel
theorem dX1_hasRoomFor_22 : decode cX1_hasRoomFor 22 = .ok (.goto 4, 3) := by decide +kernel
theorem dX1_hasRoomFor_25 : decode cX1_hasRoomFor 25 = .ok (.iconst 0, 1) := by decide +kernel
theorem dX1_hasRoomFor_26 : decode cX1_hasRoomFor 26 = .ok (.ireturn, 1) := by decide +kernel
set_option maxRecDepth 20000 in
theorem ggX1_set_X1_placeFor : GoodIn wsX1_set wsX1_placeFor := goodIn_r _ [8, 1, 2, 9, 10, 11, 18, 19, 20] (by decide +kernel) (by decide +kernel)
set_option maxRecDepth 20000 in
theorem gX1_set_X1_placeFor : GoodIn wsX1_set (wsV RX1 22 RX1 yX1_placeFor wsX1_placeFor) := goodIn_app (goodIn_of _ (by decide +kernel)) ggX1_set_X1_placeFor
set_option maxRecDepth 20000 in
theorem ggX1_set_X1_isAt : GoodIn wsX1_set wsX1_isAt := goodIn_r _ [15, 1, 2, 9, 10, 11, 18, 19, 20] (by decide +kernel) (by decide +kernel)
set_option maxRecDepth 20000 in
theorem gX1_set_X1_isAt : GoodIn wsX1_set (wsV RX1 26 RX1 yX1_isAt wsX1_isAt) := goodIn_app (goodIn_of _ (by decide +kernel)) ggX1_set_X1_isAt
set_option maxRecDepth 20000 in
theorem ggX1_set_X7_at : GoodIn wsX1_set wsX7_at := goodIn_r _ [11] (by decide +kernel) (by decide +kernel)
set_option maxRecDepth 20000 in
theorem gX1_set_X7_at_n30 : GoodIn wsX1_set (wsX7_at) := ggX1_set_X7_at
set_option maxRecDepth 20000 in
theorem ggX1_set_X7_put : GoodIn wsX1_set wsX7_put := goodIn_r _ [17] (by decide +kernel) (by decide +kernel)
set_option maxRecDepth 20000 in
theorem gX1_set_X7_put_n34 : GoodIn wsX1_set (wsX7_put) := ggX1_set_X7_put
theorem dX1_set_0 : decode cX1_set 0 = .ok (.aload_n 0, 1) := by decide +kernel
theorem dX1_set_1 : decode cX1_set 1 = .ok (.iload_n 1, 1) := by decide +kernel
theorem dX1_set_2 : decode cX1_set 2 = .ok (.invokevirtual 22, 3) := by decide +kernel
theorem dX1_set_5 : decode cX1_set 5 = .ok (.istore_n 3, 1) := by decide +kernel
theorem dX1_set_6 : decode cX1_set 6 = .ok (.aload_n 0, 1) := by decide +kernel
theorem dX1_set_7 : decode cX1_set 7 = .ok (.iload_n 3, 1) := by decide +kernel
theorem dX1_set_8 : decode cX1_set 8 = .ok (.iload_n 1, 1) := by decide +kernel
theorem dX1_set_9 : decode cX1_set 9 = .ok (.invokevirtual 26, 3) := by decide +kernel
theorem dX1_set_12 : decode cX1_set 12 = .ok (.ifCond .ne 82, 3) := by decide +kernel
theorem dX1_set_15 : decode cX1_set 15 = .ok (.aload_n 0, 1) := by decide +kernel
theorem dX1_set_16 : decode cX1_set 16 = .ok (.getfield 18, 3) := by decide +kernel
theorem dX1_set_19 : decode cX1_set 19 = .ok (.iconst 1, 1) := by decide +kernel
theorem dX1_set_20 : decode cX1_set 20 = .ok (.isub, 1) := by decide +kernel
theorem dX1_set_21 : decode cX1_set 21 = .ok (.istore 4, 2) := by decide +kernel
theorem dX1_set_23 : decode cX1_set 23 = .ok (.iload 4, 2) := by decide +kernel
theorem dX1_set_25 : decode cX1_set 25 = .ok (.iload_n 3, 1) := by decide +kernel
theorem dX1_set_26 : decode cX1_set 26 = .ok (.if_icmp .lt 49, 3) := by decide +kernel
theorem dX1_set_29 : decode cX1_set 29 = .ok (.aload_n 0, 1) := by decide +kernel
theorem dX1_set_30 : decode cX1_set 30 = .ok (.getfield 9, 3) := by decide +kernel
theorem dX1_set_33 : decode cX1_set 33 = .ok (.iload 4, 2) := by decide +kernel
theorem dX1_set_35 : decode cX1_set 35 = .ok (.iconst 1, 1) := by decide +kernel
theorem dX1_set_36 : decode cX1_set 36 = .ok (.iadd, 1) := by decide +kernel
theorem dX1_set_37 : decode cX1_set 37 = .ok (.aload_n 0, 1) := by decide +kernel
theorem dX1_set_38 : decode cX1_set 38 = .ok (.getfield 9, 3) := by decide +kernel
theorem dX1_set_41 : decode cX1_set 41 = .ok (.iload 4, 2) := by decide +kernel
theorem dX1_set_43 : decode cX1_set 43 = .ok (.invokestatic 30, 3) := by decide +kernel
theorem dX1_set_46 : decode cX1_set 46 = .ok (.invokestatic 34, 3) := by decide +kernel
theorem dX1_set_49 : decode cX1_set 49 = .ok (.aload_n 0, 1) := by decide +kernel
theorem dX1_set_50 : decode cX1_set 50 = .ok (.getfield 15, 3) := by decide +kernel
theorem dX1_set_53 : decode cX1_set 53 = .ok (.iload 4, 2) := by decide +kernel
theorem dX1_set_55 : decode cX1_set 55 = .ok (.iconst 1, 1) := by decide +kernel
theorem dX1_set_56 : decode cX1_set 56 = .ok (.iadd, 1) := by decide +kernel
theorem dX1_set_57 : decode cX1_set 57 = .ok (.aload_n 0, 1) := by decide +kernel
theorem dX1_set_58 : decode cX1_set 58 = .ok (.getfield 15, 3) := by decide +kernel
theorem dX1_set_61 : decode cX1_set 61 = .ok (.iload 4, 2) := by decide +kernel
theorem dX1_set_63 : decode cX1_set 63 = .ok (.invokestatic 30, 3) := by decide +kernel
theorem dX1_set_66 : decode cX1_set 66 = .ok (.invokestatic 34, 3) := by decide +kernel
theorem dX1_set_69 : decode cX1_set 69 = .ok (.iinc 4 (-1), 3) := by decide +kernel
theorem dX1_set_72 : decode cX1_set 72 = .ok (.goto (-49), 3) := by decide +kernel
theorem dX1_set_75 : decode cX1_set 75 = .ok (.aload_n 0, 1) := by decide +kernel
theorem dX1_set_76 : decode cX1_set 76 = .ok (.getfield 9, 3) := by decide +kernel
theorem dX1_set_79 : decode cX1_set 79 = .ok (.iload_n 3, 1) := by decide +kernel
theorem dX1_set_80 : decode cX1_set 80 = .ok (.iload_n 1, 1) := by decide +kernel
theorem dX1_set_81 : decode cX1_set 81 = .ok (.invokestatic 34, 3) := by decide +kernel
theorem dX1_set_84 : decode cX1_set 84 = .ok (.aload_n 0, 1) := by decide +kernel
theorem dX1_set_85 : decode cX1_set 85 = .ok (.dup, 1) := by decide +kernel
theorem dX1_set_86 : decode cX1_set 86 = .ok (.getfield 18, 3) := by decide +kernel
theorem dX1_set_89 : decode cX1_set 89 = .ok (.iconst 1, 1) := by decide +kernel
theorem dX1_set_90 : decode cX1_set 90 = .ok (.iadd, 1) := by decide +kernel
theorem dX1_set_91 : decode cX1_set 91 = .ok (.putfield 18, 3) := by decide +kernel
theorem dX1_set_94 : decode cX1_set 94 = .ok (.aload_n 0, 1) := by decide +kernel
theorem dX1_set_95 : decode cX1_set 95 = .ok (.getfield 15, 3) := by decide +kernel
theorem dX1_set_98 : decode cX1_set 98 = .ok (.iload_n 3, 1) := by decide +kernel
theorem dX1_set_99 : decode cX1_set 99 = .ok (.iload_n 2, 1) := by decide +kernel
theorem dX1_set_100 : decode cX1_set 100 = .ok (.invokestatic 34, 3) := by decide +kernel
theorem dX1_set_103 : decode cX1_set 103 = .ok (.return_, 1) := by decide +kernel
set_option maxRecDepth 20000 in
theorem ggX1_tax_X7_at : GoodIn wsX1_tax wsX7_at := goodIn_r _ [13] (by decide +kernel) (by decide +kernel)
set_option maxRecDepth 20000 in
theorem gX1_tax_X7_at_n30 : GoodIn wsX1_tax (wsX7_at) := ggX1_tax_X7_at
set_option maxRecDepth 20000 in
theorem ggX1_tax_X7_thousandths : GoodIn wsX1_tax wsX7_thousandths := goodIn_r _ [15, 16] (by decide +kernel) (by decide +kernel)
set_option maxRecDepth 20000 in
theorem gX1_tax_X7_thousandths_n47 : GoodIn wsX1_tax (wsX7_thousandths) := ggX1_tax_X7_thousandths
theorem dX1_tax_0 : decode cX1_tax 0 = .ok (.iconst 0, 1) := by decide +kernel
theorem dX1_tax_1 : decode cX1_tax 1 = .ok (.istore_n 2, 1) := by decide +kernel
theorem dX1_tax_2 : decode cX1_tax 2 = .ok (.iconst 0, 1) := by decide +kernel
theorem dX1_tax_3 : decode cX1_tax 3 = .ok (.istore_n 3, 1) := by decide +kernel
theorem dX1_tax_4 : decode cX1_tax 4 = .ok (.iload_n 3, 1) := by decide +kernel
theorem dX1_tax_5 : decode cX1_tax 5 = .ok (.aload_n 0, 1) := by decide +kernel
theorem dX1_tax_6 : decode cX1_tax 6 = .ok (.getfield 18, 3) := by decide +kernel
theorem dX1_tax_9 : decode cX1_tax 9 = .ok (.if_icmp .ge 72, 3) := by decide +kernel
theorem dX1_tax_12 : decode cX1_tax 12 = .ok (.iload_n 3, 1) := by decide +kernel
theorem dX1_tax_13 : decode cX1_tax 13 = .ok (.iconst 1, 1) := by decide +kernel
theorem dX1_tax_14 : decode cX1_tax 14 = .ok (.iadd, 1) := by decide +kernel
theorem dX1_tax_15 : decode cX1_tax 15 = .ok (.aload_n 0, 1) := by decide +kernel
theorem dX1_tax_16 : decode cX1_tax 16 = .ok (.getfield 18, 3) := by decide +kernel
theorem dX1_tax_19 : decode cX1_tax 19 = .ok (.if_icmp .ge 20, 3) := by decide +kernel
theorem dX1_tax_22 : decode cX1_tax 22 = .ok (.iload_n 1, 1) := by decide +kernel
theorem dX1_tax_23 : decode cX1_tax 23 = .ok (.aload_n 0, 1) := by decide +kernel
theorem dX1_tax_24 : decode cX1_tax 24 = .ok (.getfield 9, 3) := by decide +kernel
theorem dX1_tax_27 : decode cX1_tax 27 = .ok (.iload_n 3, 1) := by decide +kernel
theorem dX1_tax_28 : decode cX1_tax 28 = .ok (.iconst 1, 1) := by decide +kernel
theorem dX1_tax_29 : decode cX1_tax 29 = .ok (.iadd, 1) := by decide +kernel
theorem dX1_tax_30 : decode cX1_tax 30 = .ok (.invokestatic 30, 3) := by decide +kernel
theorem dX1_tax_33 : decode cX1_tax 33 = .ok (.invokestatic 38, 3) := by decide +kernel
theorem dX1_tax_36 : decode cX1_tax 36 = .ok (.goto 4, 3) := by decide +kernel
theorem dX1_tax_39 : decode cX1_tax 39 = .ok (.iload_n 1, 1) := by decide +kernel
theorem dX1_tax_40 : decode cX1_tax 40 = .ok (.istore 4, 2) := by decide +kernel
theorem dX1_tax_42 : decode cX1_tax 42 = .ok (.iload 4, 2) := by decide +kernel
theorem dX1_tax_44 : decode cX1_tax 44 = .ok (.aload_n 0, 1) := by decide +kernel
theorem dX1_tax_45 : decode cX1_tax 45 = .ok (.getfield 9, 3) := by decide +kernel
theorem dX1_tax_48 : decode cX1_tax 48 = .ok (.iload_n 3, 1) := by decide +kernel
theorem dX1_tax_49 : decode cX1_tax 49 = .ok (.invokestatic 30, 3) := by decide +kernel
theorem dX1_tax_52 : decode cX1_tax 52 = .ok (.isub, 1) := by decide +kernel
theorem dX1_tax_53 : decode cX1_tax 53 = .ok (.iconst 0, 1) := by decide +kernel
theorem dX1_tax_54 : decode cX1_tax 54 = .ok (.invokestatic 44, 3) := by decide +kernel
theorem dX1_tax_57 : decode cX1_tax 57 = .ok (.istore 5, 2) := by decide +kernel
theorem dX1_tax_59 : decode cX1_tax 59 = .ok (.iload_n 2, 1) := by decide +kernel
theorem dX1_tax_60 : decode cX1_tax 60 = .ok (.iload 5, 2) := by decide +kernel
theorem dX1_tax_62 : decode cX1_tax 62 = .ok (.aload_n 0, 1) := by decide +kernel
theorem dX1_tax_63 : decode cX1_tax 63 = .ok (.getfield 15, 3) := by decide +kernel
theorem dX1_tax_66 : decode cX1_tax 66 = .ok (.iload_n 3, 1) := by decide +kernel
theorem dX1_tax_67 : decode cX1_tax 67 = .ok (.invokestatic 30, 3) := by decide +kernel
theorem dX1_tax_70 : decode cX1_tax 70 = .ok (.invokestatic 47, 3) := by decide +kernel
theorem dX1_tax_73 : decode cX1_tax 73 = .ok (.iadd, 1) := by decide +kernel
theorem dX1_tax_74 : decode cX1_tax 74 = .ok (.istore_n 2, 1) := by decide +kernel
theorem dX1_tax_75 : decode cX1_tax 75 = .ok (.iinc 3 1, 3) := by decide +kernel
theorem dX1_tax_78 : decode cX1_tax 78 = .ok (.goto (-74), 3) := by decide +kernel
theorem dX1_tax_81 : decode cX1_tax 81 = .ok (.iload_n 2, 1) := by decide +kernel
theorem dX1_tax_82 : decode cX1_tax 82 = .ok (.ireturn, 1) := by decide +kernel
set_option maxRecDepth 20000 in
theorem ggX1_placeFor_X7_at : GoodIn wsX1_placeFor wsX7_at := goodIn_r _ [5] (by decide +kernel) (by decide +kernel)
set_option maxRecDepth 20000 in
theorem gX1_placeFor_X7_at_n30 : GoodIn wsX1_placeFor (wsX7_at) := ggX1_placeFor_X7_at
theorem dX1_placeFor_0 : decode cX1_placeFor 0 = .ok (.iconst 0, 1) := by decide +kernel
theorem dX1_placeFor_1 : decode cX1_placeFor 1 = .ok (.istore_n 2, 1) := by decide +kernel
theorem dX1_placeFor_2 : decode cX1_placeFor 2 = .ok (.iload_n 2, 1) := by decide +kernel
theorem dX1_placeFor_3 : decode cX1_placeFor 3 = .ok (.aload_n 0, 1) := by decide +kernel
theorem dX1_placeFor_4 : decode cX1_placeFor 4 = .ok (.getfield 18, 3) := by decide +kernel
theorem dX1_placeFor_7 : decode cX1_placeFor 7 = .ok (.if_icmp .ge 21, 3) := by decide +kernel
theorem dX1_placeFor_10 : decode cX1_placeFor 10 = .ok (.aload_n 0, 1) := by decide +kernel
theorem dX1_placeFor_11 : decode cX1_placeFor 11 = .ok (.getfield 9, 3) := by decide +kernel
theorem dX1_placeFor_14 : decode cX1_placeFor 14 = .ok (.iload_n 2, 1) := by decide +kernel
theorem dX1_placeFor_15 : decode cX1_placeFor 15 = .ok (.invokestatic 30, 3) := by decide +kernel
theorem dX1_placeFor_18 : decode cX1_placeFor 18 = .ok (.iload_n 1, 1) := by decide +kernel
theorem dX1_placeFor_19 : decode cX1_placeFor 19 = .ok (.if_icmp .ge 9, 3) := by decide +kernel
theorem dX1_placeFor_22 : decode cX1_placeFor 22 = .ok (.iinc 2 1, 3) := by decide +kernel
theorem dX1_placeFor_25 : decode cX1_placeFor 25 = .ok (.goto (-23), 3) := by decide +kernel
theorem dX1_placeFor_28 : decode cX1_placeFor 28 = .ok (.iload_n 2, 1) := by decide +kernel
theorem dX1_placeFor_29 : decode cX1_placeFor 29 = .ok (.ireturn, 1) := by decide +kernel
set_option maxRecDepth 20000 in
theorem ggX1_isAt_X7_at : GoodIn wsX1_isAt wsX7_at := goodIn_r _ [5] (by decide +kernel) (by decide +kernel)
set_option maxRecDepth 20000 in
theorem gX1_isAt_X7_at_n30 : GoodIn wsX1_isAt (wsX7_at) := ggX1_isAt_X7_at
theorem dX1_isAt_0 : decode cX1_isAt 0 = .ok (.iload_n 1, 1) := by decide +kernel
theorem dX1_isAt_1 : decode cX1_isAt 1 = .ok (.aload_n 0, 1) := by decide +kernel
theorem dX1_isAt_2 : decode cX1_isAt 2 = .ok (.getfield 18, 3) := by decide +kernel
theorem dX1_isAt_5 : decode cX1_isAt 5 = .ok (.if_icmp .ge 19, 3) := by decide +kernel
theorem dX1_isAt_8 : decode cX1_isAt 8 = .ok (.aload_n 0, 1) := by decide +kernel
theorem dX1_isAt_9 : decode cX1_isAt 9 = .ok (.getfield 9, 3) := by decide +kernel
theorem dX1_isAt_12 : decode cX1_isAt 12 = .ok (.iload_n 1, 1) := by decide +kernel
theorem dX1_isAt_13 : decode cX1_isAt 13 = .ok (.invokestatic 30, 3) := by decide +kernel
theorem dX1_isAt_16 : decode cX1_isAt 16 = .ok (.iload_n 2, 1) := by decide +kernel
theorem dX1_isAt_17 : decode cX1_isAt 17 = .ok (.if_icmp .ne 7, 3) := by decide +kernel
theorem dX1_isAt_20 : decode cX1_isAt 20 = .ok (.iconst 1, 1) := by decide +kernel
theorem dX1_isAt_21 : decode cX1_isAt 21 = .ok (.goto 4, 3) := by decide +kernel
theorem dX1_isAt_24 : decode cX1_isAt 24 = .ok (.iconst 0, 1) := by decide +kernel
theorem dX1_isAt_25 : decode cX1_isAt 25 = .ok (.ireturn, 1) := by decide +kernel
theorem dX2_init_0 : decode cX2_init 0 = .ok (.aload_n 0, 1) := by decide +kernel
theorem dX2_init_1 : decode cX2_init 1 = .ok (.invokespecial 3, 3) := by decide +kernel
theorem dX2_init_4 : decode cX2_init 4 = .ok (.aload_n 0, 1) := by decide +kernel
theorem dX2_init_5 : decode cX2_init 5 = .ok (.iconst 5, 1) := by decide +kernel
theorem dX2_init_6 : decode cX2_init 6 = .ok (.newarray .int, 2) := by decide +kernel
theorem dX2_init_8 : decode cX2_init 8 = .ok (.putfield 9, 3) := by decide +kernel
theorem dX2_init_11 : decode cX2_init 11 = .ok (.aload_n 0, 1) := by decide +kernel
theorem dX2_init_12 : decode cX2_init 12 = .ok (.iconst 5, 1) := by decide +kernel
theorem dX2_init_13 : decode cX2_init 13 = .ok (.newarray .int, 2) := by decide +kernel
theorem dX2_init_15 : decode cX2_init 15 = .ok (.putfield 15, 3) := by decide +kernel
theorem dX2_init_18 : decode cX2_init 18 = .ok (.aload_n 0, 1) := by decide +kernel
theorem dX2_init_19 : decode cX2_init 19 = .ok (.iconst 5, 1) := by decide +kernel
theorem dX2_init_20 : decode cX2_init 20 = .ok (.newarray .int, 2) := by decide +kernel
theorem dX2_init_22 : decode cX2_init 22 = .ok (.putfield 18, 3) := by decide +kernel
theorem dX2_init_25 : decode cX2_init 25 = .ok (.aload_n 0, 1) := by decide +kernel
theorem dX2_init_26 : decode cX2_init 26 = .ok (.iconst 5, 1) := by decide +kernel
theorem dX2_init_27 : decode cX2_init 27 = .ok (.newarray .int, 2) := by decide +kernel
theorem dX2_init_29 : decode cX2_init 29 = .ok (.putfield 21, 3) := by decide +kernel
theorem dX2_init_32 : decode cX2_init 32 = .ok (.return_, 1) := by decide +kernel
theorem dX2_size_0 : decode cX2_size 0 = .ok (.aload_n 0, 1) := by decide +kernel
theorem dX2_size_1 : decode cX2_size 1 = .ok (.getfield 24, 3) := by decide +kernel
theorem dX2_size_4 : decode cX2_size 4 = .ok (.ireturn, 1) := by decide +kernel
set_option maxRecDepth 20000 in
theorem ggX2_add_X7_put : GoodIn wsX2_add wsX7_put := goodIn_r _ [6] (by decide +kernel) (by decide +kernel)
set_option maxRecDepth 20000 in
theorem gX2_add_X7_put_n28 : GoodIn wsX2_add (wsX7_put) := ggX2_add_X7_put
theorem dX2_add_0 : decode cX2_add 0 = .ok (.aload_n 0, 1) := by decide +kernel
theorem dX2_add_1 : decode cX2_add 1 = .ok (.getfield 9, 3) := by decide +kernel
theorem dX2_add_4 : decode cX2_add 4 = .ok (.aload_n 0, 1) := by decide +kernel
theorem dX2_add_5 : decode cX2_add 5 = .ok (.getfield 24, 3) := by decide +kernel
theorem dX2_add_8 : decode cX2_add 8 = .ok (.iload_n 1, 1) := by decide +kernel
theorem dX2_add_9 : decode cX2_add 9 = .ok (.invokestatic 28, 3) := by decide +kernel
theorem dX2_add_12 : decode cX2_add 12 = .ok (.aload_n 0, 1) := by decide +kernel
theorem dX2_add_13 : decode cX2_add 13 = .ok (.getfield 15, 3) := by decide +kernel
theorem dX2_add_16 : decode cX2_add 16 = .ok (.aload_n 0, 1) := by decide +kernel
theorem dX2_add_17 : decode cX2_add 17 = .ok (.getfield 24, 3) := by decide +kernel
theorem dX2_add_20 : decode cX2_add 20 = .ok (.iload_n 2, 1) := by decide +kernel
theorem dX2_add_21 : decode cX2_add 21 = .ok (.invokestatic 28, 3) := by decide +kernel
theorem dX2_add_24 : decode cX2_add 24 = .ok (.aload_n 0, 1) := by decide +kernel
theorem dX2_add_25 : decode cX2_add 25 = .ok (.dup, 1) := by decide +kernel
theorem dX2_add_26 : decode cX2_add 26 = .ok (.getfield 24, 3) := by decide +kernel
theorem dX2_add_29 : decode cX2_add 29 = .ok (.iconst 1, 1) := by decide +kernel
theorem dX2_add_30 : decode cX2_add 30 = .ok (.iadd, 1) := by decide +kernel
theorem dX2_add_31 : decode cX2_add 31 = .ok (.putfield 24, 3) := by decide +kernel
theorem dX2_add_34 : decode cX2_add 34 = .ok (.return_, 1) := by decide +kernel
theorem dX2_dropLast_0 : decode cX2_dropLast 0 = .ok (.aload_n 0, 1) := by decide +kernel
theorem dX2_dropLast_1 : decode cX2_dropLast 1 = .ok (.dup, 1) := by decide +kernel
theorem dX2_dropLast_2 : decode cX2_dropLast 2 = .ok (.getfield 24, 3) := by decide +kernel
theorem dX2_dropLast_5 : decode cX2_dropLast 5 = .ok (.iconst 1, 1) := by decide +kernel
theorem dX2_dropLast_6 : decode cX2_dropLast 6 = .ok (.isub, 1) := by decide +kernel
theorem dX2_dropLast_7 : decode cX2_dropLast 7 = .ok (.putfield 24, 3) := by decide +kernel
theorem dX2_dropLast_10 : decode cX2_dropLast 10 = .ok (.return_, 1) := by decide +kernel
set_option maxRecDepth 20000 in
theorem ggX2_total_X7_at : GoodIn wsX2_total wsX7_at := goodIn_r _ [5] (by decide +kernel) (by decide +kernel)
set_option maxRecDepth 20000 in
theorem gX2_total_X7_at_n32 : GoodIn wsX2_total (wsX7_at) := ggX2_total_X7_at
theorem dX2_total_0 : decode cX2_total 0 = .ok (.iconst 0, 1) := by decide +kernel
theorem dX2_total_1 : decode cX2_total 1 = .ok (.istore_n 1, 1) := by decide +kernel
theorem dX2_total_2 : decode cX2_total 2 = .ok (.iconst 0, 1) := by decide +kernel
theorem dX2_total_3 : decode cX2_total 3 = .ok (.istore_n 2, 1) := by decide +kernel
theorem dX2_total_4 : decode cX2_total 4 = .ok (.iload_n 2, 1) := by decide +kernel
theorem dX2_total_5 : decode cX2_total 5 = .ok (.aload_n 0, 1) := by decide +kernel
theorem dX2_total_6 : decode cX2_total 6 = .ok (.getfield 24, 3) := by decide +kernel
theorem dX2_total_9 : decode cX2_total 9 = .ok (.if_icmp .ge 20, 3) := by decide +kernel
theorem dX2_total_12 : decode cX2_total 12 = .ok (.iload_n 1, 1) := by decide +kernel
theorem dX2_total_13 : decode cX2_total 13 = .ok (.aload_n 0, 1) := by decide +kernel
theorem dX2_total_14 : decode cX2_total 14 = .ok (.getfield 9, 3) := by decide +kernel
theorem dX2_total_17 : decode cX2_total 17 = .ok (.iload_n 2, 1) := by decide +kernel
theorem dX2_total_18 : decode cX2_total 18 = .ok (.invokestatic 32, 3) := by decide +kernel
theorem dX2_total_21 : decode cX2_total 21 = .ok (.iadd, 1) := by decide +kernel
theorem dX2_total_22 : decode cX2_total 22 = .ok (.istore_n 1, 1) := by decide +kernel
theorem dX2_total_23 : decode cX2_total 23 = .ok (.iinc 2 1, 3) := by decide +kernel
theorem dX2_total_26 : decode cX2_total 26 = .ok (.goto (-22), 3) := by decide +kernel
theorem dX2_total_29 : decode cX2_total 29 = .ok (.iload_n 1, 1) := by decide +kernel
theorem dX2_total_30 : decode cX2_total 30 = .ok (.ireturn, 1) := by decide +kernel
set_option maxRecDepth 20000 in
theorem ggX2_bestAt_X7_at : GoodIn wsX2_bestAt wsX7_at := goodIn_r _ [4] (by decide +kernel) (by decide +kernel)
set_option maxRecDepth 20000 in
theorem gX2_bestAt_X7_at_n32 : GoodIn wsX2_bestAt (wsX7_at) := ggX2_bestAt_X7_at
theorem dX2_bestAt_0 : decode cX2_bestAt 0 = .ok (.aload_n 0, 1) := by decide +kernel
theorem dX2_bestAt_1 : decode cX2_bestAt 1 = .ok (.getfield 21, 3) := by decide +kernel
theorem dX2_bestAt_4 : decode cX2_bestAt 4 = .ok (.iload_n 1, 1) := by decide +kernel
theorem dX2_bestAt_5 : decode cX2_bestAt 5 = .ok (.invokestatic 32, 3) := by decide +kernel
theorem dX2_bestAt_8 : decode cX2_bestAt 8 = .ok (.ireturn, 1) := by decide +kernel
set_option maxRecDepth 20000 in
theorem ggX2_findBest_X7_put : GoodIn wsX2_findBest wsX7_put := goodIn_r _ [4] (by decide +kernel) (by decide +kernel)
set_option maxRecDepth 20000 in
theorem gX2_findBest_X7_put_n28 : GoodIn wsX2_findBest (wsX7_put) := ggX2_findBest_X7_put
set_option maxRecDepth 20000 in
theorem ggX2_findBest_X2_sumInOrder : GoodIn wsX2_findBest wsX2_sumInOrder := goodIn_r _ [9, 10, 1, 11, 12, 13, 14, 15, 16, 17, 3, 18, 19, 20, 21, 35, 36, 37, 38, 39] (by decide +kernel) (by decide +kernel)
set_option maxRecDepth 20000 in
theorem gX2_findBest_X2_sumInOrder : GoodIn wsX2_findBest (wsV RX2 36 RX2 yX2_sumInOrder wsX2_sumInOrder) := goodIn_app (goodIn_of _ (by decide +kernel)) ggX2_findBest_X2_sumInOrder
set_option maxRecDepth 20000 in
theorem ggX2_findBest_X2_keepOrder : GoodIn wsX2_findBest wsX2_keepOrder := goodIn_r _ [25, 10, 26, 1, 17, 3, 18, 2, 4, 35, 36, 37, 38, 39] (by decide +kernel) (by decide +kernel)
set_option maxRecDepth 20000 in
theorem gX2_findBest_X2_keepOrder : GoodIn wsX2_findBest (wsV RX2 40 RX2 yX2_keepOrder wsX2_keepOrder) := goodIn_app (goodIn_of _ (by decide +kernel)) ggX2_findBest_X2_keepOrder
set_option maxRecDepth 20000 in
theorem ggX2_findBest_X2_toNextOrder : GoodIn wsX2_findBest wsX2_toNextOrder := goodIn_r _ [30, 10, 1, 17, 3, 18, 31, 32, 33, 8, 34, 2, 4, 35, 36, 37, 38, 39] (by decide +kernel) (by decide +kernel)
set_option maxRecDepth 20000 in
theorem gX2_findBest_X2_toNextOrder : GoodIn wsX2_findBest (wsV RX2 43 RX2 yX2_toNextOrder wsX2_toNextOrder) := goodIn_app (goodIn_of _ (by decide +kernel)) ggX2_findBest_X2_toNextOrder
theorem dX2_findBest_0 : decode cX2_findBest 0 = .ok (.iconst 0, 1) := by decide +kernel
theorem dX2_findBest_1 : decode cX2_findBest 1 = .ok (.istore_n 2, 1) := by decide +kernel
theorem dX2_findBest_2 : decode cX2_findBest 2 = .ok (.iload_n 2, 1) := by decide +kernel
theorem dX2_findBest_3 : decode cX2_findBest 3 = .ok (.iconst 5, 1) := by decide +kernel
theorem dX2_findBest_4 : decode cX2_findBest 4 = .ok (.if_icmp .ge 18, 3) := by decide +kernel
theorem dX2_findBest_7 : decode cX2_findBest 7 = .ok (.aload_n 0, 1) := by decide +kernel
theorem dX2_findBest_8 : decode cX2_findBest 8 = .ok (.getfield 18, 3) := by decide +kernel
theorem dX2_findBest_11 : decode cX2_findBest 11 = .ok (.iload_n 2, 1) := by decide +kernel
theorem dX2_findBest_12 : decode cX2_findBest 12 = .ok (.iload_n 2, 1) := by decide +kernel
theorem dX2_findBest_13 : decode cX2_findBest 13 = .ok (.invokestatic 28, 3) := by decide +kernel
theorem dX2_findBest_16 : decode cX2_findBest 16 = .ok (.iinc 2 1, 3) := by decide +kernel
theorem dX2_findBest_19 : decode cX2_findBest 19 = .ok (.goto (-17), 3) := by decide +kernel
theorem dX2_findBest_22 : decode cX2_findBest 22 = .ok (.iconst (-1), 1) := by decide +kernel
theorem dX2_findBest_23 : decode cX2_findBest 23 = .ok (.istore_n 2, 1) := by decide +kernel
theorem dX2_findBest_24 : decode cX2_findBest 24 = .ok (.iconst 1, 1) := by decide +kernel
theorem dX2_findBest_25 : decode cX2_findBest 25 = .ok (.istore_n 3, 1) := by decide +kernel
theorem dX2_findBest_26 : decode cX2_findBest 26 = .ok (.iconst 0, 1) := by decide +kernel
theorem dX2_findBest_27 : decode cX2_findBest 27 = .ok (.istore 4, 2) := by decide +kernel
theorem dX2_findBest_29 : decode cX2_findBest 29 = .ok (.iload 4, 2) := by decide +kernel
theorem dX2_findBest_31 : decode cX2_findBest 31 = .ok (.bipush 120, 2) := by decide +kernel
theorem dX2_findBest_33 : decode cX2_findBest 33 = .ok (.if_icmp .ge 38, 3) := by decide +kernel
theorem dX2_findBest_36 : decode cX2_findBest 36 = .ok (.iload_n 3, 1) := by decide +kernel
theorem dX2_findBest_37 : decode cX2_findBest 37 = .ok (.ifCond .eq 34, 3) := by decide +kernel
theorem dX2_findBest_40 : decode cX2_findBest 40 = .ok (.aload_n 0, 1) := by decide +kernel
theorem dX2_findBest_41 : decode cX2_findBest 41 = .ok (.iload_n 1, 1) := by decide +kernel
theorem dX2_findBest_42 : decode cX2_findBest 42 = .ok (.invokevirtual 36, 3) := by decide +kernel
theorem dX2_findBest_45 : decode cX2_findBest 45 = .ok (.istore 5, 2) := by decide +kernel
theorem dX2_findBest_47 : decode cX2_findBest 47 = .ok (.iload 5, 2) := by decide +kernel
theorem dX2_findBest_49 : decode cX2_findBest 49 = .ok (.iload_n 2, 1) := by decide +kernel
theorem dX2_findBest_50 : decode cX2_findBest 50 = .ok (.if_icmp .le 10, 3) := by decide +kernel
theorem dX2_findBest_53 : decode cX2_findBest 53 = .ok (.iload 5, 2) := by decide +kernel
theorem dX2_findBest_55 : decode cX2_findBest 55 = .ok (.istore_n 2, 1) := by decide +kernel
theorem dX2_findBest_56 : decode cX2_findBest 56 = .ok (.aload_n 0, 1) := by decide +kernel
theorem dX2_findBest_57 : decode cX2_findBest 57 = .ok (.invokevirtual 40, 3) := by decide +kernel
theorem dX2_findBest_60 : decode cX2_findBest 60 = .ok (.aload_n 0, 1) := by decide +kernel
theorem dX2_findBest_61 : decode cX2_findBest 61 = .ok (.invokevirtual 43, 3) := by decide +kernel
theorem dX2_findBest_64 : decode cX2_findBest 64 = .ok (.istore_n 3, 1) := by decide +kernel
theorem dX2_findBest_65 : decode cX2_findBest 65 = .ok (.iinc 4 1, 3) := by decide +kernel
theorem dX2_findBest_68 : decode cX2_findBest 68 = .ok (.goto (-39), 3) := by decide +kernel
theorem dX2_findBest_71 : decode cX2_findBest 71 = .ok (.iload_n 2, 1) := by decide +kernel
theorem dX2_findBest_72 : decode cX2_findBest 72 = .ok (.ireturn, 1) := by decide +kernel
set_option maxRecDepth 20000 in
theorem ggX2_sumInOrder_X7_at : GoodIn wsX2_sumInOrder wsX7_at := goodIn_r _ [11] (by decide +kernel) (by decide +kernel)
set_option maxRecDepth 20000 in
theorem gX2_sumInOrder_X7_at_n32 : GoodIn wsX2_sumInOrder (wsX7_at) := ggX2_sumInOrder_X7_at
set_option maxRecDepth 20000 in
theorem ggX2_sumInOrder_X7_thousandths : GoodIn wsX2_sumInOrder wsX7_thousandths := goodIn_r _ [13, 14] (by decide +kernel) (by decide +kernel)
set_option maxRecDepth 20000 in
theorem gX2_sumInOrder_X7_thousandths_n53 : GoodIn wsX2_sumInOrder (wsX7_thousandths) := ggX2_sumInOrder_X7_thousandths
theorem dX2_sumInOrder_0 : decode cX2_sumInOrder 0 = .ok (.iload_n 1, 1) := by decide +kernel
theorem dX2_sumInOrder_1 : decode cX2_sumInOrder 1 = .ok (.istore_n 2, 1) := by decide +kernel
theorem dX2_sumInOrder_2 : decode cX2_sumInOrder 2 = .ok (.iconst 0, 1) := by decide +kernel
theorem dX2_sumInOrder_3 : decode cX2_sumInOrder 3 = .ok (.istore_n 3, 1) := by decide +kernel
theorem dX2_sumInOrder_4 : decode cX2_sumInOrder 4 = .ok (.iconst 0, 1) := by decide +kernel
theorem dX2_sumInOrder_5 : decode cX2_sumInOrder 5 = .ok (.istore 4, 2) := by decide +kernel
theorem dX2_sumInOrder_7 : decode cX2_sumInOrder 7 = .ok (.iload 4, 2) := by decide +kernel
theorem dX2_sumInOrder_9 : decode cX2_sumInOrder 9 = .ok (.aload_n 0, 1) := by decide +kernel
theorem dX2_sumInOrder_10 : decode cX2_sumInOrder 10 = .ok (.getfield 24, 3) := by decide +kernel
theorem dX2_sumInOrder_13 : decode cX2_sumInOrder 13 = .ok (.if_icmp .ge 70, 3) := by decide +kernel
theorem dX2_sumInOrder_16 : decode cX2_sumInOrder 16 = .ok (.aload_n 0, 1) := by decide +kernel
theorem dX2_sumInOrder_17 : decode cX2_sumInOrder 17 = .ok (.getfield 18, 3) := by decide +kernel
theorem dX2_sumInOrder_20 : decode cX2_sumInOrder 20 = .ok (.iload 4, 2) := by decide +kernel
theorem dX2_sumInOrder_22 : decode cX2_sumInOrder 22 = .ok (.invokestatic 32, 3) := by decide +kernel
theorem dX2_sumInOrder_25 : decode cX2_sumInOrder 25 = .ok (.istore 5, 2) := by decide +kernel
theorem dX2_sumInOrder_27 : decode cX2_sumInOrder 27 = .ok (.iload_n 2, 1) := by decide +kernel
theorem dX2_sumInOrder_28 : decode cX2_sumInOrder 28 = .ok (.aload_n 0, 1) := by decide +kernel
theorem dX2_sumInOrder_29 : decode cX2_sumInOrder 29 = .ok (.getfield 9, 3) := by decide +kernel
theorem dX2_sumInOrder_32 : decode cX2_sumInOrder 32 = .ok (.iload 5, 2) := by decide +kernel
theorem dX2_sumInOrder_34 : decode cX2_sumInOrder 34 = .ok (.invokestatic 32, 3) := by decide +kernel
theorem dX2_sumInOrder_37 : decode cX2_sumInOrder 37 = .ok (.invokestatic 47, 3) := by decide +kernel
theorem dX2_sumInOrder_40 : decode cX2_sumInOrder 40 = .ok (.istore 6, 2) := by decide +kernel
theorem dX2_sumInOrder_42 : decode cX2_sumInOrder 42 = .ok (.iload_n 2, 1) := by decide +kernel
theorem dX2_sumInOrder_43 : decode cX2_sumInOrder 43 = .ok (.iload 6, 2) := by decide +kernel
theorem dX2_sumInOrder_45 : decode cX2_sumInOrder 45 = .ok (.isub, 1) := by decide +kernel
theorem dX2_sumInOrder_46 : decode cX2_sumInOrder 46 = .ok (.istore_n 2, 1) := by decide +kernel
theorem dX2_sumInOrder_47 : decode cX2_sumInOrder 47 = .ok (.iload_n 3, 1) := by decide +kernel
theorem dX2_sumInOrder_48 : decode cX2_sumInOrder 48 = .ok (.iload 6, 2) := by decide +kernel
theorem dX2_sumInOrder_50 : decode cX2_sumInOrder 50 = .ok (.aload_n 0, 1) := by decide +kernel
theorem dX2_sumInOrder_51 : decode cX2_sumInOrder 51 = .ok (.getfield 9, 3) := by decide +kernel
theorem dX2_sumInOrder_54 : decode cX2_sumInOrder 54 = .ok (.iload 5, 2) := by decide +kernel
theorem dX2_sumInOrder_56 : decode cX2_sumInOrder 56 = .ok (.invokestatic 32, 3) := by decide +kernel
theorem dX2_sumInOrder_59 : decode cX2_sumInOrder 59 = .ok (.iload 6, 2) := by decide +kernel
theorem dX2_sumInOrder_61 : decode cX2_sumInOrder 61 = .ok (.isub, 1) := by decide +kernel
theorem dX2_sumInOrder_62 : decode cX2_sumInOrder 62 = .ok (.aload_n 0, 1) := by decide +kernel
theorem dX2_sumInOrder_63 : decode cX2_sumInOrder 63 = .ok (.getfield 15, 3) := by decide +kernel
theorem dX2_sumInOrder_66 : decode cX2_sumInOrder 66 = .ok (.iload 5, 2) := by decide +kernel
theorem dX2_sumInOrder_68 : decode cX2_sumInOrder 68 = .ok (.invokestatic 32, 3) := by decide +kernel
theorem dX2_sumInOrder_71 : decode cX2_sumInOrder 71 = .ok (.invokestatic 53, 3) := by decide +kernel
theorem dX2_sumInOrder_74 : decode cX2_sumInOrder 74 = .ok (.iadd, 1) := by decide +kernel
theorem dX2_sumInOrder_75 : decode cX2_sumInOrder 75 = .ok (.iadd, 1) := by decide +kernel
theorem dX2_sumInOrder_76 : decode cX2_sumInOrder 76 = .ok (.istore_n 3, 1) := by decide +kernel
theorem dX2_sumInOrder_77 : decode cX2_sumInOrder 77 = .ok (.iinc 4 1, 3) := by decide +kernel
theorem dX2_sumInOrder_80 : decode cX2_sumInOrder 80 = .ok (.goto (-73), 3) := by decide +kernel
theorem dX2_sumInOrder_83 : decode cX2_sumInOrder 83 = .ok (.iload_n 3, 1) := by decide +kernel
theorem dX2_sumInOrder_84 : decode cX2_sumInOrder 84 = .ok (.ireturn, 1) := by decide +kernel
set_option maxRecDepth 20000 in
theorem ggX2_keepOrder_X7_at : GoodIn wsX2_keepOrder wsX7_at := goodIn_r _ [6] (by decide +kernel) (by decide +kernel)
set_option maxRecDepth 20000 in
theorem gX2_keepOrder_X7_at_n32 : GoodIn wsX2_keepOrder (wsX7_at) := ggX2_keepOrder_X7_at
set_option maxRecDepth 20000 in
theorem ggX2_keepOrder_X7_put : GoodIn wsX2_keepOrder wsX7_put := goodIn_r _ [8] (by decide +kernel) (by decide +kernel)
set_option maxRecDepth 20000 in
theorem gX2_keepOrder_X7_put_n28 : GoodIn wsX2_keepOrder (wsX7_put) := ggX2_keepOrder_X7_put
theorem dX2_keepOrder_0 : decode cX2_keepOrder 0 = .ok (.iconst 0, 1) := by decide +kernel
theorem dX2_keepOrder_1 : decode cX2_keepOrder 1 = .ok (.istore_n 1, 1) := by decide +kernel
theorem dX2_keepOrder_2 : decode cX2_keepOrder 2 = .ok (.iload_n 1, 1) := by decide +kernel
theorem dX2_keepOrder_3 : decode cX2_keepOrder 3 = .ok (.aload_n 0, 1) := by decide +kernel
theorem dX2_keepOrder_4 : decode cX2_keepOrder 4 = .ok (.getfield 24, 3) := by decide +kernel
theorem dX2_keepOrder_7 : decode cX2_keepOrder 7 = .ok (.if_icmp .ge 25, 3) := by decide +kernel
theorem dX2_keepOrder_10 : decode cX2_keepOrder 10 = .ok (.aload_n 0, 1) := by decide +kernel
theorem dX2_keepOrder_11 : decode cX2_keepOrder 11 = .ok (.getfield 21, 3) := by decide +kernel
theorem dX2_keepOrder_14 : decode cX2_keepOrder 14 = .ok (.iload_n 1, 1) := by decide +kernel
theorem dX2_keepOrder_15 : decode cX2_keepOrder 15 = .ok (.aload_n 0, 1) := by decide +kernel
theorem dX2_keepOrder_16 : decode cX2_keepOrder 16 = .ok (.getfield 18, 3) := by decide +kernel
theorem dX2_keepOrder_19 : decode cX2_keepOrder 19 = .ok (.iload_n 1, 1) := by decide +kernel
theorem dX2_keepOrder_20 : decode cX2_keepOrder 20 = .ok (.invokestatic 32, 3) := by decide +kernel
theorem dX2_keepOrder_23 : decode cX2_keepOrder 23 = .ok (.invokestatic 28, 3) := by decide +kernel
theorem dX2_keepOrder_26 : decode cX2_keepOrder 26 = .ok (.iinc 1 1, 3) := by decide +kernel
theorem dX2_keepOrder_29 : decode cX2_keepOrder 29 = .ok (.goto (-27), 3) := by decide +kernel
theorem dX2_keepOrder_32 : decode cX2_keepOrder 32 = .ok (.return_, 1) := by decide +kernel
set_option maxRecDepth 20000 in
theorem ggX2_toNextOrder_X7_at : GoodIn wsX2_toNextOrder wsX7_at := goodIn_r _ [5] (by decide +kernel) (by decide +kernel)
set_option maxRecDepth 20000 in
theorem gX2_toNextOrder_X7_at_n32 : GoodIn wsX2_toNextOrder (wsX7_at) := ggX2_toNextOrder_X7_at
set_option maxRecDepth 20000 in
theorem ggX2_toNextOrder_X2_swap : GoodIn wsX2_toNextOrder wsX2_swap := goodIn_r _ [10, 2, 3, 4, 5, 11, 12, 13, 14, 15, 16, 17] (by decide +kernel) (by decide +kernel)
set_option maxRecDepth 20000 in
theorem gX2_toNextOrder_X2_swap : GoodIn wsX2_toNextOrder (wsV RX2 56 RX2 yX2_swap wsX2_swap) := goodIn_app (goodIn_of _ (by decide +kernel)) ggX2_toNextOrder_X2_swap
theorem dX2_toNextOrder_0 : decode cX2_toNextOrder 0 = .ok (.aload_n 0, 1) := by decide +kernel
theorem dX2_toNextOrder_1 : decode cX2_toNextOrder 1 = .ok (.getfield 24, 3) := by decide +kernel
theorem dX2_toNextOrder_4 : decode cX2_toNextOrder 4 = .ok (.iconst 2, 1) := by decide +kernel
theorem dX2_toNextOrder_5 : decode cX2_toNextOrder 5 = .ok (.isub, 1) := by decide +kernel
theorem dX2_toNextOrder_6 : decode cX2_toNextOrder 6 = .ok (.istore_n 1, 1) := by decide +kernel
theorem dX2_toNextOrder_7 : decode cX2_toNextOrder 7 = .ok (.iload_n 1, 1) := by decide +kernel
theorem dX2_toNextOrder_8 : decode cX2_toNextOrder 8 = .ok (.ifCond .lt 30, 3) := by decide +kernel
theorem dX2_toNextOrder_11 : decode cX2_toNextOrder 11 = .ok (.aload_n 0, 1) := by decide +kernel
theorem dX2_toNextOrder_12 : decode cX2_toNextOrder 12 = .ok (.getfield 18, 3) := by decide +kernel
theorem dX2_toNextOrder_15 : decode cX2_toNextOrder 15 = .ok (.iload_n 1, 1) := by decide +kernel
theorem dX2_toNextOrder_16 : decode cX2_toNextOrder 16 = .ok (.invokestatic 32, 3) := by decide +kernel
theorem dX2_toNextOrder_19 : decode cX2_toNextOrder 19 = .ok (.aload_n 0, 1) := by decide +kernel
theorem dX2_toNextOrder_20 : decode cX2_toNextOrder 20 = .ok (.getfield 18, 3) := by decide +kernel
theorem dX2_toNextOrder_23 : decode cX2_toNextOrder 23 = .ok (.iload_n 1, 1) := by decide +kernel
theorem dX2_toNextOrder_24 : decode cX2_toNextOrder 24 = .ok (.iconst 1, 1) := by decide +kernel
theorem dX2_toNextOrder_25 : decode cX2_toNextOrder 25 = .ok (.iadd, 1) := by decide +kernel
theorem dX2_toNextOrder_26 : decode cX2_toNextOrder 26 = .ok (.invokestatic 32, 3) := by decide +kernel
theorem dX2_toNextOrder_29 : decode cX2_toNextOrder 29 = .ok (.if_icmp .le 9, 3) := by decide +kernel
theorem dX2_toNextOrder_32 : decode cX2_toNextOrder 32 = .ok (.iinc 1 (-1), 3) := by decide +kernel
theorem dX2_toNextOrder_35 : decode cX2_toNextOrder 35 = .ok (.goto (-28), 3) := by decide +kernel
theorem dX2_toNextOrder_38 : decode cX2_toNextOrder 38 = .ok (.iload_n 1, 1) := by decide +kernel
theorem dX2_toNextOrder_39 : decode cX2_toNextOrder 39 = .ok (.ifCond .ge 5, 3) := by decide +kernel
theorem dX2_toNextOrder_42 : decode cX2_toNextOrder 42 = .ok (.iconst 0, 1) := by decide +kernel
theorem dX2_toNextOrder_43 : decode cX2_toNextOrder 43 = .ok (.ireturn, 1) := by decide +kernel
theorem dX2_toNextOrder_44 : decode cX2_toNextOrder 44 = .ok (.aload_n 0, 1) := by decide +kernel
theorem dX2_toNextOrder_45 : decode cX2_toNextOrder 45 = .ok (.getfield 24, 3) := by decide +kernel
theorem dX2_toNextOrder_48 : decode cX2_toNextOrder 48 = .ok (.iconst 1, 1) := by decide +kernel
theorem dX2_toNextOrder_49 : decode cX2_toNextOrder 49 = .ok (.isub, 1) := by decide +kernel
theorem dX2_toNextOrder_50 : decode cX2_toNextOrder 50 = .ok (.istore_n 2, 1) := by decide +kernel
theorem dX2_toNextOrder_51 : decode cX2_toNextOrder 51 = .ok (.iload_n 2, 1) := by decide +kernel
theorem dX2_toNextOrder_52 : decode cX2_toNextOrder 52 = .ok (.iload_n 1, 1) := by decide +kernel
theorem dX2_toNextOrder_53 : decode cX2_toNextOrder 53 = .ok (.if_icmp .le 28, 3) := by decide +kernel
theorem dX2_toNextOrder_56 : decode cX2_toNextOrder 56 = .ok (.aload_n 0, 1) := by decide +kernel
theorem dX2_toNextOrder_57 : decode cX2_toNextOrder 57 = .ok (.getfield 18, 3) := by decide +kernel
theorem dX2_toNextOrder_60 : decode cX2_toNextOrder 60 = .ok (.iload_n 2, 1) := by decide +kernel
theorem dX2_toNextOrder_61 : decode cX2_toNextOrder 61 = .ok (.invokestatic 32, 3) := by decide +kernel
theorem dX2_toNextOrder_64 : decode cX2_toNextOrder 64 = .ok (.aload_n 0, 1) := by decide +kernel
theorem dX2_toNextOrder_65 : decode cX2_toNextOrder 65 = .ok (.getfield 18, 3) := by decide +kernel
theorem dX2_toNextOrder_68 : decode cX2_toNextOrder 68 = .ok (.iload_n 1, 1) := by decide +kernel
theorem dX2_toNextOrder_69 : decode cX2_toNextOrder 69 = .ok (.invokestatic 32, 3) := by decide +kernel
theorem dX2_toNextOrder_72 : decode cX2_toNextOrder 72 = .ok (.if_icmp .ge 9, 3) := by decide +kernel
theorem dX2_toNextOrder_75 : decode cX2_toNextOrder 75 = .ok (.iinc 2 (-1), 3) := by decide +kernel
theorem dX2_toNextOrder_78 : decode cX2_toNextOrder 78 = .ok (.goto (-27), 3) := by decide +kernel
theorem dX2_toNextOrder_81 : decode cX2_toNextOrder 81 = .ok (.aload_n 0, 1) := by decide +kernel
theorem dX2_toNextOrder_82 : decode cX2_toNextOrder 82 = .ok (.iload_n 1, 1) := by decide +kernel
theorem dX2_toNextOrder_83 : decode cX2_toNextOrder 83 = .ok (.iload_n 2, 1) := by decide +kernel
theorem dX2_toNextOrder_84 : decode cX2_toNextOrder 84 = .ok (.invokevirtual 56, 3) := by decide +kernel
theorem dX2_toNextOrder_87 : decode cX2_toNextOrder 87 = .ok (.iload_n 1, 1) := by decide +kernel
theorem dX2_toNextOrder_88 : decode cX2_toNextOrder 88 = .ok (.iconst 1, 1) := by decide +kernel
theorem dX2_toNextOrder_89 : decode cX2_toNextOrder 89 = .ok (.iadd, 1) := by decide +kernel
theorem dX2_toNextOrder_90 : decode cX2_toNextOrder 90 = .ok (.istore_n 3, 1) := by decide +kernel
theorem dX2_toNextOrder_91 : decode cX2_toNextOrder 91 = .ok (.aload_n 0, 1) := by decide +kernel
theorem dX2_toNextOrder_92 : decode cX2_toNextOrder 92 = .ok (.getfield 24, 3) := by decide +kernel
theorem dX2_toNextOrder_95 : decode cX2_toNextOrder 95 = .ok (.iconst 1, 1) := by decide +kernel
theorem dX2_toNextOrder_96 : decode cX2_toNextOrder 96 = .ok (.isub, 1) := by decide +kernel
theorem dX2_toNextOrder_97 : decode cX2_toNextOrder 97 = .ok (.istore 4, 2) := by decide +kernel
theorem dX2_toNextOrder_99 : decode cX2_toNextOrder 99 = .ok (.iload_n 3, 1) := by decide +kernel
theorem dX2_toNextOrder_100 : decode cX2_toNextOrder 100 = .ok (.iload 4, 2) := by decide +kernel
theorem dX2_toNextOrder_102 : decode cX2_toNextOrder 102 = .ok (.if_icmp .ge 19, 3) := by decide +kernel
theorem dX2_toNextOrder_105 : decode cX2_toNextOrder 105 = .ok (.aload_n 0, 1) := by decide +kernel
theorem dX2_toNextOrder_106 : decode cX2_toNextOrder 106 = .ok (.iload_n 3, 1) := by decide +kernel
theorem dX2_toNextOrder_107 : decode cX2_toNextOrder 107 = .ok (.iload 4, 2) := by decide +kernel
theorem dX2_toNextOrder_109 : decode cX2_toNextOrder 109 = .ok (.invokevirtual 56, 3) := by decide +kernel
theorem dX2_toNextOrder_112 : decode cX2_toNextOrder 112 = .ok (.iinc 3 1, 3) := by decide +kernel
theorem dX2_toNextOrder_115 : decode cX2_toNextOrder 115 = .ok (.iinc 4 (-1), 3) := by decide +kernel
theorem dX2_toNextOrder_118 : decode cX2_toNextOrder 118 = .ok (.goto (-19), 3) := by decide +kernel
theorem dX2_toNextOrder_121 : decode cX2_toNextOrder 121 = .ok (.iconst 1, 1) := by decide +kernel
theorem dX2_toNextOrder_122 : decode cX2_toNextOrder 122 = .ok (.ireturn, 1) := by decide +kernel
set_option maxRecDepth 20000 in
theorem ggX2_swap_X7_at : GoodIn wsX2_swap wsX7_at := goodIn_r _ [4] (by decide +kernel) (by decide +kernel)
set_option maxRecDepth 20000 in
theorem gX2_swap_X7_at_n32 : GoodIn wsX2_swap (wsX7_at) := ggX2_swap_X7_at
set_option maxRecDepth 20000 in
theorem ggX2_swap_X7_put : GoodIn wsX2_swap wsX7_put := goodIn_r _ [6] (by decide +kernel) (by decide +kernel)
set_option maxRecDepth 20000 in
theorem gX2_swap_X7_put_n28 : GoodIn wsX2_swap (wsX7_put) := ggX2_swap_X7_put
theorem dX2_swap_0 : decode cX2_swap 0 = .ok (.aload_n 0, 1) := by decide +kernel
theorem dX2_swap_1 : decode cX2_swap 1 = .ok (.getfield 18, 3) := by decide +kernel
theorem dX2_swap_4 : decode cX2_swap 4 = .ok (.iload_n 1, 1) := by decide +kernel
theorem dX2_swap_5 : decode cX2_swap 5 = .ok (.invokestatic 32, 3) := by decide +kernel
theorem dX2_swap_8 : decode cX2_swap 8 = .ok (.istore_n 3, 1) := by decide +kernel
theorem dX2_swap_9 : decode cX2_swap 9 = .ok (.aload_n 0, 1) := by decide +kernel
theorem dX2_swap_10 : decode cX2_swap 10 = .ok (.getfield 18, 3) := by decide +kernel
theorem dX2_swap_13 : decode cX2_swap 13 = .ok (.iload_n 1, 1) := by decide +kernel
theorem dX2_swap_14 : decode cX2_swap 14 = .ok (.aload_n 0, 1) := by decide +kernel
theorem dX2_swap_15 : decode cX2_swap 15 = .ok (.getfield 18, 3) := by decide +kernel
theorem dX2_swap_18 : decode cX2_swap 18 = .ok (.iload_n 2, 1) := by decide +kernel
theorem dX2_swap_19 : decode cX2_swap 19 = .ok (.invokestatic 32, 3) := by decide +kernel
theorem dX2_swap_22 : decode cX2_swap 22 = .ok (.invokestatic 28, 3) := by decide +kernel
theorem dX2_swap_25 : decode cX2_swap 25 = .ok (.aload_n 0, 1) := by decide +kernel
theorem dX2_swap_26 : decode cX2_swap 26 = .ok (.getfield 18, 3) := by decide +kernel
theorem dX2_swap_29 : decode cX2_swap 29 = .ok (.iload_n 2, 1) := by decide +kernel
theorem dX2_swap_30 : decode cX2_swap 30 = .ok (.iload_n 3, 1) := by decide +kernel
theorem dX2_swap_31 : decode cX2_swap 31 = .ok (.invokestatic 28, 3) := by decide +kernel
theorem dX2_swap_34 : decode cX2_swap 34 = .ok (.return_, 1) := by decide +kernel
theorem dX3_init_0 : decode cX3_init 0 = .ok (.aload_n 0, 1) := by decide +kernel
theorem dX3_init_1 : decode cX3_init 1 = .ok (.invokespecial 3, 3) := by decide +kernel
theorem dX3_init_4 : decode cX3_init 4 = .ok (.aload_n 0, 1) := by decide +kernel
theorem dX3_init_5 : decode cX3_init 5 = .ok (.bipush 16, 2) := by decide +kernel
theorem dX3_init_7 : decode cX3_init 7 = .ok (.newarray .int, 2) := by decide +kernel
theorem dX3_init_9 : decode cX3_init 9 = .ok (.putfield 9, 3) := by decide +kernel
theorem dX3_init_12 : decode cX3_init 12 = .ok (.return_, 1) := by decide +kernel
set_option maxRecDepth 20000 in
theorem ggX3_explain_X3_add : GoodIn wsX3_explain wsX3_add := goodIn_r _ [8, 2, 3, 1, 9, 10, 11, 12, 13, 14, 15, 16, 45, 46, 47] (by decide +kernel) (by decide +kernel)
set_option maxRecDepth 20000 in
theorem gX3_explain_X3_add : GoodIn wsX3_explain (wsV RX3 22 RX3 yX3_add wsX3_add) := goodIn_app (goodIn_of _ (by decide +kernel)) ggX3_explain_X3_add
set_option maxRecDepth 20000 in
theorem ggX3_explain_X7_at : GoodIn wsX3_explain wsX7_at := goodIn_r _ [18] (by decide +kernel) (by decide +kernel)
set_option maxRecDepth 20000 in
theorem gX3_explain_X7_at_n26 : GoodIn wsX3_explain (wsX7_at) := ggX3_explain_X7_at
set_option maxRecDepth 20000 in
theorem ggX3_explain_X3_addReasons : GoodIn wsX3_explain wsX3_addReasons := goodIn_r _ [22, 23, 24, 25, 26, 27, 28, 17, 10, 18, 29, 30, 31, 32, 33, 4, 5, 6, 7, 8, 2, 3, 1, 9, 11, 12, 13, 14, 15, 16, 34, 35, 36, 37, 38, 39, 40, 41, 42, 43, 44, 48, 49, 50, 51, 45, 46, 47, 52, 53, 54, 55, 56, 57] (by decide +kernel) (by decide +kernel)
set_option maxRecDepth 20000 in
theorem gX3_explain_X3_addReasons : GoodIn wsX3_explain (wsV RX3 30 RX3 yX3_addReasons wsX3_addReasons) := goodIn_app (goodIn_of _ (by decide +kernel)) ggX3_explain_X3_addReasons
theorem dX3_explain_0 : decode cX3_explain 0 = .ok (.aload_n 0, 1) := by decide +kernel
theorem dX3_explain_1 : decode cX3_explain 1 = .ok (.iconst 0, 1) := by decide +kernel
theorem dX3_explain_2 : decode cX3_explain 2 = .ok (.putfield 15, 3) := by decide +kernel
theorem dX3_explain_5 : decode cX3_explain 5 = .ok (.aload_n 0, 1) := by decide +kernel
theorem dX3_explain_6 : decode cX3_explain 6 = .ok (.iconst 0, 1) := by decide +kernel
theorem dX3_explain_7 : decode cX3_explain 7 = .ok (.putfield 19, 3) := by decide +kernel
theorem dX3_explain_10 : decode cX3_explain 10 = .ok (.aload_n 0, 1) := by decide +kernel
theorem dX3_explain_11 : decode cX3_explain 11 = .ok (.iload_n 1, 1) := by decide +kernel
theorem dX3_explain_12 : decode cX3_explain 12 = .ok (.invokevirtual 22, 3) := by decide +kernel
theorem dX3_explain_15 : decode cX3_explain 15 = .ok (.iconst 0, 1) := by decide +kernel
theorem dX3_explain_16 : decode cX3_explain 16 = .ok (.istore 4, 2) := by decide +kernel
theorem dX3_explain_18 : decode cX3_explain 18 = .ok (.iload 4, 2) := by decide +kernel
theorem dX3_explain_20 : decode cX3_explain 20 = .ok (.bipush 16, 2) := by decide +kernel
theorem dX3_explain_22 : decode cX3_explain 22 = .ok (.if_icmp .ge 33, 3) := by decide +kernel
theorem dX3_explain_25 : decode cX3_explain 25 = .ok (.iload 4, 2) := by decide +kernel
theorem dX3_explain_27 : decode cX3_explain 27 = .ok (.aload_n 0, 1) := by decide +kernel
theorem dX3_explain_28 : decode cX3_explain 28 = .ok (.getfield 15, 3) := by decide +kernel
theorem dX3_explain_31 : decode cX3_explain 31 = .ok (.if_icmp .ge 24, 3) := by decide +kernel
theorem dX3_explain_34 : decode cX3_explain 34 = .ok (.aload_n 0, 1) := by decide +kernel
theorem dX3_explain_35 : decode cX3_explain 35 = .ok (.aload_n 0, 1) := by decide +kernel
theorem dX3_explain_36 : decode cX3_explain 36 = .ok (.getfield 9, 3) := by decide +kernel
theorem dX3_explain_39 : decode cX3_explain 39 = .ok (.iload 4, 2) := by decide +kernel
theorem dX3_explain_41 : decode cX3_explain 41 = .ok (.invokestatic 26, 3) := by decide +kernel
theorem dX3_explain_44 : decode cX3_explain 44 = .ok (.aload_n 2, 1) := by decide +kernel
theorem dX3_explain_45 : decode cX3_explain 45 = .ok (.aload_n 3, 1) := by decide +kernel
theorem dX3_explain_46 : decode cX3_explain 46 = .ok (.invokevirtual 30, 3) := by decide +kernel
theorem dX3_explain_49 : decode cX3_explain 49 = .ok (.iinc 4 1, 3) := by decide +kernel
theorem dX3_explain_52 : decode cX3_explain 52 = .ok (.goto (-34), 3) := by decide +kernel
theorem dX3_explain_55 : decode cX3_explain 55 = .ok (.return_, 1) := by decide +kernel
set_option maxRecDepth 20000 in
theorem ggX3_lineAt_X7_at : GoodIn wsX3_lineAt wsX7_at := goodIn_r _ [5] (by decide +kernel) (by decide +kernel)
set_option maxRecDepth 20000 in
theorem gX3_lineAt_X7_at_n26 : GoodIn wsX3_lineAt (wsX7_at) := ggX3_lineAt_X7_at
theorem dX3_lineAt_0 : decode cX3_lineAt 0 = .ok (.iload_n 1, 1) := by decide +kernel
theorem dX3_lineAt_1 : decode cX3_lineAt 1 = .ok (.ifCond .lt 22, 3) := by decide +kernel
theorem dX3_lineAt_4 : decode cX3_lineAt 4 = .ok (.iload_n 1, 1) := by decide +kernel
theorem dX3_lineAt_5 : decode cX3_lineAt 5 = .ok (.aload_n 0, 1) := by decide +kernel
theorem dX3_lineAt_6 : decode cX3_lineAt 6 = .ok (.getfield 15, 3) := by decide +kernel
theorem dX3_lineAt_9 : decode cX3_lineAt 9 = .ok (.if_icmp .ge 14, 3) := by decide +kernel
theorem dX3_lineAt_12 : decode cX3_lineAt 12 = .ok (.aload_n 0, 1) := by decide +kernel
theorem dX3_lineAt_13 : decode cX3_lineAt 13 = .ok (.getfield 9, 3) := by decide +kernel
theorem dX3_lineAt_16 : decode cX3_lineAt 16 = .ok (.iload_n 1, 1) := by decide +kernel
theorem dX3_lineAt_17 : decode cX3_lineAt 17 = .ok (.invokestatic 26, 3) := by decide +kernel
theorem dX3_lineAt_20 : decode cX3_lineAt 20 = .ok (.goto 4, 3) := by decide +kernel
theorem dX3_lineAt_23 : decode cX3_lineAt 23 = .ok (.iconst (-1), 1) := by decide +kernel
theorem dX3_lineAt_24 : decode cX3_lineAt 24 = .ok (.ireturn, 1) := by decide +kernel
set_option maxRecDepth 20000 in
theorem ggX3_add_X7_has : GoodIn wsX3_add wsX7_has := goodIn_r _ [6, 7, 8, 5, 9] (by decide +kernel) (by decide +kernel)
set_option maxRecDepth 20000 in
theorem gX3_add_X7_has_n34 : GoodIn wsX3_add (wsX7_has) := ggX3_add_X7_has
set_option maxRecDepth 20000 in
theorem ggX3_add_X7_put : GoodIn wsX3_add wsX7_put := goodIn_r _ [11] (by decide +kernel) (by decide +kernel)
set_option maxRecDepth 20000 in
theorem gX3_add_X7_put_n38 : GoodIn wsX3_add (wsX7_put) := ggX3_add_X7_put
set_option maxRecDepth 20000 in
theorem ggX3_add_X7_bit : GoodIn wsX3_add wsX7_bit := goodIn_r _ [9] (by decide +kernel) (by decide +kernel)
set_option maxRecDepth 20000 in
theorem gX3_add_X7_bit_n42 : GoodIn wsX3_add (wsX7_bit) := ggX3_add_X7_bit
theorem dX3_add_0 : decode cX3_add 0 = .ok (.aload_n 0, 1) := by decide +kernel
theorem dX3_add_1 : decode cX3_add 1 = .ok (.getfield 19, 3) := by decide +kernel
theorem dX3_add_4 : decode cX3_add 4 = .ok (.iload_n 1, 1) := by decide +kernel
theorem dX3_add_5 : decode cX3_add 5 = .ok (.invokestatic 34, 3) := by decide +kernel
theorem dX3_add_8 : decode cX3_add 8 = .ok (.ifCond .ne 38, 3) := by decide +kernel
theorem dX3_add_11 : decode cX3_add 11 = .ok (.aload_n 0, 1) := by decide +kernel
theorem dX3_add_12 : decode cX3_add 12 = .ok (.getfield 9, 3) := by decide +kernel
theorem dX3_add_15 : decode cX3_add 15 = .ok (.aload_n 0, 1) := by decide +kernel
theorem dX3_add_16 : decode cX3_add 16 = .ok (.getfield 15, 3) := by decide +kernel
theorem dX3_add_19 : decode cX3_add 19 = .ok (.iload_n 1, 1) := by decide +kernel
theorem dX3_add_20 : decode cX3_add 20 = .ok (.invokestatic 38, 3) := by decide +kernel
theorem dX3_add_23 : decode cX3_add 23 = .ok (.aload_n 0, 1) := by decide +kernel
theorem dX3_add_24 : decode cX3_add 24 = .ok (.dup, 1) := by decide +kernel
theorem dX3_add_25 : decode cX3_add 25 = .ok (.getfield 15, 3) := by decide +kernel
theorem dX3_add_28 : decode cX3_add 28 = .ok (.iconst 1, 1) := by decide +kernel
theorem dX3_add_29 : decode cX3_add 29 = .ok (.iadd, 1) := by decide +kernel
theorem dX3_add_30 : decode cX3_add 30 = .ok (.putfield 15, 3) := by decide +kernel
theorem dX3_add_33 : decode cX3_add 33 = .ok (.aload_n 0, 1) := by decide +kernel
theorem dX3_add_34 : decode cX3_add 34 = .ok (.dup, 1) := by decide +kernel
theorem dX3_add_35 : decode cX3_add 35 = .ok (.getfield 19, 3) := by decide +kernel
theorem dX3_add_38 : decode cX3_add 38 = .ok (.iload_n 1, 1) := by decide +kernel
theorem dX3_add_39 : decode cX3_add 39 = .ok (.invokestatic 42, 3) := by decide +kernel
theorem dX3_add_42 : decode cX3_add 42 = .ok (.ior, 1) := by decide +kernel
theorem dX3_add_43 : decode cX3_add 43 = .ok (.putfield 19, 3) := by decide +kernel
theorem dX3_add_46 : decode cX3_add 46 = .ok (.return_, 1) := by decide +kernel
set_option maxRecDepth 20000 in
theorem ggX3_addReasons_X5_first : GoodIn wsX3_addReasons wsX5_first := goodIn_r _ [5, 6, 7, 8, 9, 41, 42, 43, 44] (by decide +kernel) (by decide +kernel)
set_option maxRecDepth 20000 in
theorem gX3_addReasons_X5_first : GoodIn wsX3_addReasons (wsV RX3 46 RX5 yX5_first wsX5_first) := goodIn_app (goodIn_of _ (by decide +kernel)) ggX3_addReasons_X5_first
set_option maxRecDepth 20000 in
theorem ggX3_addReasons_X5_kind : GoodIn wsX3_addReasons wsX5_kind := goodIn_r _ [13, 14, 7, 8, 9, 41, 42, 43, 44] (by decide +kernel) (by decide +kernel)
set_option maxRecDepth 20000 in
theorem gX3_addReasons_X5_kind : GoodIn wsX3_addReasons (wsV RX3 51 RX5 yX5_kind wsX5_kind) := goodIn_app (goodIn_of _ (by decide +kernel)) ggX3_addReasons_X5_kind
set_option maxRecDepth 20000 in
theorem ggX3_addReasons_X3_add : GoodIn wsX3_addReasons wsX3_add := goodIn_r _ [19, 20, 21, 22, 23, 8, 24, 25, 26, 27, 28, 29, 45, 46, 47] (by decide +kernel) (by decide +kernel)
set_option maxRecDepth 20000 in
theorem gX3_addReasons_X3_add : GoodIn wsX3_addReasons (wsV RX3 22 RX3 yX3_add wsX3_add) := goodIn_app (goodIn_of _ (by decide +kernel)) ggX3_addReasons_X3_add
set_option maxRecDepth 20000 in
theorem ggX3_addReasons_X5_second : GoodIn wsX3_addReasons wsX5_second := goodIn_r _ [33, 34, 7, 8, 9, 41, 42, 43, 44] (by decide +kernel) (by decide +kernel)
set_option maxRecDepth 20000 in
theorem gX3_addReasons_X5_second : GoodIn wsX3_addReasons (wsV RX3 54 RX5 yX5_second wsX5_second) := goodIn_app (goodIn_of _ (by decide +kernel)) ggX3_addReasons_X5_second
set_option maxRecDepth 20000 in
theorem ggX3_addReasons_X6_of : GoodIn wsX3_addReasons wsX6_of := goodIn_r _ [39, 40, 7, 8, 9, 48, 49, 50, 51, 52, 53] (by decide +kernel) (by decide +kernel)
set_option maxRecDepth 20000 in
theorem gX3_addReasons_X6_of : GoodIn wsX3_addReasons (wsV RX3 57 RX6 yX6_of wsX6_of) := goodIn_app (goodIn_of _ (by decide +kernel)) ggX3_addReasons_X6_of
theorem dX3_addReasons_0 : decode cX3_addReasons 0 = .ok (.aload_n 2, 1) := by decide +kernel
theorem dX3_addReasons_1 : decode cX3_addReasons 1 = .ok (.iload_n 1, 1) := by decide +kernel
theorem dX3_addReasons_2 : decode cX3_addReasons 2 = .ok (.invokevirtual 46, 3) := by decide +kernel
theorem dX3_addReasons_5 : decode cX3_addReasons 5 = .ok (.istore 4, 2) := by decide +kernel
theorem dX3_addReasons_7 : decode cX3_addReasons 7 = .ok (.aload_n 2, 1) := by decide +kernel
theorem dX3_addReasons_8 : decode cX3_addReasons 8 = .ok (.iload_n 1, 1) := by decide +kernel
theorem dX3_addReasons_9 : decode cX3_addReasons 9 = .ok (.invokevirtual 51, 3) := by decide +kernel
theorem dX3_addReasons_12 : decode cX3_addReasons 12 = .ok (.tableswitch 106 1 8 #[48, 48, 66, 75, 75, 66, 66, 75], 48) := by decide +kernel
theorem dX3_addReasons_60 : decode cX3_addReasons 60 = .ok (.aload_n 0, 1) := by decide +kernel
theorem dX3_addReasons_61 : decode cX3_addReasons 61 = .ok (.iload 4, 2) := by decide +kernel
theorem dX3_addReasons_63 : decode cX3_addReasons 63 = .ok (.invokevirtual 22, 3) := by decide +kernel
theorem dX3_addReasons_66 : decode cX3_addReasons 66 = .ok (.aload_n 0, 1) := by decide +kernel
theorem dX3_addReasons_67 : decode cX3_addReasons 67 = .ok (.aload_n 2, 1) := by decide +kernel
theorem dX3_addReasons_68 : decode cX3_addReasons 68 = .ok (.iload_n 1, 1) := by decide +kernel
theorem dX3_addReasons_69 : decode cX3_addReasons 69 = .ok (.invokevirtual 54, 3) := by decide +kernel
theorem dX3_addReasons_72 : decode cX3_addReasons 72 = .ok (.invokevirtual 22, 3) := by decide +kernel
theorem dX3_addReasons_75 : decode cX3_addReasons 75 = .ok (.goto 43, 3) := by decide +kernel
theorem dX3_addReasons_78 : decode cX3_addReasons 78 = .ok (.aload_n 0, 1) := by decide +kernel
theorem dX3_addReasons_79 : decode cX3_addReasons 79 = .ok (.iload 4, 2) := by decide +kernel
theorem dX3_addReasons_81 : decode cX3_addReasons 81 = .ok (.invokevirtual 22, 3) := by decide +kernel
theorem dX3_addReasons_84 : decode cX3_addReasons 84 = .ok (.goto 34, 3) := by decide +kernel
theorem dX3_addReasons_87 : decode cX3_addReasons 87 = .ok (.aload_n 0, 1) := by decide +kernel
theorem dX3_addReasons_88 : decode cX3_addReasons 88 = .ok (.aload_n 3, 1) := by decide +kernel
theorem dX3_addReasons_89 : decode cX3_addReasons 89 = .ok (.iload 4, 2) := by decide +kernel
theorem dX3_addReasons_91 : decode cX3_addReasons 91 = .ok (.invokevirtual 57, 3) := by decide +kernel
theorem dX3_addReasons_94 : decode cX3_addReasons 94 = .ok (.aload_n 3, 1) := by decide +kernel
theorem dX3_addReasons_95 : decode cX3_addReasons 95 = .ok (.iload_n 1, 1) := by decide +kernel
theorem dX3_addReasons_96 : decode cX3_addReasons 96 = .ok (.invokevirtual 57, 3) := by decide +kernel
theorem dX3_addReasons_99 : decode cX3_addReasons 99 = .ok (.if_icmp .ne 8, 3) := by decide +kernel
theorem dX3_addReasons_102 : decode cX3_addReasons 102 = .ok (.iload 4, 2) := by decide +kernel
theorem dX3_addReasons_104 : decode cX3_addReasons 104 = .ok (.goto 8, 3) := by decide +kernel
theorem dX3_addReasons_107 : decode cX3_addReasons 107 = .ok (.aload_n 2, 1) := by decide +kernel
theorem dX3_addReasons_108 : decode cX3_addReasons 108 = .ok (.iload_n 1, 1) := by decide +kernel
theorem dX3_addReasons_109 : decode cX3_addReasons 109 = .ok (.invokevirtual 54, 3) := by decide +kernel
theorem dX3_addReasons_112 : decode cX3_addReasons 112 = .ok (.invokevirtual 22, 3) := by decide +kernel
theorem dX3_addReasons_115 : decode cX3_addReasons 115 = .ok (.goto 3, 3) := by decide +kernel
theorem dX3_addReasons_118 : decode cX3_addReasons 118 = .ok (.return_, 1) := by decide +kernel
theorem dX4_init_0 : decode cX4_init 0 = .ok (.aload_n 0, 1) := by decide +kernel
theorem dX4_init_1 : decode cX4_init 1 = .ok (.invokespecial 3, 3) := by decide +kernel
theorem dX4_init_4 : decode cX4_init 4 = .ok (.aload_n 0, 1) := by decide +kernel
theorem dX4_init_5 : decode cX4_init 5 = .ok (.bipush 16, 2) := by decide +kernel
theorem dX4_init_7 : decode cX4_init 7 = .ok (.newarray .int, 2) := by decide +kernel
theorem dX4_init_9 : decode cX4_init 9 = .ok (.putfield 9, 3) := by decide +kernel
theorem dX4_init_12 : decode cX4_init 12 = .ok (.aload_n 0, 1) := by decide +kernel
theorem dX4_init_13 : decode cX4_init 13 = .ok (.bipush 16, 2) := by decide +kernel
theorem dX4_init_15 : decode cX4_init 15 = .ok (.newarray .int, 2) := by decide +kernel
theorem dX4_init_17 : decode cX4_init 17 = .ok (.putfield 15, 3) := by decide +kernel
theorem dX4_init_20 : decode cX4_init 20 = .ok (.aload_n 0, 1) := by decide +kernel
theorem dX4_init_21 : decode cX4_init 21 = .ok (.bipush 16, 2) := by decide +kernel
theorem dX4_init_23 : decode cX4_init 23 = .ok (.newarray .int, 2) := by decide +kernel
theorem dX4_init_25 : decode cX4_init 25 = .ok (.putfield 18, 3) := by decide +kernel
theorem dX4_init_28 : decode cX4_init 28 = .ok (.return_, 1) := by decide +kernel
set_option maxRecDepth 20000 in
theorem ggX4_make_X4_findReach : GoodIn wsX4_make wsX4_findReach := goodIn_r _ [8, 9, 10, 11, 12, 13, 14, 15, 16, 17, 18, 19, 20, 21, 22, 23, 24, 25, 26, 27, 28, 29, 30, 31, 32, 33, 34, 35, 36, 37, 38, 39, 40, 41, 42, 43, 7, 44, 45, 46, 47, 87, 88, 89, 90, 91, 92, 93, 94, 95, 96, 97] (by decide +kernel) (by decide +kernel)
set_option maxRecDepth 20000 in
theorem gX4_make_X4_findReach : GoodIn wsX4_make (wsV RX4 21 RX4 yX4_findReach wsX4_findReach) := goodIn_app (goodIn_of _ (by decide +kernel)) ggX4_make_X4_findReach
set_option maxRecDepth 20000 in
theorem ggX4_make_X4_findGroups : GoodIn wsX4_make wsX4_findGroups := goodIn_r _ [51, 52, 30, 21, 31, 41, 42, 43, 7, 44, 9, 20, 22, 45, 46, 47, 39, 40, 87, 88, 89, 90, 91, 92, 93] (by decide +kernel) (by decide +kernel)
set_option maxRecDepth 20000 in
theorem gX4_make_X4_findGroups : GoodIn wsX4_make (wsV RX4 25 RX4 yX4_findGroups wsX4_findGroups) := goodIn_app (goodIn_of _ (by decide +kernel)) ggX4_make_X4_findGroups
set_option maxRecDepth 20000 in
theorem ggX4_make_X4_isReady : GoodIn wsX4_make wsX4_isReady := goodIn_r _ [56, 2, 45, 21, 46, 47, 30, 31, 41, 42, 43, 7, 44, 9, 20, 22, 57, 58, 59, 60, 52, 87, 88, 89, 90, 91, 92, 93] (by decide +kernel) (by decide +kernel)
set_option maxRecDepth 20000 in
theorem gX4_make_X4_isReady : GoodIn wsX4_make (wsV RX4 36 RX4 yX4_isReady wsX4_isReady) := goodIn_app (goodIn_of _ (by decide +kernel)) ggX4_make_X4_isReady
set_option maxRecDepth 20000 in
theorem ggX4_make_X4_isCircular : GoodIn wsX4_make wsX4_isCircular := goodIn_r _ [64, 41, 42, 43, 7, 44, 9, 20, 21, 22, 45, 46, 47, 30, 31, 87, 88, 89, 90, 91, 92, 93] (by decide +kernel) (by decide +kernel)
set_option maxRecDepth 20000 in
theorem gX4_make_X4_isCircular : GoodIn wsX4_make (wsV RX4 40 RX4 yX4_isCircular wsX4_isCircular) := goodIn_app (goodIn_of _ (by decide +kernel)) ggX4_make_X4_isCircular
set_option maxRecDepth 20000 in
theorem ggX4_make_X4_place : GoodIn wsX4_make wsX4_place := goodIn_r _ [68, 69, 1, 2, 39, 21, 40, 30, 31, 87, 88, 89, 90, 91, 92, 93] (by decide +kernel) (by decide +kernel)
set_option maxRecDepth 20000 in
theorem gX4_make_X4_place : GoodIn wsX4_make (wsV RX4 43 RX4 yX4_place wsX4_place) := goodIn_app (goodIn_of _ (by decide +kernel)) ggX4_make_X4_place
set_option maxRecDepth 20000 in
theorem ggX4_make_X4_groupOf : GoodIn wsX4_make wsX4_groupOf := goodIn_r _ [60, 52, 20, 21, 22, 87, 88, 89, 90, 91, 92, 93] (by decide +kernel) (by decide +kernel)
set_option maxRecDepth 20000 in
theorem gX4_make_X4_groupOf : GoodIn wsX4_make (wsV RX4 47 RX4 yX4_groupOf wsX4_groupOf) := goodIn_app (goodIn_of _ (by decide +kernel)) ggX4_make_X4_groupOf
set_option maxRecDepth 20000 in
theorem ggX4_make_X4_placeCircle : GoodIn wsX4_make wsX4_placeCircle := goodIn_r _ [73, 74, 75, 2, 76, 77, 78, 7, 79, 45, 21, 46, 47, 30, 31, 80, 16, 17, 13, 18, 19, 20, 22, 81, 26, 27, 28, 29, 65, 66, 67, 68, 69, 1, 39, 40, 10, 11, 12, 14, 15, 23, 24, 25, 32, 33, 34, 35, 36, 37, 38, 82, 83, 84, 85, 86, 87, 88, 89, 90, 91, 92, 93, 94, 95, 96, 97] (by decide +kernel) (by decide +kernel)
set_option maxRecDepth 20000 in
theorem gX4_make_X4_placeCircle : GoodIn wsX4_make (wsV RX4 51 RX4 yX4_placeCircle wsX4_placeCircle) := goodIn_app (goodIn_of _ (by decide +kernel)) ggX4_make_X4_placeCircle
theorem dX4_make_0 : decode cX4_make 0 = .ok (.aload_n 0, 1) := by decide +kernel
theorem dX4_make_1 : decode cX4_make 1 = .ok (.aload_n 1, 1) := by decide +kernel
theorem dX4_make_2 : decode cX4_make 2 = .ok (.invokevirtual 21, 3) := by decide +kernel
theorem dX4_make_5 : decode cX4_make 5 = .ok (.aload_n 0, 1) := by decide +kernel
theorem dX4_make_6 : decode cX4_make 6 = .ok (.invokevirtual 25, 3) := by decide +kernel
theorem dX4_make_9 : decode cX4_make 9 = .ok (.aload_n 0, 1) := by decide +kernel
theorem dX4_make_10 : decode cX4_make 10 = .ok (.iconst 0, 1) := by decide +kernel
theorem dX4_make_11 : decode cX4_make 11 = .ok (.putfield 28, 3) := by decide +kernel
theorem dX4_make_14 : decode cX4_make 14 = .ok (.aload_n 0, 1) := by decide +kernel
theorem dX4_make_15 : decode cX4_make 15 = .ok (.iconst 0, 1) := by decide +kernel
theorem dX4_make_16 : decode cX4_make 16 = .ok (.putfield 32, 3) := by decide +kernel
theorem dX4_make_19 : decode cX4_make 19 = .ok (.iconst 0, 1) := by decide +kernel
theorem dX4_make_20 : decode cX4_make 20 = .ok (.istore_n 2, 1) := by decide +kernel
theorem dX4_make_21 : decode cX4_make 21 = .ok (.iload_n 2, 1) := by decide +kernel
theorem dX4_make_22 : decode cX4_make 22 = .ok (.bipush 16, 2) := by decide +kernel
theorem dX4_make_24 : decode cX4_make 24 = .ok (.if_icmp .ge 79, 3) := by decide +kernel
theorem dX4_make_27 : decode cX4_make 27 = .ok (.aload_n 0, 1) := by decide +kernel
theorem dX4_make_28 : decode cX4_make 28 = .ok (.getfield 32, 3) := by decide +kernel
theorem dX4_make_31 : decode cX4_make 31 = .ok (.ldc 35, 2) := by decide +kernel
theorem dX4_make_33 : decode cX4_make 33 = .ok (.if_icmp .eq 70, 3) := by decide +kernel
theorem dX4_make_36 : decode cX4_make 36 = .ok (.iconst 0, 1) := by decide +kernel
theorem dX4_make_37 : decode cX4_make 37 = .ok (.istore_n 3, 1) := by decide +kernel
theorem dX4_make_38 : decode cX4_make 38 = .ok (.iload_n 3, 1) := by decide +kernel
theorem dX4_make_39 : decode cX4_make 39 = .ok (.bipush 16, 2) := by decide +kernel
theorem dX4_make_41 : decode cX4_make 41 = .ok (.if_icmp .ge 56, 3) := by decide +kernel
theorem dX4_make_44 : decode cX4_make 44 = .ok (.aload_n 0, 1) := by decide +kernel
theorem dX4_make_45 : decode cX4_make 45 = .ok (.iload_n 3, 1) := by decide +kernel
theorem dX4_make_46 : decode cX4_make 46 = .ok (.invokevirtual 36, 3) := by decide +kernel
theorem dX4_make_49 : decode cX4_make 49 = .ok (.ifCond .eq 19, 3) := by decide +kernel
theorem dX4_make_52 : decode cX4_make 52 = .ok (.aload_n 0, 1) := by decide +kernel
theorem dX4_make_53 : decode cX4_make 53 = .ok (.iload_n 3, 1) := by decide +kernel
theorem dX4_make_54 : decode cX4_make 54 = .ok (.invokevirtual 40, 3) := by decide +kernel
theorem dX4_make_57 : decode cX4_make 57 = .ok (.ifCond .ne 11, 3) := by decide +kernel
theorem dX4_make_60 : decode cX4_make 60 = .ok (.aload_n 0, 1) := by decide +kernel
theorem dX4_make_61 : decode cX4_make 61 = .ok (.iload_n 3, 1) := by decide +kernel
theorem dX4_make_62 : decode cX4_make 62 = .ok (.invokevirtual 43, 3) := by decide +kernel
theorem dX4_make_65 : decode cX4_make 65 = .ok (.goto 26, 3) := by decide +kernel
theorem dX4_make_68 : decode cX4_make 68 = .ok (.aload_n 0, 1) := by decide +kernel
theorem dX4_make_69 : decode cX4_make 69 = .ok (.iload_n 3, 1) := by decide +kernel
theorem dX4_make_70 : decode cX4_make 70 = .ok (.invokevirtual 36, 3) := by decide +kernel
theorem dX4_make_73 : decode cX4_make 73 = .ok (.ifCond .eq 18, 3) := by decide +kernel
theorem dX4_make_76 : decode cX4_make 76 = .ok (.aload_n 0, 1) := by decide +kernel
theorem dX4_make_77 : decode cX4_make 77 = .ok (.aload_n 1, 1) := by decide +kernel
theorem dX4_make_78 : decode cX4_make 78 = .ok (.aload_n 0, 1) := by decide +kernel
theorem dX4_make_79 : decode cX4_make 79 = .ok (.iload_n 3, 1) := by decide +kernel
theorem dX4_make_80 : decode cX4_make 80 = .ok (.invokevirtual 47, 3) := by decide +kernel
theorem dX4_make_83 : decode cX4_make 83 = .ok (.invokevirtual 51, 3) := by decide +kernel
theorem dX4_make_86 : decode cX4_make 86 = .ok (.ifCond .ne 5, 3) := by decide +kernel
theorem dX4_make_89 : decode cX4_make 89 = .ok (.iconst 0, 1) := by decide +kernel
theorem dX4_make_90 : decode cX4_make 90 = .ok (.ireturn, 1) := by decide +kernel
theorem dX4_make_91 : decode cX4_make 91 = .ok (.iinc 3 1, 3) := by decide +kernel
theorem dX4_make_94 : decode cX4_make 94 = .ok (.goto (-56), 3) := by decide +kernel
theorem dX4_make_97 : decode cX4_make 97 = .ok (.iinc 2 1, 3) := by decide +kernel
theorem dX4_make_100 : decode cX4_make 100 = .ok (.goto (-79), 3) := by decide +kernel
theorem dX4_make_103 : decode cX4_make 103 = .ok (.iconst 1, 1) := by decide +kernel
theorem dX4_make_104 : decode cX4_make 104 = .ok (.ireturn, 1) := by decide +kernel
set_option maxRecDepth 20000 in
theorem ggX4_reach_X7_at : GoodIn wsX4_reach wsX7_at := goodIn_r _ [4] (by decide +kernel) (by decide +kernel)
set_option maxRecDepth 20000 in
theorem gX4_reach_X7_at_n55 : GoodIn wsX4_reach (wsX7_at) := ggX4_reach_X7_at
theorem dX4_reach_0 : decode cX4_reach 0 = .ok (.aload_n 0, 1) := by decide +kernel
theorem dX4_reach_1 : decode cX4_reach 1 = .ok (.getfield 9, 3) := by decide +kernel
theorem dX4_reach_4 : decode cX4_reach 4 = .ok (.iload_n 1, 1) := by decide +kernel
theorem dX4_reach_5 : decode cX4_reach 5 = .ok (.invokestatic 55, 3) := by decide +kernel
theorem dX4_reach_8 : decode cX4_reach 8 = .ok (.ireturn, 1) := by decide +kernel
set_option maxRecDepth 20000 in
theorem ggX4_isCircular_X4_reach : GoodIn wsX4_isCircular wsX4_reach := goodIn_r _ [5, 6, 7, 8, 9, 15, 16, 17, 18, 19, 20, 21] (by decide +kernel) (by decide +kernel)
set_option maxRecDepth 20000 in
theorem gX4_isCircular_X4_reach : GoodIn wsX4_isCircular (wsV RX4 59 RX4 yX4_reach wsX4_reach) := goodIn_app (goodIn_of _ (by decide +kernel)) ggX4_isCircular_X4_reach
set_option maxRecDepth 20000 in
theorem ggX4_isCircular_X7_has : GoodIn wsX4_isCircular wsX7_has := goodIn_r _ [11, 12, 13, 8, 14] (by decide +kernel) (by decide +kernel)
set_option maxRecDepth 20000 in
theorem gX4_isCircular_X7_has_n61 : GoodIn wsX4_isCircular (wsX7_has) := ggX4_isCircular_X7_has
theorem dX4_isCircular_0 : decode cX4_isCircular 0 = .ok (.aload_n 0, 1) := by decide +kernel
theorem dX4_isCircular_1 : decode cX4_isCircular 1 = .ok (.iload_n 1, 1) := by decide +kernel
theorem dX4_isCircular_2 : decode cX4_isCircular 2 = .ok (.invokevirtual 59, 3) := by decide +kernel
theorem dX4_isCircular_5 : decode cX4_isCircular 5 = .ok (.iload_n 1, 1) := by decide +kernel
theorem dX4_isCircular_6 : decode cX4_isCircular 6 = .ok (.invokestatic 61, 3) := by decide +kernel
theorem dX4_isCircular_9 : decode cX4_isCircular 9 = .ok (.ireturn, 1) := by decide +kernel
set_option maxRecDepth 20000 in
theorem ggX4_groupOf_X7_at : GoodIn wsX4_groupOf wsX7_at := goodIn_r _ [4] (by decide +kernel) (by decide +kernel)
set_option maxRecDepth 20000 in
theorem gX4_groupOf_X7_at_n55 : GoodIn wsX4_groupOf (wsX7_at) := ggX4_groupOf_X7_at
theorem dX4_groupOf_0 : decode cX4_groupOf 0 = .ok (.aload_n 0, 1) := by decide +kernel
theorem dX4_groupOf_1 : decode cX4_groupOf 1 = .ok (.getfield 15, 3) := by decide +kernel
theorem dX4_groupOf_4 : decode cX4_groupOf 4 = .ok (.iload_n 1, 1) := by decide +kernel
theorem dX4_groupOf_5 : decode cX4_groupOf 5 = .ok (.invokestatic 55, 3) := by decide +kernel
theorem dX4_groupOf_8 : decode cX4_groupOf 8 = .ok (.ireturn, 1) := by decide +kernel
set_option maxRecDepth 20000 in
theorem ggX4_lineAt_X7_at : GoodIn wsX4_lineAt wsX7_at := goodIn_r _ [4] (by decide +kernel) (by decide +kernel)
set_option maxRecDepth 20000 in
theorem gX4_lineAt_X7_at_n55 : GoodIn wsX4_lineAt (wsX7_at) := ggX4_lineAt_X7_at
theorem dX4_lineAt_0 : decode cX4_lineAt 0 = .ok (.aload_n 0, 1) := by decide +kernel
theorem dX4_lineAt_1 : decode cX4_lineAt 1 = .ok (.getfield 18, 3) := by decide +kernel
theorem dX4_lineAt_4 : decode cX4_lineAt 4 = .ok (.iload_n 1, 1) := by decide +kernel
theorem dX4_lineAt_5 : decode cX4_lineAt 5 = .ok (.invokestatic 55, 3) := by decide +kernel
theorem dX4_lineAt_8 : decode cX4_lineAt 8 = .ok (.ireturn, 1) := by decide +kernel
set_option maxRecDepth 20000 in
theorem ggX4_placeOf_X4_lineAt : GoodIn wsX4_placeOf wsX4_lineAt := goodIn_r _ [5, 6, 7, 8, 9, 10, 11, 12, 13, 14, 15, 16] (by decide +kernel) (by decide +kernel)
set_option maxRecDepth 20000 in
theorem gX4_placeOf_X4_lineAt : GoodIn wsX4_placeOf (wsV RX4 65 RX4 yX4_lineAt wsX4_lineAt) := goodIn_app (goodIn_of _ (by decide +kernel)) ggX4_placeOf_X4_lineAt
theorem dX4_placeOf_0 : decode cX4_placeOf 0 = .ok (.iconst 0, 1) := by decide +kernel
theorem dX4_placeOf_1 : decode cX4_placeOf 1 = .ok (.istore_n 2, 1) := by decide +kernel
theorem dX4_placeOf_2 : decode cX4_placeOf 2 = .ok (.iload_n 2, 1) := by decide +kernel
theorem dX4_placeOf_3 : decode cX4_placeOf 3 = .ok (.bipush 16, 2) := by decide +kernel
theorem dX4_placeOf_5 : decode cX4_placeOf 5 = .ok (.if_icmp .ge 20, 3) := by decide +kernel
theorem dX4_placeOf_8 : decode cX4_placeOf 8 = .ok (.aload_n 0, 1) := by decide +kernel
theorem dX4_placeOf_9 : decode cX4_placeOf 9 = .ok (.iload_n 2, 1) := by decide +kernel
theorem dX4_placeOf_10 : decode cX4_placeOf 10 = .ok (.invokevirtual 65, 3) := by decide +kernel
theorem dX4_placeOf_13 : decode cX4_placeOf 13 = .ok (.iload_n 1, 1) := by decide +kernel
theorem dX4_placeOf_14 : decode cX4_placeOf 14 = .ok (.if_icmp .ne 5, 3) := by decide +kernel
theorem dX4_placeOf_17 : decode cX4_placeOf 17 = .ok (.iload_n 2, 1) := by decide +kernel
theorem dX4_placeOf_18 : decode cX4_placeOf 18 = .ok (.ireturn, 1) := by decide +kernel
theorem dX4_placeOf_19 : decode cX4_placeOf 19 = .ok (.iinc 2 1, 3) := by decide +kernel
theorem dX4_placeOf_22 : decode cX4_placeOf 22 = .ok (.goto (-20), 3) := by decide +kernel
theorem dX4_placeOf_25 : decode cX4_placeOf 25 = .ok (.iconst (-1), 1) := by decide +kernel
theorem dX4_placeOf_26 : decode cX4_placeOf 26 = .ok (.ireturn, 1) := by decide +kernel
set_option maxRecDepth 20000 in
theorem ggX4_findReach_X5_uses : GoodIn wsX4_findReach wsX5_uses := goodIn_r _ [6, 7, 8, 9, 5, 10, 11, 12, 13, 14, 15, 16, 17, 18, 19, 20, 21, 22, 23, 24, 25, 26, 27, 28, 29, 30, 48, 49, 50, 51] (by decide +kernel) (by decide +kernel)
set_option maxRecDepth 20000 in
theorem gX4_findReach_X5_uses : GoodIn wsX4_findReach (wsV RX4 68 RX5 yX5_uses wsX5_uses) := goodIn_app (goodIn_of _ (by decide +kernel)) ggX4_findReach_X5_uses
set_option maxRecDepth 20000 in
theorem ggX4_findReach_X7_put : GoodIn wsX4_findReach wsX7_put := goodIn_r _ [32] (by decide +kernel) (by decide +kernel)
set_option maxRecDepth 20000 in
theorem gX4_findReach_X7_put_n73 : GoodIn wsX4_findReach (wsX7_put) := ggX4_findReach_X7_put
set_option maxRecDepth 20000 in
theorem ggX4_findReach_X4_reach : GoodIn wsX4_findReach wsX4_reach := goodIn_r _ [37, 1, 12, 13, 14, 41, 42, 43, 44, 45, 46, 47] (by decide +kernel) (by decide +kernel)
set_option maxRecDepth 20000 in
theorem gX4_findReach_X4_reach : GoodIn wsX4_findReach (wsV RX4 59 RX4 yX4_reach wsX4_reach) := goodIn_app (goodIn_of _ (by decide +kernel)) ggX4_findReach_X4_reach
set_option maxRecDepth 20000 in
theorem ggX4_findReach_X7_has : GoodIn wsX4_findReach wsX7_has := goodIn_r _ [39, 40, 22, 13, 23] (by decide +kernel) (by decide +kernel)
set_option maxRecDepth 20000 in
theorem gX4_findReach_X7_has_n61 : GoodIn wsX4_findReach (wsX7_has) := ggX4_findReach_X7_has
theorem dX4_findReach_0 : decode cX4_findReach 0 = .ok (.iconst 0, 1) := by decide +kernel
theorem dX4_findReach_1 : decode cX4_findReach 1 = .ok (.istore_n 2, 1) := by decide +kernel
theorem dX4_findReach_2 : decode cX4_findReach 2 = .ok (.iload_n 2, 1) := by decide +kernel
theorem dX4_findReach_3 : decode cX4_findReach 3 = .ok (.bipush 16, 2) := by decide +kernel
theorem dX4_findReach_5 : decode cX4_findReach 5 = .ok (.if_icmp .ge 22, 3) := by decide +kernel
theorem dX4_findReach_8 : decode cX4_findReach 8 = .ok (.aload_n 0, 1) := by decide +kernel
theorem dX4_findReach_9 : decode cX4_findReach 9 = .ok (.getfield 9, 3) := by decide +kernel
theorem dX4_findReach_12 : decode cX4_findReach 12 = .ok (.iload_n 2, 1) := by decide +kernel
theorem dX4_findReach_13 : decode cX4_findReach 13 = .ok (.aload_n 1, 1) := by decide +kernel
theorem dX4_findReach_14 : decode cX4_findReach 14 = .ok (.iload_n 2, 1) := by decide +kernel
theorem dX4_findReach_15 : decode cX4_findReach 15 = .ok (.invokevirtual 68, 3) := by decide +kernel
theorem dX4_findReach_18 : decode cX4_findReach 18 = .ok (.invokestatic 73, 3) := by decide +kernel
theorem dX4_findReach_21 : decode cX4_findReach 21 = .ok (.iinc 2 1, 3) := by decide +kernel
theorem dX4_findReach_24 : decode cX4_findReach 24 = .ok (.goto (-22), 3) := by decide +kernel
theorem dX4_findReach_27 : decode cX4_findReach 27 = .ok (.iconst 0, 1) := by decide +kernel
theorem dX4_findReach_28 : decode cX4_findReach 28 = .ok (.istore_n 2, 1) := by decide +kernel
theorem dX4_findReach_29 : decode cX4_findReach 29 = .ok (.iload_n 2, 1) := by decide +kernel
theorem dX4_findReach_30 : decode cX4_findReach 30 = .ok (.bipush 16, 2) := by decide +kernel
theorem dX4_findReach_32 : decode cX4_findReach 32 = .ok (.if_icmp .ge 54, 3) := by decide +kernel
theorem dX4_findReach_35 : decode cX4_findReach 35 = .ok (.iconst 0, 1) := by decide +kernel
theorem dX4_findReach_36 : decode cX4_findReach 36 = .ok (.istore_n 3, 1) := by decide +kernel
theorem dX4_findReach_37 : decode cX4_findReach 37 = .ok (.iload_n 3, 1) := by decide +kernel
theorem dX4_findReach_38 : decode cX4_findReach 38 = .ok (.bipush 16, 2) := by decide +kernel
theorem dX4_findReach_40 : decode cX4_findReach 40 = .ok (.if_icmp .ge 40, 3) := by decide +kernel
theorem dX4_findReach_43 : decode cX4_findReach 43 = .ok (.aload_n 0, 1) := by decide +kernel
theorem dX4_findReach_44 : decode cX4_findReach 44 = .ok (.iload_n 3, 1) := by decide +kernel
theorem dX4_findReach_45 : decode cX4_findReach 45 = .ok (.invokevirtual 59, 3) := by decide +kernel
theorem dX4_findReach_48 : decode cX4_findReach 48 = .ok (.iload_n 2, 1) := by decide +kernel
theorem dX4_findReach_49 : decode cX4_findReach 49 = .ok (.invokestatic 61, 3) := by decide +kernel
theorem dX4_findReach_52 : decode cX4_findReach 52 = .ok (.ifCond .eq 22, 3) := by decide +kernel
theorem dX4_findReach_55 : decode cX4_findReach 55 = .ok (.aload_n 0, 1) := by decide +kernel
theorem dX4_findReach_56 : decode cX4_findReach 56 = .ok (.getfield 9, 3) := by decide +kernel
theorem dX4_findReach_59 : decode cX4_findReach 59 = .ok (.iload_n 3, 1) := by decide +kernel
theorem dX4_findReach_60 : decode cX4_findReach 60 = .ok (.aload_n 0, 1) := by decide +kernel
theorem dX4_findReach_61 : decode cX4_findReach 61 = .ok (.iload_n 3, 1) := by decide +kernel
theorem dX4_findReach_62 : decode cX4_findReach 62 = .ok (.invokevirtual 59, 3) := by decide +kernel
theorem dX4_findReach_65 : decode cX4_findReach 65 = .ok (.aload_n 0, 1) := by decide +kernel
theorem dX4_findReach_66 : decode cX4_findReach 66 = .ok (.iload_n 2, 1) := by decide +kernel
theorem dX4_findReach_67 : decode cX4_findReach 67 = .ok (.invokevirtual 59, 3) := by decide +kernel
theorem dX4_findReach_70 : decode cX4_findReach 70 = .ok (.ior, 1) := by decide +kernel
theorem dX4_findReach_71 : decode cX4_findReach 71 = .ok (.invokestatic 73, 3) := by decide +kernel
theorem dX4_findReach_74 : decode cX4_findReach 74 = .ok (.iinc 3 1, 3) := by decide +kernel
theorem dX4_findReach_77 : decode cX4_findReach 77 = .ok (.goto (-40), 3) := by decide +kernel
theorem dX4_findReach_80 : decode cX4_findReach 80 = .ok (.iinc 2 1, 3) := by decide +kernel
theorem dX4_findReach_83 : decode cX4_findReach 83 = .ok (.goto (-54), 3) := by decide +kernel
theorem dX4_findReach_86 : decode cX4_findReach 86 = .ok (.return_, 1) := by decide +kernel
set_option maxRecDepth 20000 in
theorem ggX4_findGroups_X7_bit : GoodIn wsX4_findGroups wsX7_bit := goodIn_r _ [4] (by decide +kernel) (by decide +kernel)
set_option maxRecDepth 20000 in
theorem gX4_findGroups_X7_bit_n77 : GoodIn wsX4_findGroups (wsX7_bit) := ggX4_findGroups_X7_bit
set_option maxRecDepth 20000 in
theorem ggX4_findGroups_X4_reach : GoodIn wsX4_findGroups wsX4_reach := goodIn_r _ [9, 10, 11, 3, 12, 18, 19, 20, 21, 22, 23, 24] (by decide +kernel) (by decide +kernel)
set_option maxRecDepth 20000 in
theorem gX4_findGroups_X4_reach : GoodIn wsX4_findGroups (wsV RX4 59 RX4 yX4_reach wsX4_reach) := goodIn_app (goodIn_of _ (by decide +kernel)) ggX4_findGroups_X4_reach
set_option maxRecDepth 20000 in
theorem ggX4_findGroups_X7_has : GoodIn wsX4_findGroups wsX7_has := goodIn_r _ [14, 15, 2, 3, 4] (by decide +kernel) (by decide +kernel)
set_option maxRecDepth 20000 in
theorem gX4_findGroups_X7_has_n61 : GoodIn wsX4_findGroups (wsX7_has) := ggX4_findGroups_X7_has
set_option maxRecDepth 20000 in
theorem ggX4_findGroups_X7_put : GoodIn wsX4_findGroups wsX7_put := goodIn_r _ [17] (by decide +kernel) (by decide +kernel)
set_option maxRecDepth 20000 in
theorem gX4_findGroups_X7_put_n73 : GoodIn wsX4_findGroups (wsX7_put) := ggX4_findGroups_X7_put
theorem dX4_findGroups_0 : decode cX4_findGroups 0 = .ok (.iconst 0, 1) := by decide +kernel
theorem dX4_findGroups_1 : decode cX4_findGroups 1 = .ok (.istore_n 1, 1) := by decide +kernel
theorem dX4_findGroups_2 : decode cX4_findGroups 2 = .ok (.iload_n 1, 1) := by decide +kernel
theorem dX4_findGroups_3 : decode cX4_findGroups 3 = .ok (.bipush 16, 2) := by decide +kernel
theorem dX4_findGroups_5 : decode cX4_findGroups 5 = .ok (.if_icmp .ge 68, 3) := by decide +kernel
theorem dX4_findGroups_8 : decode cX4_findGroups 8 = .ok (.iload_n 1, 1) := by decide +kernel
theorem dX4_findGroups_9 : decode cX4_findGroups 9 = .ok (.invokestatic 77, 3) := by decide +kernel
theorem dX4_findGroups_12 : decode cX4_findGroups 12 = .ok (.istore_n 2, 1) := by decide +kernel
theorem dX4_findGroups_13 : decode cX4_findGroups 13 = .ok (.iconst 0, 1) := by decide +kernel
theorem dX4_findGroups_14 : decode cX4_findGroups 14 = .ok (.istore_n 3, 1) := by decide +kernel
theorem dX4_findGroups_15 : decode cX4_findGroups 15 = .ok (.iload_n 3, 1) := by decide +kernel
theorem dX4_findGroups_16 : decode cX4_findGroups 16 = .ok (.bipush 16, 2) := by decide +kernel
theorem dX4_findGroups_18 : decode cX4_findGroups 18 = .ok (.if_icmp .ge 40, 3) := by decide +kernel
theorem dX4_findGroups_21 : decode cX4_findGroups 21 = .ok (.aload_n 0, 1) := by decide +kernel
theorem dX4_findGroups_22 : decode cX4_findGroups 22 = .ok (.iload_n 1, 1) := by decide +kernel
theorem dX4_findGroups_23 : decode cX4_findGroups 23 = .ok (.invokevirtual 59, 3) := by decide +kernel
theorem dX4_findGroups_26 : decode cX4_findGroups 26 = .ok (.iload_n 3, 1) := by decide +kernel
theorem dX4_findGroups_27 : decode cX4_findGroups 27 = .ok (.invokestatic 61, 3) := by decide +kernel
theorem dX4_findGroups_30 : decode cX4_findGroups 30 = .ok (.ifCond .eq 22, 3) := by decide +kernel
theorem dX4_findGroups_33 : decode cX4_findGroups 33 = .ok (.aload_n 0, 1) := by decide +kernel
theorem dX4_findGroups_34 : decode cX4_findGroups 34 = .ok (.iload_n 3, 1) := by decide +kernel
theorem dX4_findGroups_35 : decode cX4_findGroups 35 = .ok (.invokevirtual 59, 3) := by decide +kernel
theorem dX4_findGroups_38 : decode cX4_findGroups 38 = .ok (.iload_n 1, 1) := by decide +kernel
theorem dX4_findGroups_39 : decode cX4_findGroups 39 = .ok (.invokestatic 61, 3) := by decide +kernel
theorem dX4_findGroups_42 : decode cX4_findGroups 42 = .ok (.ifCond .eq 10, 3) := by decide +kernel
theorem dX4_findGroups_45 : decode cX4_findGroups 45 = .ok (.iload_n 2, 1) := by decide +kernel
theorem dX4_findGroups_46 : decode cX4_findGroups 46 = .ok (.iload_n 3, 1) := by decide +kernel
theorem dX4_findGroups_47 : decode cX4_findGroups 47 = .ok (.invokestatic 77, 3) := by decide +kernel
theorem dX4_findGroups_50 : decode cX4_findGroups 50 = .ok (.ior, 1) := by decide +kernel
theorem dX4_findGroups_51 : decode cX4_findGroups 51 = .ok (.istore_n 2, 1) := by decide +kernel
theorem dX4_findGroups_52 : decode cX4_findGroups 52 = .ok (.iinc 3 1, 3) := by decide +kernel
theorem dX4_findGroups_55 : decode cX4_findGroups 55 = .ok (.goto (-40), 3) := by decide +kernel
theorem dX4_findGroups_58 : decode cX4_findGroups 58 = .ok (.aload_n 0, 1) := by decide +kernel
theorem dX4_findGroups_59 : decode cX4_findGroups 59 = .ok (.getfield 15, 3) := by decide +kernel
theorem dX4_findGroups_62 : decode cX4_findGroups 62 = .ok (.iload_n 1, 1) := by decide +kernel
theorem dX4_findGroups_63 : decode cX4_findGroups 63 = .ok (.iload_n 2, 1) := by decide +kernel
theorem dX4_findGroups_64 : decode cX4_findGroups 64 = .ok (.invokestatic 73, 3) := by decide +kernel
theorem dX4_findGroups_67 : decode cX4_findGroups 67 = .ok (.iinc 1 1, 3) := by decide +kernel
theorem dX4_findGroups_70 : decode cX4_findGroups 70 = .ok (.goto (-68), 3) := by decide +kernel
theorem dX4_findGroups_73 : decode cX4_findGroups 73 = .ok (.return_, 1) := by decide +kernel
set_option maxRecDepth 20000 in
theorem ggX4_isReady_X7_has : GoodIn wsX4_isReady wsX7_has := goodIn_r _ [4, 5, 6, 3, 7] (by decide +kernel) (by decide +kernel)
set_option maxRecDepth 20000 in
theorem gX4_isReady_X7_has_n61 : GoodIn wsX4_isReady (wsX7_has) := ggX4_isReady_X7_has
set_option maxRecDepth 20000 in
theorem ggX4_isReady_X4_reach : GoodIn wsX4_isReady wsX4_reach := goodIn_r _ [12, 13, 14, 3, 15, 21, 22, 23, 24, 25, 26, 27] (by decide +kernel) (by decide +kernel)
set_option maxRecDepth 20000 in
theorem gX4_isReady_X4_reach : GoodIn wsX4_isReady (wsV RX4 59 RX4 yX4_reach wsX4_reach) := goodIn_app (goodIn_of _ (by decide +kernel)) ggX4_isReady_X4_reach
set_option maxRecDepth 20000 in
theorem ggX4_isReady_X4_groupOf : GoodIn wsX4_isReady wsX4_groupOf := goodIn_r _ [19, 20, 14, 3, 15, 21, 22, 23, 24, 25, 26, 27] (by decide +kernel) (by decide +kernel)
set_option maxRecDepth 20000 in
theorem gX4_isReady_X4_groupOf : GoodIn wsX4_isReady (wsV RX4 47 RX4 yX4_groupOf wsX4_groupOf) := goodIn_app (goodIn_of _ (by decide +kernel)) ggX4_isReady_X4_groupOf
theorem dX4_isReady_0 : decode cX4_isReady 0 = .ok (.aload_n 0, 1) := by decide +kernel
theorem dX4_isReady_1 : decode cX4_isReady 1 = .ok (.getfield 32, 3) := by decide +kernel
theorem dX4_isReady_4 : decode cX4_isReady 4 = .ok (.iload_n 1, 1) := by decide +kernel
theorem dX4_isReady_5 : decode cX4_isReady 5 = .ok (.invokestatic 61, 3) := by decide +kernel
theorem dX4_isReady_8 : decode cX4_isReady 8 = .ok (.ifCond .ne 30, 3) := by decide +kernel
theorem dX4_isReady_11 : decode cX4_isReady 11 = .ok (.aload_n 0, 1) := by decide +kernel
theorem dX4_isReady_12 : decode cX4_isReady 12 = .ok (.iload_n 1, 1) := by decide +kernel
theorem dX4_isReady_13 : decode cX4_isReady 13 = .ok (.invokevirtual 59, 3) := by decide +kernel
theorem dX4_isReady_16 : decode cX4_isReady 16 = .ok (.aload_n 0, 1) := by decide +kernel
theorem dX4_isReady_17 : decode cX4_isReady 17 = .ok (.iload_n 1, 1) := by decide +kernel
theorem dX4_isReady_18 : decode cX4_isReady 18 = .ok (.invokevirtual 47, 3) := by decide +kernel
theorem dX4_isReady_21 : decode cX4_isReady 21 = .ok (.iconst (-1), 1) := by decide +kernel
theorem dX4_isReady_22 : decode cX4_isReady 22 = .ok (.ixor, 1) := by decide +kernel
theorem dX4_isReady_23 : decode cX4_isReady 23 = .ok (.iand, 1) := by decide +kernel
theorem dX4_isReady_24 : decode cX4_isReady 24 = .ok (.aload_n 0, 1) := by decide +kernel
theorem dX4_isReady_25 : decode cX4_isReady 25 = .ok (.getfield 32, 3) := by decide +kernel
theorem dX4_isReady_28 : decode cX4_isReady 28 = .ok (.iconst (-1), 1) := by decide +kernel
theorem dX4_isReady_29 : decode cX4_isReady 29 = .ok (.ixor, 1) := by decide +kernel
theorem dX4_isReady_30 : decode cX4_isReady 30 = .ok (.iand, 1) := by decide +kernel
theorem dX4_isReady_31 : decode cX4_isReady 31 = .ok (.ifCond .ne 7, 3) := by decide +kernel
theorem dX4_isReady_34 : decode cX4_isReady 34 = .ok (.iconst 1, 1) := by decide +kernel
theorem dX4_isReady_35 : decode cX4_isReady 35 = .ok (.goto 4, 3) := by decide +kernel
theorem dX4_isReady_38 : decode cX4_isReady 38 = .ok (.iconst 0, 1) := by decide +kernel
theorem dX4_isReady_39 : decode cX4_isReady 39 = .ok (.ireturn, 1) := by decide +kernel
set_option maxRecDepth 20000 in
theorem ggX4_place_X7_put : GoodIn wsX4_place wsX7_put := goodIn_r _ [6] (by decide +kernel) (by decide +kernel)
set_option maxRecDepth 20000 in
theorem gX4_place_X7_put_n73 : GoodIn wsX4_place (wsX7_put) := ggX4_place_X7_put
set_option maxRecDepth 20000 in
theorem ggX4_place_X7_bit : GoodIn wsX4_place wsX7_bit := goodIn_r _ [8] (by decide +kernel) (by decide +kernel)
set_option maxRecDepth 20000 in
theorem gX4_place_X7_bit_n77 : GoodIn wsX4_place (wsX7_bit) := ggX4_place_X7_bit
theorem dX4_place_0 : decode cX4_place 0 = .ok (.aload_n 0, 1) := by decide +kernel
theorem dX4_place_1 : decode cX4_place 1 = .ok (.getfield 18, 3) := by decide +kernel
theorem dX4_place_4 : decode cX4_place 4 = .ok (.aload_n 0, 1) := by decide +kernel
theorem dX4_place_5 : decode cX4_place 5 = .ok (.getfield 28, 3) := by decide +kernel
theorem dX4_place_8 : decode cX4_place 8 = .ok (.iload_n 1, 1) := by decide +kernel
theorem dX4_place_9 : decode cX4_place 9 = .ok (.invokestatic 73, 3) := by decide +kernel
theorem dX4_place_12 : decode cX4_place 12 = .ok (.aload_n 0, 1) := by decide +kernel
theorem dX4_place_13 : decode cX4_place 13 = .ok (.dup, 1) := by decide +kernel
theorem dX4_place_14 : decode cX4_place 14 = .ok (.getfield 28, 3) := by decide +kernel
theorem dX4_place_17 : decode cX4_place 17 = .ok (.iconst 1, 1) := by decide +kernel
theorem dX4_place_18 : decode cX4_place 18 = .ok (.iadd, 1) := by decide +kernel
theorem dX4_place_19 : decode cX4_place 19 = .ok (.putfield 28, 3) := by decide +kernel
theorem dX4_place_22 : decode cX4_place 22 = .ok (.aload_n 0, 1) := by decide +kernel
theorem dX4_place_23 : decode cX4_place 23 = .ok (.dup, 1) := by decide +kernel
theorem dX4_place_24 : decode cX4_place 24 = .ok (.getfield 32, 3) := by decide +kernel
theorem dX4_place_27 : decode cX4_place 27 = .ok (.iload_n 1, 1) := by decide +kernel
theorem dX4_place_28 : decode cX4_place 28 = .ok (.invokestatic 77, 3) := by decide +kernel
theorem dX4_place_31 : decode cX4_place 31 = .ok (.ior, 1) := by decide +kernel
theorem dX4_place_32 : decode cX4_place 32 = .ok (.putfield 32, 3) := by decide +kernel
theorem dX4_place_35 : decode cX4_place 35 = .ok (.return_, 1) := by decide +kernel
set_option maxRecDepth 20000 in
theorem ggX4_placeCircle_X4_onlyLimit : GoodIn wsX4_placeCircle wsX4_onlyLimit := goodIn_r _ [8, 9, 10, 11, 12, 13, 14, 15, 16, 17, 18, 19, 20, 21, 22, 63, 64, 65, 66] (by decide +kernel) (by decide +kernel)
set_option maxRecDepth 20000 in
theorem gX4_placeCircle_X4_onlyLimit : GoodIn wsX4_placeCircle (wsV RX4 80 RX4 yX4_onlyLimit wsX4_onlyLimit) := goodIn_app (goodIn_of _ (by decide +kernel)) ggX4_placeCircle_X4_onlyLimit
set_option maxRecDepth 20000 in
theorem ggX4_placeCircle_X5_first : GoodIn wsX4_placeCircle wsX5_first := goodIn_r _ [26, 27, 21, 10, 22, 63, 64, 65, 66] (by decide +kernel) (by decide +kernel)
set_option maxRecDepth 20000 in
theorem gX4_placeCircle_X5_first : GoodIn wsX4_placeCircle (wsV RX4 84 RX5 yX5_first wsX5_first) := goodIn_app (goodIn_of _ (by decide +kernel)) ggX4_placeCircle_X5_first
set_option maxRecDepth 20000 in
theorem ggX4_placeCircle_X7_has : GoodIn wsX4_placeCircle wsX7_has := goodIn_r _ [11, 12, 13, 10, 14] (by decide +kernel) (by decide +kernel)
set_option maxRecDepth 20000 in
theorem gX4_placeCircle_X7_has_n61 : GoodIn wsX4_placeCircle (wsX7_has) := ggX4_placeCircle_X7_has
set_option maxRecDepth 20000 in
theorem ggX4_placeCircle_X7_bit : GoodIn wsX4_placeCircle wsX7_bit := goodIn_r _ [14] (by decide +kernel) (by decide +kernel)
set_option maxRecDepth 20000 in
theorem gX4_placeCircle_X7_bit_n77 : GoodIn wsX4_placeCircle (wsX7_bit) := ggX4_placeCircle_X7_bit
set_option maxRecDepth 20000 in
theorem ggX4_placeCircle_X4_place : GoodIn wsX4_placeCircle wsX4_place := goodIn_r _ [31, 32, 33, 3, 34, 10, 35, 13, 14, 56, 57, 58, 59, 60, 61, 62] (by decide +kernel) (by decide +kernel)
set_option maxRecDepth 20000 in
theorem gX4_placeCircle_X4_place : GoodIn wsX4_placeCircle (wsV RX4 43 RX4 yX4_place wsX4_place) := goodIn_app (goodIn_of _ (by decide +kernel)) ggX4_placeCircle_X4_place
set_option maxRecDepth 20000 in
theorem ggX4_placeCircle_X5_uses : GoodIn wsX4_placeCircle wsX5_uses := goodIn_r _ [39, 40, 16, 17, 18, 19, 20, 21, 10, 22, 41, 42, 43, 24, 25, 26, 27, 13, 14, 44, 45, 46, 47, 48, 49, 50, 63, 64, 65, 66] (by decide +kernel) (by decide +kernel)
set_option maxRecDepth 20000 in
theorem gX4_placeCircle_X5_uses : GoodIn wsX4_placeCircle (wsV RX4 68 RX5 yX5_uses wsX5_uses) := goodIn_app (goodIn_of _ (by decide +kernel)) ggX4_placeCircle_X5_uses
set_option maxRecDepth 20000 in
theorem ggX4_placeCircle_X4_direct : GoodIn wsX4_placeCircle wsX4_direct := goodIn_r _ [54, 1, 2, 15, 16, 17, 18, 19, 20, 21, 10, 22, 23, 24, 25, 26, 27, 13, 14, 36, 37, 38, 39, 40, 41, 42, 43, 44, 45, 46, 47, 48, 49, 50, 55, 56, 57, 58, 59, 60, 61, 62, 63, 64, 65, 66] (by decide +kernel) (by decide +kernel)
set_option maxRecDepth 20000 in
theorem gX4_placeCircle_X4_direct : GoodIn wsX4_placeCircle (wsV RX4 93 RX4 yX4_direct wsX4_direct) := goodIn_app (goodIn_of _ (by decide +kernel)) ggX4_placeCircle_X4_direct
set_option maxRecDepth 20000 in
theorem ggX4_placeCircle_X5_second : GoodIn wsX4_placeCircle wsX5_second := goodIn_r _ [49, 50, 21, 10, 22, 63, 64, 65, 66] (by decide +kernel) (by decide +kernel)
set_option maxRecDepth 20000 in
theorem gX4_placeCircle_X5_second : GoodIn wsX4_placeCircle (wsV RX4 97 RX5 yX5_second wsX5_second) := goodIn_app (goodIn_of _ (by decide +kernel)) ggX4_placeCircle_X5_second
theorem dX4_placeCircle_0 : decode cX4_placeCircle 0 = .ok (.aload_n 0, 1) := by decide +kernel
theorem dX4_placeCircle_1 : decode cX4_placeCircle 1 = .ok (.aload_n 1, 1) := by decide +kernel
theorem dX4_placeCircle_2 : decode cX4_placeCircle 2 = .ok (.iload_n 2, 1) := by decide +kernel
theorem dX4_placeCircle_3 : decode cX4_placeCircle 3 = .ok (.invokevirtual 80, 3) := by decide +kernel
theorem dX4_placeCircle_6 : decode cX4_placeCircle 6 = .ok (.istore_n 3, 1) := by decide +kernel
theorem dX4_placeCircle_7 : decode cX4_placeCircle 7 = .ok (.iload_n 3, 1) := by decide +kernel
theorem dX4_placeCircle_8 : decode cX4_placeCircle 8 = .ok (.iconst (-1), 1) := by decide +kernel
theorem dX4_placeCircle_9 : decode cX4_placeCircle 9 = .ok (.if_icmp .eq 15, 3) := by decide +kernel
theorem dX4_placeCircle_12 : decode cX4_placeCircle 12 = .ok (.iload_n 2, 1) := by decide +kernel
theorem dX4_placeCircle_13 : decode cX4_placeCircle 13 = .ok (.aload_n 1, 1) := by decide +kernel
theorem dX4_placeCircle_14 : decode cX4_placeCircle 14 = .ok (.iload_n 3, 1) := by decide +kernel
theorem dX4_placeCircle_15 : decode cX4_placeCircle 15 = .ok (.invokevirtual 84, 3) := by decide +kernel
theorem dX4_placeCircle_18 : decode cX4_placeCircle 18 = .ok (.invokestatic 61, 3) := by decide +kernel
theorem dX4_placeCircle_21 : decode cX4_placeCircle 21 = .ok (.ifCond .eq 5, 3) := by decide +kernel
theorem dX4_placeCircle_24 : decode cX4_placeCircle 24 = .ok (.iconst 0, 1) := by decide +kernel
theorem dX4_placeCircle_25 : decode cX4_placeCircle 25 = .ok (.ireturn, 1) := by decide +kernel
theorem dX4_placeCircle_26 : decode cX4_placeCircle 26 = .ok (.aload_n 0, 1) := by decide +kernel
theorem dX4_placeCircle_27 : decode cX4_placeCircle 27 = .ok (.iload_n 3, 1) := by decide +kernel
theorem dX4_placeCircle_28 : decode cX4_placeCircle 28 = .ok (.invokestatic 77, 3) := by decide +kernel
theorem dX4_placeCircle_31 : decode cX4_placeCircle 31 = .ok (.putfield 87, 3) := by decide +kernel
theorem dX4_placeCircle_34 : decode cX4_placeCircle 34 = .ok (.aload_n 0, 1) := by decide +kernel
theorem dX4_placeCircle_35 : decode cX4_placeCircle 35 = .ok (.iconst 0, 1) := by decide +kernel
theorem dX4_placeCircle_36 : decode cX4_placeCircle 36 = .ok (.putfield 90, 3) := by decide +kernel
theorem dX4_placeCircle_39 : decode cX4_placeCircle 39 = .ok (.aload_n 0, 1) := by decide +kernel
theorem dX4_placeCircle_40 : decode cX4_placeCircle 40 = .ok (.iload_n 3, 1) := by decide +kernel
theorem dX4_placeCircle_41 : decode cX4_placeCircle 41 = .ok (.invokevirtual 43, 3) := by decide +kernel
theorem dX4_placeCircle_44 : decode cX4_placeCircle 44 = .ok (.iconst 0, 1) := by decide +kernel
theorem dX4_placeCircle_45 : decode cX4_placeCircle 45 = .ok (.istore 4, 2) := by decide +kernel
theorem dX4_placeCircle_47 : decode cX4_placeCircle 47 = .ok (.iload 4, 2) := by decide +kernel
theorem dX4_placeCircle_49 : decode cX4_placeCircle 49 = .ok (.bipush 16, 2) := by decide +kernel
theorem dX4_placeCircle_51 : decode cX4_placeCircle 51 = .ok (.if_icmp .ge 70, 3) := by decide +kernel
theorem dX4_placeCircle_54 : decode cX4_placeCircle 54 = .ok (.iconst 0, 1) := by decide +kernel
theorem dX4_placeCircle_55 : decode cX4_placeCircle 55 = .ok (.istore 5, 2) := by decide +kernel
theorem dX4_placeCircle_57 : decode cX4_placeCircle 57 = .ok (.iload 5, 2) := by decide +kernel
theorem dX4_placeCircle_59 : decode cX4_placeCircle 59 = .ok (.bipush 16, 2) := by decide +kernel
theorem dX4_placeCircle_61 : decode cX4_placeCircle 61 = .ok (.if_icmp .ge 54, 3) := by decide +kernel
theorem dX4_placeCircle_64 : decode cX4_placeCircle 64 = .ok (.iload_n 2, 1) := by decide +kernel
theorem dX4_placeCircle_65 : decode cX4_placeCircle 65 = .ok (.aload_n 0, 1) := by decide +kernel
theorem dX4_placeCircle_66 : decode cX4_placeCircle 66 = .ok (.getfield 32, 3) := by decide +kernel
theorem dX4_placeCircle_69 : decode cX4_placeCircle 69 = .ok (.iconst (-1), 1) := by decide +kernel
theorem dX4_placeCircle_70 : decode cX4_placeCircle 70 = .ok (.ixor, 1) := by decide +kernel
theorem dX4_placeCircle_71 : decode cX4_placeCircle 71 = .ok (.iand, 1) := by decide +kernel
theorem dX4_placeCircle_72 : decode cX4_placeCircle 72 = .ok (.iload 5, 2) := by decide +kernel
theorem dX4_placeCircle_74 : decode cX4_placeCircle 74 = .ok (.invokestatic 61, 3) := by decide +kernel
theorem dX4_placeCircle_77 : decode cX4_placeCircle 77 = .ok (.ifCond .eq 32, 3) := by decide +kernel
theorem dX4_placeCircle_80 : decode cX4_placeCircle 80 = .ok (.aload_n 1, 1) := by decide +kernel
theorem dX4_placeCircle_81 : decode cX4_placeCircle 81 = .ok (.iload 5, 2) := by decide +kernel
theorem dX4_placeCircle_83 : decode cX4_placeCircle 83 = .ok (.invokevirtual 68, 3) := by decide +kernel
theorem dX4_placeCircle_86 : decode cX4_placeCircle 86 = .ok (.aload_n 0, 1) := by decide +kernel
theorem dX4_placeCircle_87 : decode cX4_placeCircle 87 = .ok (.getfield 32, 3) := by decide +kernel
theorem dX4_placeCircle_90 : decode cX4_placeCircle 90 = .ok (.iconst (-1), 1) := by decide +kernel
theorem dX4_placeCircle_91 : decode cX4_placeCircle 91 = .ok (.ixor, 1) := by decide +kernel
theorem dX4_placeCircle_92 : decode cX4_placeCircle 92 = .ok (.iand, 1) := by decide +kernel
theorem dX4_placeCircle_93 : decode cX4_placeCircle 93 = .ok (.ifCond .ne 16, 3) := by decide +kernel
theorem dX4_placeCircle_96 : decode cX4_placeCircle 96 = .ok (.aload_n 0, 1) := by decide +kernel
theorem dX4_placeCircle_97 : decode cX4_placeCircle 97 = .ok (.iload 5, 2) := by decide +kernel
theorem dX4_placeCircle_99 : decode cX4_placeCircle 99 = .ok (.invokevirtual 43, 3) := by decide +kernel
theorem dX4_placeCircle_102 : decode cX4_placeCircle 102 = .ok (.aload_n 0, 1) := by decide +kernel
theorem dX4_placeCircle_103 : decode cX4_placeCircle 103 = .ok (.aload_n 1, 1) := by decide +kernel
theorem dX4_placeCircle_104 : decode cX4_placeCircle 104 = .ok (.iload 5, 2) := by decide +kernel
theorem dX4_placeCircle_106 : decode cX4_placeCircle 106 = .ok (.invokevirtual 93, 3) := by decide +kernel
theorem dX4_placeCircle_109 : decode cX4_placeCircle 109 = .ok (.iinc 5 1, 3) := by decide +kernel
theorem dX4_placeCircle_112 : decode cX4_placeCircle 112 = .ok (.goto (-55), 3) := by decide +kernel
theorem dX4_placeCircle_115 : decode cX4_placeCircle 115 = .ok (.iinc 4 1, 3) := by decide +kernel
theorem dX4_placeCircle_118 : decode cX4_placeCircle 118 = .ok (.goto (-71), 3) := by decide +kernel
theorem dX4_placeCircle_121 : decode cX4_placeCircle 121 = .ok (.iload_n 2, 1) := by decide +kernel
theorem dX4_placeCircle_122 : decode cX4_placeCircle 122 = .ok (.aload_n 0, 1) := by decide +kernel
theorem dX4_placeCircle_123 : decode cX4_placeCircle 123 = .ok (.getfield 32, 3) := by decide +kernel
theorem dX4_placeCircle_126 : decode cX4_placeCircle 126 = .ok (.iconst (-1), 1) := by decide +kernel
theorem dX4_placeCircle_127 : decode cX4_placeCircle 127 = .ok (.ixor, 1) := by decide +kernel
theorem dX4_placeCircle_128 : decode cX4_placeCircle 128 = .ok (.iand, 1) := by decide +kernel
theorem dX4_placeCircle_129 : decode cX4_placeCircle 129 = .ok (.ifCond .ne 7, 3) := by decide +kernel
theorem dX4_placeCircle_132 : decode cX4_placeCircle 132 = .ok (.iconst 1, 1) := by decide +kernel
theorem dX4_placeCircle_133 : decode cX4_placeCircle 133 = .ok (.goto 4, 3) := by decide +kernel
theorem dX4_placeCircle_136 : decode cX4_placeCircle 136 = .ok (.iconst 0, 1) := by decide +kernel
theorem dX4_placeCircle_137 : decode cX4_placeCircle 137 = .ok (.istore 4, 2) := by decide +kernel
theorem dX4_placeCircle_139 : decode cX4_placeCircle 139 = .ok (.iload 4, 2) := by decide +kernel
theorem dX4_placeCircle_141 : decode cX4_placeCircle 141 = .ok (.ifCond .eq 34, 3) := by decide +kernel
theorem dX4_placeCircle_144 : decode cX4_placeCircle 144 = .ok (.aload_n 0, 1) := by decide +kernel
theorem dX4_placeCircle_145 : decode cX4_placeCircle 145 = .ok (.getfield 87, 3) := by decide +kernel
theorem dX4_placeCircle_148 : decode cX4_placeCircle 148 = .ok (.aload_n 0, 1) := by decide +kernel
theorem dX4_placeCircle_149 : decode cX4_placeCircle 149 = .ok (.getfield 90, 3) := by decide +kernel
theorem dX4_placeCircle_152 : decode cX4_placeCircle 152 = .ok (.iand, 1) := by decide +kernel
theorem dX4_placeCircle_153 : decode cX4_placeCircle 153 = .ok (.ifCond .ne 22, 3) := by decide +kernel
theorem dX4_placeCircle_156 : decode cX4_placeCircle 156 = .ok (.aload_n 0, 1) := by decide +kernel
theorem dX4_placeCircle_157 : decode cX4_placeCircle 157 = .ok (.getfield 90, 3) := by decide +kernel
theorem dX4_placeCircle_160 : decode cX4_placeCircle 160 = .ok (.aload_n 1, 1) := by decide +kernel
theorem dX4_placeCircle_161 : decode cX4_placeCircle 161 = .ok (.iload_n 3, 1) := by decide +kernel
theorem dX4_placeCircle_162 : decode cX4_placeCircle 162 = .ok (.invokevirtual 97, 3) := by decide +kernel
theorem dX4_placeCircle_165 : decode cX4_placeCircle 165 = .ok (.invokestatic 61, 3) := by decide +kernel
theorem dX4_placeCircle_168 : decode cX4_placeCircle 168 = .ok (.ifCond .eq 7, 3) := by decide +kernel
theorem dX4_placeCircle_171 : decode cX4_placeCircle 171 = .ok (.iconst 1, 1) := by decide +kernel
theorem dX4_placeCircle_172 : decode cX4_placeCircle 172 = .ok (.goto 4, 3) := by decide +kernel
theorem dX4_placeCircle_175 : decode cX4_placeCircle 175 = .ok (.iconst 0, 1) := by decide +kernel
theorem dX4_placeCircle_176 : decode cX4_placeCircle 176 = .ok (.ireturn, 1) := by decide +kernel
set_option maxRecDepth 20000 in
theorem ggX4_onlyLimit_X7_has : GoodIn wsX4_onlyLimit wsX7_has := goodIn_r _ [3, 4, 5, 2, 6] (by decide +kernel) (by decide +kernel)
set_option maxRecDepth 20000 in
theorem gX4_onlyLimit_X7_has_n61 : GoodIn wsX4_onlyLimit (wsX7_has) := ggX4_onlyLimit_X7_has
set_option maxRecDepth 20000 in
theorem ggX4_onlyLimit_X5_kind : GoodIn wsX4_onlyLimit wsX5_kind := goodIn_r _ [11, 12, 13, 2, 14, 15, 16, 17, 18] (by decide +kernel) (by decide +kernel)
set_option maxRecDepth 20000 in
theorem gX4_onlyLimit_X5_kind : GoodIn wsX4_onlyLimit (wsV RX4 100 RX5 yX5_kind wsX5_kind) := goodIn_app (goodIn_of _ (by decide +kernel)) ggX4_onlyLimit_X5_kind
theorem dX4_onlyLimit_0 : decode cX4_onlyLimit 0 = .ok (.iconst (-1), 1) := by decide +kernel
theorem dX4_onlyLimit_1 : decode cX4_onlyLimit 1 = .ok (.istore_n 3, 1) := by decide +kernel
theorem dX4_onlyLimit_2 : decode cX4_onlyLimit 2 = .ok (.iconst 0, 1) := by decide +kernel
theorem dX4_onlyLimit_3 : decode cX4_onlyLimit 3 = .ok (.istore 4, 2) := by decide +kernel
theorem dX4_onlyLimit_5 : decode cX4_onlyLimit 5 = .ok (.iload 4, 2) := by decide +kernel
theorem dX4_onlyLimit_7 : decode cX4_onlyLimit 7 = .ok (.bipush 16, 2) := by decide +kernel
theorem dX4_onlyLimit_9 : decode cX4_onlyLimit 9 = .ok (.if_icmp .ge 39, 3) := by decide +kernel
theorem dX4_onlyLimit_12 : decode cX4_onlyLimit 12 = .ok (.iload_n 2, 1) := by decide +kernel
theorem dX4_onlyLimit_13 : decode cX4_onlyLimit 13 = .ok (.iload 4, 2) := by decide +kernel
theorem dX4_onlyLimit_15 : decode cX4_onlyLimit 15 = .ok (.invokestatic 61, 3) := by decide +kernel
theorem dX4_onlyLimit_18 : decode cX4_onlyLimit 18 = .ok (.ifCond .eq 24, 3) := by decide +kernel
theorem dX4_onlyLimit_21 : decode cX4_onlyLimit 21 = .ok (.aload_n 1, 1) := by decide +kernel
theorem dX4_onlyLimit_22 : decode cX4_onlyLimit 22 = .ok (.iload 4, 2) := by decide +kernel
theorem dX4_onlyLimit_24 : decode cX4_onlyLimit 24 = .ok (.invokevirtual 100, 3) := by decide +kernel
theorem dX4_onlyLimit_27 : decode cX4_onlyLimit 27 = .ok (.bipush 8, 2) := by decide +kernel
theorem dX4_onlyLimit_29 : decode cX4_onlyLimit 29 = .ok (.if_icmp .ne 13, 3) := by decide +kernel
theorem dX4_onlyLimit_32 : decode cX4_onlyLimit 32 = .ok (.iload_n 3, 1) := by decide +kernel
theorem dX4_onlyLimit_33 : decode cX4_onlyLimit 33 = .ok (.iconst (-1), 1) := by decide +kernel
theorem dX4_onlyLimit_34 : decode cX4_onlyLimit 34 = .ok (.if_icmp .eq 5, 3) := by decide +kernel
theorem dX4_onlyLimit_37 : decode cX4_onlyLimit 37 = .ok (.iconst (-1), 1) := by decide +kernel
theorem dX4_onlyLimit_38 : decode cX4_onlyLimit 38 = .ok (.ireturn, 1) := by decide +kernel
theorem dX4_onlyLimit_39 : decode cX4_onlyLimit 39 = .ok (.iload 4, 2) := by decide +kernel
theorem dX4_onlyLimit_41 : decode cX4_onlyLimit 41 = .ok (.istore_n 3, 1) := by decide +kernel
theorem dX4_onlyLimit_42 : decode cX4_onlyLimit 42 = .ok (.iinc 4 1, 3) := by decide +kernel
theorem dX4_onlyLimit_45 : decode cX4_onlyLimit 45 = .ok (.goto (-40), 3) := by decide +kernel
theorem dX4_onlyLimit_48 : decode cX4_onlyLimit 48 = .ok (.iload_n 3, 1) := by decide +kernel
theorem dX4_onlyLimit_49 : decode cX4_onlyLimit 49 = .ok (.ireturn, 1) := by decide +kernel
set_option maxRecDepth 20000 in
theorem ggX4_direct_X5_kind : GoodIn wsX4_direct wsX5_kind := goodIn_r _ [7, 8, 9, 10, 11, 42, 43, 44, 45] (by decide +kernel) (by decide +kernel)
set_option maxRecDepth 20000 in
theorem gX4_direct_X5_kind : GoodIn wsX4_direct (wsV RX4 100 RX5 yX5_kind wsX5_kind) := goodIn_app (goodIn_of _ (by decide +kernel)) ggX4_direct_X5_kind
set_option maxRecDepth 20000 in
theorem ggX4_direct_X5_first : GoodIn wsX4_direct wsX5_first := goodIn_r _ [15, 16, 9, 10, 11, 42, 43, 44, 45] (by decide +kernel) (by decide +kernel)
set_option maxRecDepth 20000 in
theorem gX4_direct_X5_first : GoodIn wsX4_direct (wsV RX4 84 RX5 yX5_first wsX5_first) := goodIn_app (goodIn_of _ (by decide +kernel)) ggX4_direct_X5_first
set_option maxRecDepth 20000 in
theorem ggX4_direct_X7_bit : GoodIn wsX4_direct wsX7_bit := goodIn_r _ [18] (by decide +kernel) (by decide +kernel)
set_option maxRecDepth 20000 in
theorem gX4_direct_X7_bit_n77 : GoodIn wsX4_direct (wsX7_bit) := ggX4_direct_X7_bit
set_option maxRecDepth 20000 in
theorem ggX4_direct_X5_uses : GoodIn wsX4_direct wsX5_uses := goodIn_r _ [22, 23, 4, 5, 6, 7, 8, 9, 10, 11, 24, 25, 26, 13, 14, 15, 16, 17, 18, 27, 28, 29, 30, 31, 32, 33, 42, 43, 44, 45] (by decide +kernel) (by decide +kernel)
set_option maxRecDepth 20000 in
theorem gX4_direct_X5_uses : GoodIn wsX4_direct (wsV RX4 68 RX5 yX5_uses wsX5_uses) := goodIn_app (goodIn_of _ (by decide +kernel)) ggX4_direct_X5_uses
set_option maxRecDepth 20000 in
theorem ggX4_direct_X5_second : GoodIn wsX4_direct wsX5_second := goodIn_r _ [32, 33, 9, 10, 11, 42, 43, 44, 45] (by decide +kernel) (by decide +kernel)
set_option maxRecDepth 20000 in
theorem gX4_direct_X5_second : GoodIn wsX4_direct (wsV RX4 97 RX5 yX5_second wsX5_second) := goodIn_app (goodIn_of _ (by decide +kernel)) ggX4_direct_X5_second
theorem dX4_direct_0 : decode cX4_direct 0 = .ok (.aload_n 1, 1) := by decide +kernel
theorem dX4_direct_1 : decode cX4_direct 1 = .ok (.iload_n 2, 1) := by decide +kernel
theorem dX4_direct_2 : decode cX4_direct 2 = .ok (.invokevirtual 100, 3) := by decide +kernel
theorem dX4_direct_5 : decode cX4_direct 5 = .ok (.iconst 2, 1) := by decide +kernel
theorem dX4_direct_6 : decode cX4_direct 6 = .ok (.if_icmp .ne 7, 3) := by decide +kernel
theorem dX4_direct_9 : decode cX4_direct 9 = .ok (.iconst 1, 1) := by decide +kernel
theorem dX4_direct_10 : decode cX4_direct 10 = .ok (.goto 4, 3) := by decide +kernel
theorem dX4_direct_13 : decode cX4_direct 13 = .ok (.iconst 0, 1) := by decide +kernel
theorem dX4_direct_14 : decode cX4_direct 14 = .ok (.istore_n 3, 1) := by decide +kernel
theorem dX4_direct_15 : decode cX4_direct 15 = .ok (.iload_n 3, 1) := by decide +kernel
theorem dX4_direct_16 : decode cX4_direct 16 = .ok (.ifCond .eq 14, 3) := by decide +kernel
theorem dX4_direct_19 : decode cX4_direct 19 = .ok (.aload_n 1, 1) := by decide +kernel
theorem dX4_direct_20 : decode cX4_direct 20 = .ok (.iload_n 2, 1) := by decide +kernel
theorem dX4_direct_21 : decode cX4_direct 21 = .ok (.invokevirtual 84, 3) := by decide +kernel
theorem dX4_direct_24 : decode cX4_direct 24 = .ok (.invokestatic 77, 3) := by decide +kernel
theorem dX4_direct_27 : decode cX4_direct 27 = .ok (.goto 8, 3) := by decide +kernel
theorem dX4_direct_30 : decode cX4_direct 30 = .ok (.aload_n 1, 1) := by decide +kernel
theorem dX4_direct_31 : decode cX4_direct 31 = .ok (.iload_n 2, 1) := by decide +kernel
theorem dX4_direct_32 : decode cX4_direct 32 = .ok (.invokevirtual 68, 3) := by decide +kernel
theorem dX4_direct_35 : decode cX4_direct 35 = .ok (.istore 4, 2) := by decide +kernel
theorem dX4_direct_37 : decode cX4_direct 37 = .ok (.iload_n 3, 1) := by decide +kernel
theorem dX4_direct_38 : decode cX4_direct 38 = .ok (.ifCond .eq 14, 3) := by decide +kernel
theorem dX4_direct_41 : decode cX4_direct 41 = .ok (.aload_n 1, 1) := by decide +kernel
theorem dX4_direct_42 : decode cX4_direct 42 = .ok (.iload_n 2, 1) := by decide +kernel
theorem dX4_direct_43 : decode cX4_direct 43 = .ok (.invokevirtual 97, 3) := by decide +kernel
theorem dX4_direct_46 : decode cX4_direct 46 = .ok (.invokestatic 77, 3) := by decide +kernel
theorem dX4_direct_49 : decode cX4_direct 49 = .ok (.goto 4, 3) := by decide +kernel
theorem dX4_direct_52 : decode cX4_direct 52 = .ok (.iconst 0, 1) := by decide +kernel
theorem dX4_direct_53 : decode cX4_direct 53 = .ok (.istore 5, 2) := by decide +kernel
theorem dX4_direct_55 : decode cX4_direct 55 = .ok (.iload 4, 2) := by decide +kernel
theorem dX4_direct_57 : decode cX4_direct 57 = .ok (.aload_n 0, 1) := by decide +kernel
theorem dX4_direct_58 : decode cX4_direct 58 = .ok (.getfield 87, 3) := by decide +kernel
theorem dX4_direct_61 : decode cX4_direct 61 = .ok (.iand, 1) := by decide +kernel
theorem dX4_direct_62 : decode cX4_direct 62 = .ok (.ifCond .ne 13, 3) := by decide +kernel
theorem dX4_direct_65 : decode cX4_direct 65 = .ok (.iload 5, 2) := by decide +kernel
theorem dX4_direct_67 : decode cX4_direct 67 = .ok (.aload_n 0, 1) := by decide +kernel
theorem dX4_direct_68 : decode cX4_direct 68 = .ok (.getfield 90, 3) := by decide +kernel
theorem dX4_direct_71 : decode cX4_direct 71 = .ok (.iand, 1) := by decide +kernel
theorem dX4_direct_72 : decode cX4_direct 72 = .ok (.ifCond .eq 7, 3) := by decide +kernel
theorem dX4_direct_75 : decode cX4_direct 75 = .ok (.iconst 1, 1) := by decide +kernel
theorem dX4_direct_76 : decode cX4_direct 76 = .ok (.goto 4, 3) := by decide +kernel
theorem dX4_direct_79 : decode cX4_direct 79 = .ok (.iconst 0, 1) := by decide +kernel
theorem dX4_direct_80 : decode cX4_direct 80 = .ok (.istore 6, 2) := by decide +kernel
theorem dX4_direct_82 : decode cX4_direct 82 = .ok (.iload 4, 2) := by decide +kernel
theorem dX4_direct_84 : decode cX4_direct 84 = .ok (.aload_n 0, 1) := by decide +kernel
theorem dX4_direct_85 : decode cX4_direct 85 = .ok (.getfield 90, 3) := by decide +kernel
theorem dX4_direct_88 : decode cX4_direct 88 = .ok (.iand, 1) := by decide +kernel
theorem dX4_direct_89 : decode cX4_direct 89 = .ok (.ifCond .ne 13, 3) := by decide +kernel
theorem dX4_direct_92 : decode cX4_direct 92 = .ok (.iload 5, 2) := by decide +kernel
theorem dX4_direct_94 : decode cX4_direct 94 = .ok (.aload_n 0, 1) := by decide +kernel
theorem dX4_direct_95 : decode cX4_direct 95 = .ok (.getfield 87, 3) := by decide +kernel
theorem dX4_direct_98 : decode cX4_direct 98 = .ok (.iand, 1) := by decide +kernel
theorem dX4_direct_99 : decode cX4_direct 99 = .ok (.ifCond .eq 7, 3) := by decide +kernel
theorem dX4_direct_102 : decode cX4_direct 102 = .ok (.iconst 1, 1) := by decide +kernel
theorem dX4_direct_103 : decode cX4_direct 103 = .ok (.goto 4, 3) := by decide +kernel
theorem dX4_direct_106 : decode cX4_direct 106 = .ok (.iconst 0, 1) := by decide +kernel
theorem dX4_direct_107 : decode cX4_direct 107 = .ok (.istore 7, 2) := by decide +kernel
theorem dX4_direct_109 : decode cX4_direct 109 = .ok (.iload 6, 2) := by decide +kernel
theorem dX4_direct_111 : decode cX4_direct 111 = .ok (.ifCond .eq 16, 3) := by decide +kernel
theorem dX4_direct_114 : decode cX4_direct 114 = .ok (.aload_n 0, 1) := by decide +kernel
theorem dX4_direct_115 : decode cX4_direct 115 = .ok (.dup, 1) := by decide +kernel
theorem dX4_direct_116 : decode cX4_direct 116 = .ok (.getfield 87, 3) := by decide +kernel
theorem dX4_direct_119 : decode cX4_direct 119 = .ok (.iload_n 2, 1) := by decide +kernel
theorem dX4_direct_120 : decode cX4_direct 120 = .ok (.invokestatic 77, 3) := by decide +kernel
theorem dX4_direct_123 : decode cX4_direct 123 = .ok (.ior, 1) := by decide +kernel
theorem dX4_direct_124 : decode cX4_direct 124 = .ok (.putfield 87, 3) := by decide +kernel
theorem dX4_direct_127 : decode cX4_direct 127 = .ok (.iload 7, 2) := by decide +kernel
theorem dX4_direct_129 : decode cX4_direct 129 = .ok (.ifCond .eq 16, 3) := by decide +kernel
theorem dX4_direct_132 : decode cX4_direct 132 = .ok (.aload_n 0, 1) := by decide +kernel
theorem dX4_direct_133 : decode cX4_direct 133 = .ok (.dup, 1) := by decide +kernel
theorem dX4_direct_134 : decode cX4_direct 134 = .ok (.getfield 90, 3) := by decide +kernel
theorem dX4_direct_137 : decode cX4_direct 137 = .ok (.iload_n 2, 1) := by decide +kernel
theorem dX4_direct_138 : decode cX4_direct 138 = .ok (.invokestatic 77, 3) := by decide +kernel
theorem dX4_direct_141 : decode cX4_direct 141 = .ok (.ior, 1) := by decide +kernel
theorem dX4_direct_142 : decode cX4_direct 142 = .ok (.putfield 90, 3) := by decide +kernel
theorem dX4_direct_145 : decode cX4_direct 145 = .ok (.return_, 1) := by decide +kernel
theorem dX5_init_0 : decode cX5_init 0 = .ok (.aload_n 0, 1) := by decide +kernel
theorem dX5_init_1 : decode cX5_init 1 = .ok (.invokespecial 3, 3) := by decide +kernel
theorem dX5_init_4 : decode cX5_init 4 = .ok (.aload_n 0, 1) := by decide +kernel
theorem dX5_init_5 : decode cX5_init 5 = .ok (.bipush 16, 2) := by decide +kernel
theorem dX5_init_7 : decode cX5_init 7 = .ok (.newarray .int, 2) := by decide +kernel
theorem dX5_init_9 : decode cX5_init 9 = .ok (.putfield 9, 3) := by decide +kernel
theorem dX5_init_12 : decode cX5_init 12 = .ok (.aload_n 0, 1) := by decide +kernel
theorem dX5_init_13 : decode cX5_init 13 = .ok (.bipush 16, 2) := by decide +kernel
theorem dX5_init_15 : decode cX5_init 15 = .ok (.newarray .int, 2) := by decide +kernel
theorem dX5_init_17 : decode cX5_init 17 = .ok (.putfield 15, 3) := by decide +kernel
theorem dX5_init_20 : decode cX5_init 20 = .ok (.aload_n 0, 1) := by decide +kernel
theorem dX5_init_21 : decode cX5_init 21 = .ok (.bipush 16, 2) := by decide +kernel
theorem dX5_init_23 : decode cX5_init 23 = .ok (.newarray .int, 2) := by decide +kernel
theorem dX5_init_25 : decode cX5_init 25 = .ok (.putfield 18, 3) := by decide +kernel
theorem dX5_init_28 : decode cX5_init 28 = .ok (.aload_n 0, 1) := by decide +kernel
theorem dX5_init_29 : decode cX5_init 29 = .ok (.bipush 16, 2) := by decide +kernel
theorem dX5_init_31 : decode cX5_init 31 = .ok (.newarray .int, 2) := by decide +kernel
theorem dX5_init_33 : decode cX5_init 33 = .ok (.putfield 21, 3) := by decide +kernel
theorem dX5_init_36 : decode cX5_init 36 = .ok (.return_, 1) := by decide +kernel
set_option maxRecDepth 20000 in
theorem ggX5_set_X7_put : GoodIn wsX5_set wsX7_put := goodIn_r _ [6] (by decide +kernel) (by decide +kernel)
set_option maxRecDepth 20000 in
theorem gX5_set_X7_put_n24 : GoodIn wsX5_set (wsX7_put) := ggX5_set_X7_put
theorem dX5_set_0 : decode cX5_set 0 = .ok (.aload_n 0, 1) := by decide +kernel
theorem dX5_set_1 : decode cX5_set 1 = .ok (.getfield 9, 3) := by decide +kernel
theorem dX5_set_4 : decode cX5_set 4 = .ok (.iload_n 1, 1) := by decide +kernel
theorem dX5_set_5 : decode cX5_set 5 = .ok (.iload_n 2, 1) := by decide +kernel
theorem dX5_set_6 : decode cX5_set 6 = .ok (.invokestatic 24, 3) := by decide +kernel
theorem dX5_set_9 : decode cX5_set 9 = .ok (.aload_n 0, 1) := by decide +kernel
theorem dX5_set_10 : decode cX5_set 10 = .ok (.getfield 15, 3) := by decide +kernel
theorem dX5_set_13 : decode cX5_set 13 = .ok (.iload_n 1, 1) := by decide +kernel
theorem dX5_set_14 : decode cX5_set 14 = .ok (.iload_n 3, 1) := by decide +kernel
theorem dX5_set_15 : decode cX5_set 15 = .ok (.invokestatic 24, 3) := by decide +kernel
theorem dX5_set_18 : decode cX5_set 18 = .ok (.aload_n 0, 1) := by decide +kernel
theorem dX5_set_19 : decode cX5_set 19 = .ok (.getfield 18, 3) := by decide +kernel
theorem dX5_set_22 : decode cX5_set 22 = .ok (.iload_n 1, 1) := by decide +kernel
theorem dX5_set_23 : decode cX5_set 23 = .ok (.iload 4, 2) := by decide +kernel
theorem dX5_set_25 : decode cX5_set 25 = .ok (.invokestatic 24, 3) := by decide +kernel
theorem dX5_set_28 : decode cX5_set 28 = .ok (.return_, 1) := by decide +kernel
set_option maxRecDepth 20000 in
theorem ggX5_kind_X7_at : GoodIn wsX5_kind wsX7_at := goodIn_r _ [4] (by decide +kernel) (by decide +kernel)
set_option maxRecDepth 20000 in
theorem gX5_kind_X7_at_n28 : GoodIn wsX5_kind (wsX7_at) := ggX5_kind_X7_at
theorem dX5_kind_0 : decode cX5_kind 0 = .ok (.aload_n 0, 1) := by decide +kernel
theorem dX5_kind_1 : decode cX5_kind 1 = .ok (.getfield 9, 3) := by decide +kernel
theorem dX5_kind_4 : decode cX5_kind 4 = .ok (.iload_n 1, 1) := by decide +kernel
theorem dX5_kind_5 : decode cX5_kind 5 = .ok (.invokestatic 28, 3) := by decide +kernel
theorem dX5_kind_8 : decode cX5_kind 8 = .ok (.ireturn, 1) := by decide +kernel
set_option maxRecDepth 20000 in
theorem ggX5_first_X7_at : GoodIn wsX5_first wsX7_at := goodIn_r _ [4] (by decide +kernel) (by decide +kernel)
set_option maxRecDepth 20000 in
theorem gX5_first_X7_at_n28 : GoodIn wsX5_first (wsX7_at) := ggX5_first_X7_at
theorem dX5_first_0 : decode cX5_first 0 = .ok (.aload_n 0, 1) := by decide +kernel
theorem dX5_first_1 : decode cX5_first 1 = .ok (.getfield 15, 3) := by decide +kernel
theorem dX5_first_4 : decode cX5_first 4 = .ok (.iload_n 1, 1) := by decide +kernel
theorem dX5_first_5 : decode cX5_first 5 = .ok (.invokestatic 28, 3) := by decide +kernel
theorem dX5_first_8 : decode cX5_first 8 = .ok (.ireturn, 1) := by decide +kernel
set_option maxRecDepth 20000 in
theorem ggX5_second_X7_at : GoodIn wsX5_second wsX7_at := goodIn_r _ [4] (by decide +kernel) (by decide +kernel)
set_option maxRecDepth 20000 in
theorem gX5_second_X7_at_n28 : GoodIn wsX5_second (wsX7_at) := ggX5_second_X7_at
theorem dX5_second_0 : decode cX5_second 0 = .ok (.aload_n 0, 1) := by decide +kernel
theorem dX5_second_1 : decode cX5_second 1 = .ok (.getfield 18, 3) := by decide +kernel
theorem dX5_second_4 : decode cX5_second 4 = .ok (.iload_n 1, 1) := by decide +kernel
theorem dX5_second_5 : decode cX5_second 5 = .ok (.invokestatic 28, 3) := by decide +kernel
theorem dX5_second_8 : decode cX5_second 8 = .ok (.ireturn, 1) := by decide +kernel
set_option maxRecDepth 20000 in
theorem ggX5_given_X7_at : GoodIn wsX5_given wsX7_at := goodIn_r _ [4] (by decide +kernel) (by decide +kernel)
set_option maxRecDepth 20000 in
theorem gX5_given_X7_at_n28 : GoodIn wsX5_given (wsX7_at) := ggX5_given_X7_at
theorem dX5_given_0 : decode cX5_given 0 = .ok (.aload_n 0, 1) := by decide +kernel
theorem dX5_given_1 : decode cX5_given 1 = .ok (.getfield 21, 3) := by decide +kernel
theorem dX5_given_4 : decode cX5_given 4 = .ok (.iload_n 1, 1) := by decide +kernel
theorem dX5_given_5 : decode cX5_given 5 = .ok (.invokestatic 28, 3) := by decide +kernel
theorem dX5_given_8 : decode cX5_given 8 = .ok (.ireturn, 1) := by decide +kernel
set_option maxRecDepth 20000 in
theorem ggX5_give_X7_put : GoodIn wsX5_give wsX7_put := goodIn_r _ [4] (by decide +kernel) (by decide +kernel)
set_option maxRecDepth 20000 in
theorem gX5_give_X7_put_n24 : GoodIn wsX5_give (wsX7_put) := ggX5_give_X7_put
theorem dX5_give_0 : decode cX5_give 0 = .ok (.aload_n 0, 1) := by decide +kernel
theorem dX5_give_1 : decode cX5_give 1 = .ok (.getfield 21, 3) := by decide +kernel
theorem dX5_give_4 : decode cX5_give 4 = .ok (.iload_n 1, 1) := by decide +kernel
theorem dX5_give_5 : decode cX5_give 5 = .ok (.iload_n 2, 1) := by decide +kernel
theorem dX5_give_6 : decode cX5_give 6 = .ok (.invokestatic 24, 3) := by decide +kernel
theorem dX5_give_9 : decode cX5_give 9 = .ok (.return_, 1) := by decide +kernel
set_option maxRecDepth 20000 in
theorem ggX5_uses_X5_kind : GoodIn wsX5_uses wsX5_kind := goodIn_r _ [5, 6, 7, 8, 9, 26, 27, 28, 29] (by decide +kernel) (by decide +kernel)
set_option maxRecDepth 20000 in
theorem gX5_uses_X5_kind : GoodIn wsX5_uses (wsV RX5 32 RX5 yX5_kind wsX5_kind) := goodIn_app (goodIn_of _ (by decide +kernel)) ggX5_uses_X5_kind
set_option maxRecDepth 20000 in
theorem ggX5_uses_X7_takesFirst : GoodIn wsX5_uses wsX7_takesFirst := goodIn_r _ [11] (by decide +kernel) (by decide +kernel)
set_option maxRecDepth 20000 in
theorem gX5_uses_X7_takesFirst_n36 : GoodIn wsX5_uses (wsX7_takesFirst) := ggX5_uses_X7_takesFirst
set_option maxRecDepth 20000 in
theorem ggX5_uses_X5_first : GoodIn wsX5_uses wsX5_first := goodIn_r _ [15, 16, 7, 8, 9, 26, 27, 28, 29] (by decide +kernel) (by decide +kernel)
set_option maxRecDepth 20000 in
theorem gX5_uses_X5_first : GoodIn wsX5_uses (wsV RX5 40 RX5 yX5_first wsX5_first) := goodIn_app (goodIn_of _ (by decide +kernel)) ggX5_uses_X5_first
set_option maxRecDepth 20000 in
theorem ggX5_uses_X7_bit : GoodIn wsX5_uses wsX7_bit := goodIn_r _ [18] (by decide +kernel) (by decide +kernel)
set_option maxRecDepth 20000 in
theorem gX5_uses_X7_bit_n43 : GoodIn wsX5_uses (wsX7_bit) := ggX5_uses_X7_bit
set_option maxRecDepth 20000 in
theorem ggX5_uses_X7_takesSecond : GoodIn wsX5_uses wsX7_takesSecond := goodIn_r _ [20] (by decide +kernel) (by decide +kernel)
set_option maxRecDepth 20000 in
theorem gX5_uses_X7_takesSecond_n46 : GoodIn wsX5_uses (wsX7_takesSecond) := ggX5_uses_X7_takesSecond
set_option maxRecDepth 20000 in
theorem ggX5_uses_X5_second : GoodIn wsX5_uses wsX5_second := goodIn_r _ [24, 25, 7, 8, 9, 26, 27, 28, 29] (by decide +kernel) (by decide +kernel)
set_option maxRecDepth 20000 in
theorem gX5_uses_X5_second : GoodIn wsX5_uses (wsV RX5 49 RX5 yX5_second wsX5_second) := goodIn_app (goodIn_of _ (by decide +kernel)) ggX5_uses_X5_second
theorem dX5_uses_0 : decode cX5_uses 0 = .ok (.aload_n 0, 1) := by decide +kernel
theorem dX5_uses_1 : decode cX5_uses 1 = .ok (.iload_n 1, 1) := by decide +kernel
theorem dX5_uses_2 : decode cX5_uses 2 = .ok (.invokevirtual 32, 3) := by decide +kernel
theorem dX5_uses_5 : decode cX5_uses 5 = .ok (.istore_n 2, 1) := by decide +kernel
theorem dX5_uses_6 : decode cX5_uses 6 = .ok (.iload_n 2, 1) := by decide +kernel
theorem dX5_uses_7 : decode cX5_uses 7 = .ok (.invokestatic 36, 3) := by decide +kernel
theorem dX5_uses_10 : decode cX5_uses 10 = .ok (.ifCond .eq 14, 3) := by decide +kernel
theorem dX5_uses_13 : decode cX5_uses 13 = .ok (.aload_n 0, 1) := by decide +kernel
theorem dX5_uses_14 : decode cX5_uses 14 = .ok (.iload_n 1, 1) := by decide +kernel
theorem dX5_uses_15 : decode cX5_uses 15 = .ok (.invokevirtual 40, 3) := by decide +kernel
theorem dX5_uses_18 : decode cX5_uses 18 = .ok (.invokestatic 43, 3) := by decide +kernel
theorem dX5_uses_21 : decode cX5_uses 21 = .ok (.goto 4, 3) := by decide +kernel
theorem dX5_uses_24 : decode cX5_uses 24 = .ok (.iconst 0, 1) := by decide +kernel
theorem dX5_uses_25 : decode cX5_uses 25 = .ok (.istore_n 3, 1) := by decide +kernel
theorem dX5_uses_26 : decode cX5_uses 26 = .ok (.iload_n 2, 1) := by decide +kernel
theorem dX5_uses_27 : decode cX5_uses 27 = .ok (.invokestatic 46, 3) := by decide +kernel
theorem dX5_uses_30 : decode cX5_uses 30 = .ok (.ifCond .eq 16, 3) := by decide +kernel
theorem dX5_uses_33 : decode cX5_uses 33 = .ok (.iload_n 3, 1) := by decide +kernel
theorem dX5_uses_34 : decode cX5_uses 34 = .ok (.aload_n 0, 1) := by decide +kernel
theorem dX5_uses_35 : decode cX5_uses 35 = .ok (.iload_n 1, 1) := by decide +kernel
theorem dX5_uses_36 : decode cX5_uses 36 = .ok (.invokevirtual 49, 3) := by decide +kernel
theorem dX5_uses_39 : decode cX5_uses 39 = .ok (.invokestatic 43, 3) := by decide +kernel
theorem dX5_uses_42 : decode cX5_uses 42 = .ok (.ior, 1) := by decide +kernel
theorem dX5_uses_43 : decode cX5_uses 43 = .ok (.goto 4, 3) := by decide +kernel
theorem dX5_uses_46 : decode cX5_uses 46 = .ok (.iload_n 3, 1) := by decide +kernel
theorem dX5_uses_47 : decode cX5_uses 47 = .ok (.ireturn, 1) := by decide +kernel
theorem dX6_init_0 : decode cX6_init 0 = .ok (.aload_n 0, 1) := by decide +kernel
theorem dX6_init_1 : decode cX6_init 1 = .ok (.invokespecial 3, 3) := by decide +kernel
theorem dX6_init_4 : decode cX6_init 4 = .ok (.aload_n 0, 1) := by decide +kernel
theorem dX6_init_5 : decode cX6_init 5 = .ok (.bipush 16, 2) := by decide +kernel
theorem dX6_init_7 : decode cX6_init 7 = .ok (.newarray .int, 2) := by decide +kernel
theorem dX6_init_9 : decode cX6_init 9 = .ok (.putfield 9, 3) := by decide +kernel
theorem dX6_init_12 : decode cX6_init 12 = .ok (.aload_n 0, 1) := by decide +kernel
theorem dX6_init_13 : decode cX6_init 13 = .ok (.iconst (-1), 1) := by decide +kernel
theorem dX6_init_14 : decode cX6_init 14 = .ok (.putfield 15, 3) := by decide +kernel
theorem dX6_init_17 : decode cX6_init 17 = .ok (.aload_n 0, 1) := by decide +kernel
theorem dX6_init_18 : decode cX6_init 18 = .ok (.aload_n 1, 1) := by decide +kernel
theorem dX6_init_19 : decode cX6_init 19 = .ok (.putfield 19, 3) := by decide +kernel
theorem dX6_init_22 : decode cX6_init 22 = .ok (.aload_n 0, 1) := by decide +kernel
theorem dX6_init_23 : decode cX6_init 23 = .ok (.aload_n 2, 1) := by decide +kernel
theorem dX6_init_24 : decode cX6_init 24 = .ok (.putfield 23, 3) := by decide +kernel
theorem dX6_init_27 : decode cX6_init 27 = .ok (.aload_n 0, 1) := by decide +kernel
theorem dX6_init_28 : decode cX6_init 28 = .ok (.aload_n 3, 1) := by decide +kernel
theorem dX6_init_29 : decode cX6_init 29 = .ok (.putfield 27, 3) := by decide +kernel
theorem dX6_init_32 : decode cX6_init 32 = .ok (.aload_n 0, 1) := by decide +kernel
theorem dX6_init_33 : decode cX6_init 33 = .ok (.aload 4, 2) := by decide +kernel
theorem dX6_init_35 : decode cX6_init 35 = .ok (.putfield 31, 3) := by decide +kernel
theorem dX6_init_38 : decode cX6_init 38 = .ok (.return_, 1) := by decide +kernel
set_option maxRecDepth 20000 in
theorem ggX6_of_X7_at : GoodIn wsX6_of wsX7_at := goodIn_r _ [4] (by decide +kernel) (by decide +kernel)
set_option maxRecDepth 20000 in
theorem gX6_of_X7_at_n35 : GoodIn wsX6_of (wsX7_at) := ggX6_of_X7_at
theorem dX6_of_0 : decode cX6_of 0 = .ok (.aload_n 0, 1) := by decide +kernel
theorem dX6_of_1 : decode cX6_of 1 = .ok (.getfield 9, 3) := by decide +kernel
theorem dX6_of_4 : decode cX6_of 4 = .ok (.iload_n 1, 1) := by decide +kernel
theorem dX6_of_5 : decode cX6_of 5 = .ok (.invokestatic 35, 3) := by decide +kernel
theorem dX6_of_8 : decode cX6_of 8 = .ok (.ireturn, 1) := by decide +kernel
set_option maxRecDepth 20000 in
theorem ggX6_workOut_X4_lineAt : GoodIn wsX6_workOut wsX4_lineAt := goodIn_r _ [9, 10, 11, 12, 13, 120, 121, 122, 123, 124, 125, 126] (by decide +kernel) (by decide +kernel)
set_option maxRecDepth 20000 in
theorem gX6_workOut_X4_lineAt : GoodIn wsX6_workOut (wsV RX6 39 RX4 yX4_lineAt wsX4_lineAt) := goodIn_app (goodIn_of _ (by decide +kernel)) ggX6_workOut_X4_lineAt
set_option maxRecDepth 20000 in
theorem ggX6_workOut_X5_kind : GoodIn wsX6_workOut wsX5_kind := goodIn_r _ [18, 19, 11, 12, 13, 127, 128, 129, 130] (by decide +kernel) (by decide +kernel)
set_option maxRecDepth 20000 in
theorem gX6_workOut_X5_kind : GoodIn wsX6_workOut (wsV RX6 45 RX5 yX5_kind wsX5_kind) := goodIn_app (goodIn_of _ (by decide +kernel)) ggX6_workOut_X5_kind
set_option maxRecDepth 20000 in
theorem ggX6_workOut_X4_isCircular : GoodIn wsX6_workOut wsX4_isCircular := goodIn_r _ [23, 24, 25, 26, 8, 27, 28, 11, 12, 13, 29, 30, 31, 32, 33, 120, 121, 122, 123, 124, 125, 126] (by decide +kernel) (by decide +kernel)
set_option maxRecDepth 20000 in
theorem gX6_workOut_X4_isCircular : GoodIn wsX6_workOut (wsV RX6 50 RX4 yX4_isCircular wsX4_isCircular) := goodIn_app (goodIn_of _ (by decide +kernel)) ggX6_workOut_X4_isCircular
set_option maxRecDepth 20000 in
theorem ggX6_workOut_X6_greatest : GoodIn wsX6_workOut wsX6_greatest := goodIn_r _ [38, 2, 3, 5, 6, 7, 8, 9, 10, 11, 12, 13, 39, 40, 41, 17, 42, 43, 44, 45, 46, 37, 47, 4, 48, 49, 50, 51, 52, 53, 54, 55, 56, 57, 58, 59, 60, 61, 62, 63, 64, 65, 66, 67, 68, 69, 70, 71, 72, 73, 74, 75, 76, 77, 78, 79, 1, 80, 81, 82, 83, 84, 14, 15, 16, 18, 19, 85, 86, 87, 88, 89, 90, 91, 92, 93, 94, 95, 96, 97, 98, 99, 100, 101, 102, 103, 104, 105, 106, 107, 108, 109, 110, 111, 112, 113, 114, 115, 116, 117, 118, 119, 120, 121, 122, 123, 124, 125, 126, 127, 128, 129, 130, 131, 132, 133, 134, 135, 136, 137] (by decide +kernel) (by decide +kernel)
set_option maxRecDepth 20000 in
theorem gX6_workOut_X6_greatest : GoodIn wsX6_workOut (wsV RX6 54 RX6 yX6_greatest wsX6_greatest) := goodIn_app (goodIn_of _ (by decide +kernel)) ggX6_workOut_X6_greatest
set_option maxRecDepth 20000 in
theorem ggX6_workOut_X6_plain : GoodIn wsX6_workOut wsX6_plain := goodIn_r _ [69, 3, 70, 71, 72, 73, 74, 75, 76, 77, 78, 79, 1, 39, 40, 41, 17, 42, 43, 11, 12, 13, 44, 45, 46, 37, 47, 4, 80, 81, 82, 83, 84, 14, 15, 16, 18, 19, 85, 86, 87, 88, 89, 90, 91, 92, 93, 94, 95, 96, 97, 98, 99, 100, 101, 102, 103, 104, 105, 106, 107, 108, 109, 110, 111, 112, 113, 114, 115, 116, 117, 118, 119, 127, 128, 129, 130, 131, 132, 133, 134, 135, 136, 137] (by decide +kernel) (by decide +kernel)
set_option maxRecDepth 20000 in
theorem gX6_workOut_X6_plain : GoodIn wsX6_workOut (wsV RX6 57 RX6 yX6_plain wsX6_plain) := goodIn_app (goodIn_of _ (by decide +kernel)) ggX6_workOut_X6_plain
set_option maxRecDepth 20000 in
theorem ggX6_workOut_X7_put : GoodIn wsX6_workOut wsX7_put := goodIn_r _ [53] (by decide +kernel) (by decide +kernel)
set_option maxRecDepth 20000 in
theorem gX6_workOut_X7_put_n60 : GoodIn wsX6_workOut (wsX7_put) := ggX6_workOut_X7_put
theorem dX6_workOut_0 : decode cX6_workOut 0 = .ok (.aload_n 0, 1) := by decide +kernel
theorem dX6_workOut_1 : decode cX6_workOut 1 = .ok (.iload_n 1, 1) := by decide +kernel
theorem dX6_workOut_2 : decode cX6_workOut 2 = .ok (.putfield 15, 3) := by decide +kernel
theorem dX6_workOut_5 : decode cX6_workOut 5 = .ok (.iconst 0, 1) := by decide +kernel
theorem dX6_workOut_6 : decode cX6_workOut 6 = .ok (.istore_n 2, 1) := by decide +kernel
theorem dX6_workOut_7 : decode cX6_workOut 7 = .ok (.iload_n 2, 1) := by decide +kernel
theorem dX6_workOut_8 : decode cX6_workOut 8 = .ok (.bipush 16, 2) := by decide +kernel
theorem dX6_workOut_10 : decode cX6_workOut 10 = .ok (.if_icmp .ge 75, 3) := by decide +kernel
theorem dX6_workOut_13 : decode cX6_workOut 13 = .ok (.aload_n 0, 1) := by decide +kernel
theorem dX6_workOut_14 : decode cX6_workOut 14 = .ok (.getfield 23, 3) := by decide +kernel
theorem dX6_workOut_17 : decode cX6_workOut 17 = .ok (.iload_n 2, 1) := by decide +kernel
theorem dX6_workOut_18 : decode cX6_workOut 18 = .ok (.invokevirtual 39, 3) := by decide +kernel
theorem dX6_workOut_21 : decode cX6_workOut 21 = .ok (.istore_n 3, 1) := by decide +kernel
theorem dX6_workOut_22 : decode cX6_workOut 22 = .ok (.aload_n 0, 1) := by decide +kernel
theorem dX6_workOut_23 : decode cX6_workOut 23 = .ok (.getfield 19, 3) := by decide +kernel
theorem dX6_workOut_26 : decode cX6_workOut 26 = .ok (.iload_n 3, 1) := by decide +kernel
theorem dX6_workOut_27 : decode cX6_workOut 27 = .ok (.invokevirtual 45, 3) := by decide +kernel
theorem dX6_workOut_30 : decode cX6_workOut 30 = .ok (.bipush 8, 2) := by decide +kernel
theorem dX6_workOut_32 : decode cX6_workOut 32 = .ok (.if_icmp .ne 18, 3) := by decide +kernel
theorem dX6_workOut_35 : decode cX6_workOut 35 = .ok (.aload_n 0, 1) := by decide +kernel
theorem dX6_workOut_36 : decode cX6_workOut 36 = .ok (.getfield 23, 3) := by decide +kernel
theorem dX6_workOut_39 : decode cX6_workOut 39 = .ok (.iload_n 3, 1) := by decide +kernel
theorem dX6_workOut_40 : decode cX6_workOut 40 = .ok (.invokevirtual 50, 3) := by decide +kernel
theorem dX6_workOut_43 : decode cX6_workOut 43 = .ok (.ifCond .eq 7, 3) := by decide +kernel
theorem dX6_workOut_46 : decode cX6_workOut 46 = .ok (.iconst 1, 1) := by decide +kernel
theorem dX6_workOut_47 : decode cX6_workOut 47 = .ok (.goto 4, 3) := by decide +kernel
theorem dX6_workOut_50 : decode cX6_workOut 50 = .ok (.iconst 0, 1) := by decide +kernel
theorem dX6_workOut_51 : decode cX6_workOut 51 = .ok (.istore 4, 2) := by decide +kernel
theorem dX6_workOut_53 : decode cX6_workOut 53 = .ok (.aload_n 0, 1) := by decide +kernel
theorem dX6_workOut_54 : decode cX6_workOut 54 = .ok (.getfield 9, 3) := by decide +kernel
theorem dX6_workOut_57 : decode cX6_workOut 57 = .ok (.iload_n 3, 1) := by decide +kernel
theorem dX6_workOut_58 : decode cX6_workOut 58 = .ok (.iload 4, 2) := by decide +kernel
theorem dX6_workOut_60 : decode cX6_workOut 60 = .ok (.ifCond .eq 11, 3) := by decide +kernel
theorem dX6_workOut_63 : decode cX6_workOut 63 = .ok (.aload_n 0, 1) := by decide +kernel
theorem dX6_workOut_64 : decode cX6_workOut 64 = .ok (.iload_n 2, 1) := by decide +kernel
theorem dX6_workOut_65 : decode cX6_workOut 65 = .ok (.invokevirtual 54, 3) := by decide +kernel
theorem dX6_workOut_68 : decode cX6_workOut 68 = .ok (.goto 8, 3) := by decide +kernel
theorem dX6_workOut_71 : decode cX6_workOut 71 = .ok (.aload_n 0, 1) := by decide +kernel
theorem dX6_workOut_72 : decode cX6_workOut 72 = .ok (.iload_n 3, 1) := by decide +kernel
theorem dX6_workOut_73 : decode cX6_workOut 73 = .ok (.invokevirtual 57, 3) := by decide +kernel
theorem dX6_workOut_76 : decode cX6_workOut 76 = .ok (.invokestatic 60, 3) := by decide +kernel
theorem dX6_workOut_79 : decode cX6_workOut 79 = .ok (.iinc 2 1, 3) := by decide +kernel
theorem dX6_workOut_82 : decode cX6_workOut 82 = .ok (.goto (-75), 3) := by decide +kernel
theorem dX6_workOut_85 : decode cX6_workOut 85 = .ok (.return_, 1) := by decide +kernel
set_option maxRecDepth 20000 in
theorem ggX6_suppose_X4_lineAt : GoodIn wsX6_suppose wsX4_lineAt := goodIn_r _ [7, 8, 9, 10, 11, 98, 99, 100, 101, 102, 103, 104] (by decide +kernel) (by decide +kernel)
set_option maxRecDepth 20000 in
theorem gX6_suppose_X4_lineAt : GoodIn wsX6_suppose (wsV RX6 39 RX4 yX4_lineAt wsX4_lineAt) := goodIn_app (goodIn_of _ (by decide +kernel)) ggX6_suppose_X4_lineAt
set_option maxRecDepth 20000 in
theorem ggX6_suppose_X7_put : GoodIn wsX6_suppose wsX7_put := goodIn_r _ [13] (by decide +kernel) (by decide +kernel)
set_option maxRecDepth 20000 in
theorem gX6_suppose_X7_put_n60 : GoodIn wsX6_suppose (wsX7_put) := ggX6_suppose_X7_put
set_option maxRecDepth 20000 in
theorem ggX6_suppose_X4_groupOf : GoodIn wsX6_suppose wsX4_groupOf := goodIn_r _ [17, 18, 9, 10, 11, 98, 99, 100, 101, 102, 103, 104] (by decide +kernel) (by decide +kernel)
set_option maxRecDepth 20000 in
theorem gX6_suppose_X4_groupOf : GoodIn wsX6_suppose (wsV RX6 64 RX4 yX4_groupOf wsX4_groupOf) := goodIn_app (goodIn_of _ (by decide +kernel)) ggX6_suppose_X4_groupOf
set_option maxRecDepth 20000 in
theorem ggX6_suppose_J6_bitCount_0f7a4 : GoodIn wsX6_suppose wsJ6_bitCount_0f7a4 := goodIn_r _ [22, 23, 24, 25] (by decide +kernel) (by decide +kernel)
set_option maxRecDepth 20000 in
theorem gX6_suppose_J6_bitCount_0f7a4 : GoodIn wsX6_suppose (va_wsS RX6 67 yJ6_bitCount_0f7a4 wsJ6_bitCount_0f7a4) := goodIn_app (goodIn_of _ (by decide +kernel)) ggX6_suppose_J6_bitCount_0f7a4
set_option maxRecDepth 20000 in
theorem ggX6_suppose_X6_plain : GoodIn wsX6_suppose wsX6_plain := goodIn_r _ [30, 31, 32, 33, 34, 35, 36, 37, 38, 39, 40, 41, 42, 43, 44, 45, 46, 47, 48, 9, 10, 11, 49, 50, 51, 29, 52, 2, 53, 54, 55, 56, 57, 58, 59, 60, 61, 62, 63, 64, 65, 66, 67, 68, 69, 70, 71, 72, 73, 74, 75, 76, 77, 78, 79, 80, 81, 82, 83, 84, 85, 86, 87, 88, 89, 90, 91, 92, 93, 94, 95, 96, 97, 105, 106, 107, 108, 109, 110, 111, 112, 113, 114, 115] (by decide +kernel) (by decide +kernel)
set_option maxRecDepth 20000 in
theorem gX6_suppose_X6_plain : GoodIn wsX6_suppose (wsV RX6 57 RX6 yX6_plain wsX6_plain) := goodIn_app (goodIn_of _ (by decide +kernel)) ggX6_suppose_X6_plain
theorem dX6_suppose_0 : decode cX6_suppose 0 = .ok (.aload_n 0, 1) := by decide +kernel
theorem dX6_suppose_1 : decode cX6_suppose 1 = .ok (.getfield 23, 3) := by decide +kernel
theorem dX6_suppose_4 : decode cX6_suppose 4 = .ok (.iload_n 1, 1) := by decide +kernel
theorem dX6_suppose_5 : decode cX6_suppose 5 = .ok (.invokevirtual 39, 3) := by decide +kernel
theorem dX6_suppose_8 : decode cX6_suppose 8 = .ok (.istore_n 3, 1) := by decide +kernel
theorem dX6_suppose_9 : decode cX6_suppose 9 = .ok (.aload_n 0, 1) := by decide +kernel
theorem dX6_suppose_10 : decode cX6_suppose 10 = .ok (.getfield 9, 3) := by decide +kernel
theorem dX6_suppose_13 : decode cX6_suppose 13 = .ok (.iload_n 3, 1) := by decide +kernel
theorem dX6_suppose_14 : decode cX6_suppose 14 = .ok (.iload_n 2, 1) := by decide +kernel
theorem dX6_suppose_15 : decode cX6_suppose 15 = .ok (.invokestatic 60, 3) := by decide +kernel
theorem dX6_suppose_18 : decode cX6_suppose 18 = .ok (.iload_n 1, 1) := by decide +kernel
theorem dX6_suppose_19 : decode cX6_suppose 19 = .ok (.aload_n 0, 1) := by decide +kernel
theorem dX6_suppose_20 : decode cX6_suppose 20 = .ok (.getfield 23, 3) := by decide +kernel
theorem dX6_suppose_23 : decode cX6_suppose 23 = .ok (.iload_n 3, 1) := by decide +kernel
theorem dX6_suppose_24 : decode cX6_suppose 24 = .ok (.invokevirtual 64, 3) := by decide +kernel
theorem dX6_suppose_27 : decode cX6_suppose 27 = .ok (.invokestatic 67, 3) := by decide +kernel
theorem dX6_suppose_30 : decode cX6_suppose 30 = .ok (.iadd, 1) := by decide +kernel
theorem dX6_suppose_31 : decode cX6_suppose 31 = .ok (.istore 4, 2) := by decide +kernel
theorem dX6_suppose_33 : decode cX6_suppose 33 = .ok (.iload_n 1, 1) := by decide +kernel
theorem dX6_suppose_34 : decode cX6_suppose 34 = .ok (.iconst 1, 1) := by decide +kernel
theorem dX6_suppose_35 : decode cX6_suppose 35 = .ok (.iadd, 1) := by decide +kernel
theorem dX6_suppose_36 : decode cX6_suppose 36 = .ok (.istore 5, 2) := by decide +kernel
theorem dX6_suppose_38 : decode cX6_suppose 38 = .ok (.iload 5, 2) := by decide +kernel
theorem dX6_suppose_40 : decode cX6_suppose 40 = .ok (.iload 4, 2) := by decide +kernel
theorem dX6_suppose_42 : decode cX6_suppose 42 = .ok (.if_icmp .ge 35, 3) := by decide +kernel
theorem dX6_suppose_45 : decode cX6_suppose 45 = .ok (.aload_n 0, 1) := by decide +kernel
theorem dX6_suppose_46 : decode cX6_suppose 46 = .ok (.getfield 23, 3) := by decide +kernel
theorem dX6_suppose_49 : decode cX6_suppose 49 = .ok (.iload 5, 2) := by decide +kernel
theorem dX6_suppose_51 : decode cX6_suppose 51 = .ok (.invokevirtual 39, 3) := by decide +kernel
theorem dX6_suppose_54 : decode cX6_suppose 54 = .ok (.istore 6, 2) := by decide +kernel
theorem dX6_suppose_56 : decode cX6_suppose 56 = .ok (.aload_n 0, 1) := by decide +kernel
theorem dX6_suppose_57 : decode cX6_suppose 57 = .ok (.getfield 9, 3) := by decide +kernel
theorem dX6_suppose_60 : decode cX6_suppose 60 = .ok (.iload 6, 2) := by decide +kernel
theorem dX6_suppose_62 : decode cX6_suppose 62 = .ok (.aload_n 0, 1) := by decide +kernel
theorem dX6_suppose_63 : decode cX6_suppose 63 = .ok (.iload 6, 2) := by decide +kernel
theorem dX6_suppose_65 : decode cX6_suppose 65 = .ok (.invokevirtual 57, 3) := by decide +kernel
theorem dX6_suppose_68 : decode cX6_suppose 68 = .ok (.invokestatic 60, 3) := by decide +kernel
theorem dX6_suppose_71 : decode cX6_suppose 71 = .ok (.iinc 5 1, 3) := by decide +kernel
theorem dX6_suppose_74 : decode cX6_suppose 74 = .ok (.goto (-36), 3) := by decide +kernel
theorem dX6_suppose_77 : decode cX6_suppose 77 = .ok (.return_, 1) := by decide +kernel
set_option maxRecDepth 20000 in
theorem ggX6_greatest_X4_lineAt : GoodIn wsX6_greatest wsX4_lineAt := goodIn_r _ [7, 8, 9, 10, 11, 102, 103, 104, 105, 106, 107, 108] (by decide +kernel) (by decide +kernel)
set_option maxRecDepth 20000 in
theorem gX6_greatest_X4_lineAt : GoodIn wsX6_greatest (wsV RX6 39 RX4 yX4_lineAt wsX4_lineAt) := goodIn_app (goodIn_of _ (by decide +kernel)) ggX6_greatest_X4_lineAt
set_option maxRecDepth 20000 in
theorem ggX6_greatest_X5_first : GoodIn wsX6_greatest wsX5_first := goodIn_r _ [16, 17, 9, 10, 11, 109, 110, 111, 112] (by decide +kernel) (by decide +kernel)
set_option maxRecDepth 20000 in
theorem gX6_greatest_X5_first : GoodIn wsX6_greatest (wsV RX6 72 RX5 yX5_first wsX5_first) := goodIn_app (goodIn_of _ (by decide +kernel)) ggX6_greatest_X5_first
set_option maxRecDepth 20000 in
theorem ggX6_greatest_X6_of : GoodIn wsX6_greatest wsX6_of := goodIn_r _ [22, 23, 9, 10, 11, 96, 97, 98, 99, 100, 101] (by decide +kernel) (by decide +kernel)
set_option maxRecDepth 20000 in
theorem gX6_greatest_X6_of : GoodIn wsX6_greatest (wsV RX6 75 RX6 yX6_of wsX6_of) := goodIn_app (goodIn_of _ (by decide +kernel)) ggX6_greatest_X6_of
set_option maxRecDepth 20000 in
theorem ggX6_greatest_X6_suppose : GoodIn wsX6_greatest wsX6_suppose := goodIn_r _ [27, 1, 23, 3, 4, 5, 6, 7, 8, 9, 10, 11, 28, 29, 30, 31, 32, 33, 34, 35, 36, 37, 38, 39, 40, 41, 42, 43, 44, 21, 45, 2, 46, 47, 48, 49, 50, 51, 52, 53, 54, 55, 56, 12, 13, 14, 15, 16, 17, 18, 19, 20, 22, 57, 58, 59, 60, 61, 62, 63, 64, 65, 66, 67, 68, 69, 70, 71, 72, 73, 74, 75, 76, 77, 78, 79, 80, 81, 82, 83, 84, 85, 86, 87, 88, 89, 90, 91, 92, 93, 94, 95, 96, 97, 98, 99, 100, 101, 102, 103, 104, 105, 106, 107, 108, 109, 110, 111, 112, 113, 114, 115, 116, 117, 118, 119] (by decide +kernel) (by decide +kernel)
set_option maxRecDepth 20000 in
theorem gX6_greatest_X6_suppose : GoodIn wsX6_greatest (wsV RX6 78 RX6 yX6_suppose wsX6_suppose) := goodIn_app (goodIn_of _ (by decide +kernel)) ggX6_greatest_X6_suppose
set_option maxRecDepth 20000 in
theorem ggX6_greatest_X5_second : GoodIn wsX6_greatest wsX5_second := goodIn_r _ [60, 61, 9, 10, 11, 109, 110, 111, 112] (by decide +kernel) (by decide +kernel)
set_option maxRecDepth 20000 in
theorem gX6_greatest_X5_second : GoodIn wsX6_greatest (wsV RX6 82 RX5 yX5_second wsX5_second) := goodIn_app (goodIn_of _ (by decide +kernel)) ggX6_greatest_X5_second
theorem dX6_greatest_0 : decode cX6_greatest 0 = .ok (.aload_n 0, 1) := by decide +kernel
theorem dX6_greatest_1 : decode cX6_greatest 1 = .ok (.getfield 23, 3) := by decide +kernel
theorem dX6_greatest_4 : decode cX6_greatest 4 = .ok (.iload_n 1, 1) := by decide +kernel
theorem dX6_greatest_5 : decode cX6_greatest 5 = .ok (.invokevirtual 39, 3) := by decide +kernel
theorem dX6_greatest_8 : decode cX6_greatest 8 = .ok (.istore_n 2, 1) := by decide +kernel
theorem dX6_greatest_9 : decode cX6_greatest 9 = .ok (.iconst 0, 1) := by decide +kernel
theorem dX6_greatest_10 : decode cX6_greatest 10 = .ok (.istore_n 3, 1) := by decide +kernel
theorem dX6_greatest_11 : decode cX6_greatest 11 = .ok (.aload_n 0, 1) := by decide +kernel
theorem dX6_greatest_12 : decode cX6_greatest 12 = .ok (.aload_n 0, 1) := by decide +kernel
theorem dX6_greatest_13 : decode cX6_greatest 13 = .ok (.getfield 19, 3) := by decide +kernel
theorem dX6_greatest_16 : decode cX6_greatest 16 = .ok (.iload_n 2, 1) := by decide +kernel
theorem dX6_greatest_17 : decode cX6_greatest 17 = .ok (.invokevirtual 72, 3) := by decide +kernel
theorem dX6_greatest_20 : decode cX6_greatest 20 = .ok (.invokevirtual 75, 3) := by decide +kernel
theorem dX6_greatest_23 : decode cX6_greatest 23 = .ok (.istore 4, 2) := by decide +kernel
theorem dX6_greatest_25 : decode cX6_greatest 25 = .ok (.iconst 0, 1) := by decide +kernel
theorem dX6_greatest_26 : decode cX6_greatest 26 = .ok (.istore 5, 2) := by decide +kernel
theorem dX6_greatest_28 : decode cX6_greatest 28 = .ok (.iload 5, 2) := by decide +kernel
theorem dX6_greatest_30 : decode cX6_greatest 30 = .ok (.bipush 31, 2) := by decide +kernel
theorem dX6_greatest_32 : decode cX6_greatest 32 = .ok (.if_icmp .ge 63, 3) := by decide +kernel
theorem dX6_greatest_35 : decode cX6_greatest 35 = .ok (.iload_n 3, 1) := by decide +kernel
theorem dX6_greatest_36 : decode cX6_greatest 36 = .ok (.iload 4, 2) := by decide +kernel
theorem dX6_greatest_38 : decode cX6_greatest 38 = .ok (.if_icmp .ge 57, 3) := by decide +kernel
theorem dX6_greatest_41 : decode cX6_greatest 41 = .ok (.iload_n 3, 1) := by decide +kernel
theorem dX6_greatest_42 : decode cX6_greatest 42 = .ok (.iload 4, 2) := by decide +kernel
theorem dX6_greatest_44 : decode cX6_greatest 44 = .ok (.iload_n 3, 1) := by decide +kernel
theorem dX6_greatest_45 : decode cX6_greatest 45 = .ok (.isub, 1) := by decide +kernel
theorem dX6_greatest_46 : decode cX6_greatest 46 = .ok (.iconst 1, 1) := by decide +kernel
theorem dX6_greatest_47 : decode cX6_greatest 47 = .ok (.iadd, 1) := by decide +kernel
theorem dX6_greatest_48 : decode cX6_greatest 48 = .ok (.iconst 2, 1) := by decide +kernel
theorem dX6_greatest_49 : decode cX6_greatest 49 = .ok (.idiv, 1) := by decide +kernel
theorem dX6_greatest_50 : decode cX6_greatest 50 = .ok (.iadd, 1) := by decide +kernel
theorem dX6_greatest_51 : decode cX6_greatest 51 = .ok (.istore 6, 2) := by decide +kernel
theorem dX6_greatest_53 : decode cX6_greatest 53 = .ok (.aload_n 0, 1) := by decide +kernel
theorem dX6_greatest_54 : decode cX6_greatest 54 = .ok (.iload_n 1, 1) := by decide +kernel
theorem dX6_greatest_55 : decode cX6_greatest 55 = .ok (.iload 6, 2) := by decide +kernel
theorem dX6_greatest_57 : decode cX6_greatest 57 = .ok (.invokevirtual 78, 3) := by decide +kernel
theorem dX6_greatest_60 : decode cX6_greatest 60 = .ok (.iload 6, 2) := by decide +kernel
theorem dX6_greatest_62 : decode cX6_greatest 62 = .ok (.aload_n 0, 1) := by decide +kernel
theorem dX6_greatest_63 : decode cX6_greatest 63 = .ok (.aload_n 0, 1) := by decide +kernel
theorem dX6_greatest_64 : decode cX6_greatest 64 = .ok (.getfield 19, 3) := by decide +kernel
theorem dX6_greatest_67 : decode cX6_greatest 67 = .ok (.iload_n 2, 1) := by decide +kernel
theorem dX6_greatest_68 : decode cX6_greatest 68 = .ok (.invokevirtual 82, 3) := by decide +kernel
theorem dX6_greatest_71 : decode cX6_greatest 71 = .ok (.invokevirtual 75, 3) := by decide +kernel
theorem dX6_greatest_74 : decode cX6_greatest 74 = .ok (.if_icmp .gt 9, 3) := by decide +kernel
theorem dX6_greatest_77 : decode cX6_greatest 77 = .ok (.iload 6, 2) := by decide +kernel
theorem dX6_greatest_79 : decode cX6_greatest 79 = .ok (.istore_n 3, 1) := by decide +kernel
theorem dX6_greatest_80 : decode cX6_greatest 80 = .ok (.goto 9, 3) := by decide +kernel
theorem dX6_greatest_83 : decode cX6_greatest 83 = .ok (.iload 6, 2) := by decide +kernel
theorem dX6_greatest_85 : decode cX6_greatest 85 = .ok (.iconst 1, 1) := by decide +kernel
theorem dX6_greatest_86 : decode cX6_greatest 86 = .ok (.isub, 1) := by decide +kernel
theorem dX6_greatest_87 : decode cX6_greatest 87 = .ok (.istore 4, 2) := by decide +kernel
theorem dX6_greatest_89 : decode cX6_greatest 89 = .ok (.iinc 5 1, 3) := by decide +kernel
theorem dX6_greatest_92 : decode cX6_greatest 92 = .ok (.goto (-64), 3) := by decide +kernel
theorem dX6_greatest_95 : decode cX6_greatest 95 = .ok (.iload_n 3, 1) := by decide +kernel
theorem dX6_greatest_96 : decode cX6_greatest 96 = .ok (.ireturn, 1) := by decide +kernel
set_option maxRecDepth 20000 in
theorem ggX6_plain_X5_first : GoodIn wsX6_plain wsX5_first := goodIn_r _ [17, 18, 19, 20, 21, 73, 74, 75, 76] (by decide +kernel) (by decide +kernel)
set_option maxRecDepth 20000 in
theorem gX6_plain_X5_first : GoodIn wsX6_plain (wsV RX6 72 RX5 yX5_first wsX5_first) := goodIn_app (goodIn_of _ (by decide +kernel)) ggX6_plain_X5_first
set_option maxRecDepth 20000 in
theorem ggX6_plain_X6_of : GoodIn wsX6_plain wsX6_of := goodIn_r _ [26, 27, 19, 20, 21, 67, 68, 69, 70, 71, 72] (by decide +kernel) (by decide +kernel)
set_option maxRecDepth 20000 in
theorem gX6_plain_X6_of : GoodIn wsX6_plain (wsV RX6 75 RX6 yX6_of wsX6_of) := goodIn_app (goodIn_of _ (by decide +kernel)) ggX6_plain_X6_of
set_option maxRecDepth 20000 in
theorem ggX6_plain_X5_second : GoodIn wsX6_plain wsX5_second := goodIn_r _ [31, 32, 19, 20, 21, 73, 74, 75, 76] (by decide +kernel) (by decide +kernel)
set_option maxRecDepth 20000 in
theorem gX6_plain_X5_second : GoodIn wsX6_plain (wsV RX6 82 RX5 yX5_second wsX5_second) := goodIn_app (goodIn_of _ (by decide +kernel)) ggX6_plain_X5_second
set_option maxRecDepth 20000 in
theorem ggX6_plain_X5_kind : GoodIn wsX6_plain wsX5_kind := goodIn_r _ [36, 37, 19, 20, 21, 73, 74, 75, 76] (by decide +kernel) (by decide +kernel)
set_option maxRecDepth 20000 in
theorem gX6_plain_X5_kind : GoodIn wsX6_plain (wsV RX6 45 RX5 yX5_kind wsX5_kind) := goodIn_app (goodIn_of _ (by decide +kernel)) ggX6_plain_X5_kind
set_option maxRecDepth 20000 in
theorem ggX6_plain_X7_thousandths : GoodIn wsX6_plain wsX7_thousandths := goodIn_r _ [39, 40] (by decide +kernel) (by decide +kernel)
set_option maxRecDepth 20000 in
theorem gX6_plain_X7_thousandths_n95 : GoodIn wsX6_plain (wsX7_thousandths) := ggX6_plain_X7_thousandths
set_option maxRecDepth 20000 in
theorem ggX6_plain_X1_tax : GoodIn wsX6_plain wsX1_tax := goodIn_r _ [45, 46, 47, 48, 4, 5, 6, 49, 8, 9, 50, 19, 20, 21, 38, 39, 40, 77, 78, 79] (by decide +kernel) (by decide +kernel)
set_option maxRecDepth 20000 in
theorem gX6_plain_X1_tax : GoodIn wsX6_plain (wsV RX6 98 RX1 yX1_tax wsX1_tax) := goodIn_app (goodIn_of _ (by decide +kernel)) ggX6_plain_X1_tax
set_option maxRecDepth 20000 in
theorem ggX6_plain_X0_total : GoodIn wsX6_plain wsX0_total := goodIn_r _ [55, 56, 57, 58, 59, 54, 60, 61, 19, 20, 21, 80, 81, 82, 83] (by decide +kernel) (by decide +kernel)
set_option maxRecDepth 20000 in
theorem gX6_plain_X0_total : GoodIn wsX6_plain (wsV RX6 103 RX0 yX0_total wsX0_total) := goodIn_app (goodIn_of _ (by decide +kernel)) ggX6_plain_X0_total
set_option maxRecDepth 20000 in
theorem ggX6_plain_X5_given : GoodIn wsX6_plain wsX5_given := goodIn_r _ [65, 66, 19, 20, 21, 73, 74, 75, 76] (by decide +kernel) (by decide +kernel)
set_option maxRecDepth 20000 in
theorem gX6_plain_X5_given : GoodIn wsX6_plain (wsV RX6 109 RX5 yX5_given wsX5_given) := goodIn_app (goodIn_of _ (by decide +kernel)) ggX6_plain_X5_given
theorem dX6_plain_0 : decode cX6_plain 0 = .ok (.aload_n 0, 1) := by decide +kernel
theorem dX6_plain_1 : decode cX6_plain 1 = .ok (.aload_n 0, 1) := by decide +kernel
theorem dX6_plain_2 : decode cX6_plain 2 = .ok (.getfield 19, 3) := by decide +kernel
theorem dX6_plain_5 : decode cX6_plain 5 = .ok (.iload_n 1, 1) := by decide +kernel
theorem dX6_plain_6 : decode cX6_plain 6 = .ok (.invokevirtual 72, 3) := by decide +kernel
theorem dX6_plain_9 : decode cX6_plain 9 = .ok (.invokevirtual 75, 3) := by decide +kernel
theorem dX6_plain_12 : decode cX6_plain 12 = .ok (.istore_n 2, 1) := by decide +kernel
theorem dX6_plain_13 : decode cX6_plain 13 = .ok (.aload_n 0, 1) := by decide +kernel
theorem dX6_plain_14 : decode cX6_plain 14 = .ok (.getfield 19, 3) := by decide +kernel
theorem dX6_plain_17 : decode cX6_plain 17 = .ok (.iload_n 1, 1) := by decide +kernel
theorem dX6_plain_18 : decode cX6_plain 18 = .ok (.invokevirtual 82, 3) := by decide +kernel
theorem dX6_plain_21 : decode cX6_plain 21 = .ok (.istore_n 3, 1) := by decide +kernel
theorem dX6_plain_22 : decode cX6_plain 22 = .ok (.aload_n 0, 1) := by decide +kernel
theorem dX6_plain_23 : decode cX6_plain 23 = .ok (.getfield 19, 3) := by decide +kernel
theorem dX6_plain_26 : decode cX6_plain 26 = .ok (.iload_n 1, 1) := by decide +kernel
theorem dX6_plain_27 : decode cX6_plain 27 = .ok (.invokevirtual 45, 3) := by decide +kernel
theorem dX6_plain_30 : decode cX6_plain 30 = .ok (.tableswitch 118 1 8 #[46, 59, 71, 77, 87, 97, 106, 77], 46) := by decide +kernel
theorem dX6_plain_76 : decode cX6_plain 76 = .ok (.iload_n 2, 1) := by decide +kernel
theorem dX6_plain_77 : decode cX6_plain 77 = .ok (.aload_n 0, 1) := by decide +kernel
theorem dX6_plain_78 : decode cX6_plain 78 = .ok (.iload_n 3, 1) := by decide +kernel
theorem dX6_plain_79 : decode cX6_plain 79 = .ok (.invokevirtual 75, 3) := by decide +kernel
theorem dX6_plain_82 : decode cX6_plain 82 = .ok (.iadd, 1) := by decide +kernel
theorem dX6_plain_83 : decode cX6_plain 83 = .ok (.ldc 85, 2) := by decide +kernel
theorem dX6_plain_85 : decode cX6_plain 85 = .ok (.invokestatic 86, 3) := by decide +kernel
theorem dX6_plain_88 : decode cX6_plain 88 = .ok (.ireturn, 1) := by decide +kernel
theorem dX6_plain_89 : decode cX6_plain 89 = .ok (.iload_n 2, 1) := by decide +kernel
theorem dX6_plain_90 : decode cX6_plain 90 = .ok (.aload_n 0, 1) := by decide +kernel
theorem dX6_plain_91 : decode cX6_plain 91 = .ok (.iload_n 3, 1) := by decide +kernel
theorem dX6_plain_92 : decode cX6_plain 92 = .ok (.invokevirtual 75, 3) := by decide +kernel
theorem dX6_plain_95 : decode cX6_plain 95 = .ok (.isub, 1) := by decide +kernel
theorem dX6_plain_96 : decode cX6_plain 96 = .ok (.iconst 0, 1) := by decide +kernel
theorem dX6_plain_97 : decode cX6_plain 97 = .ok (.invokestatic 92, 3) := by decide +kernel
theorem dX6_plain_100 : decode cX6_plain 100 = .ok (.ireturn, 1) := by decide +kernel
theorem dX6_plain_101 : decode cX6_plain 101 = .ok (.iload_n 2, 1) := by decide +kernel
theorem dX6_plain_102 : decode cX6_plain 102 = .ok (.iload_n 3, 1) := by decide +kernel
theorem dX6_plain_103 : decode cX6_plain 103 = .ok (.invokestatic 95, 3) := by decide +kernel
theorem dX6_plain_106 : decode cX6_plain 106 = .ok (.ireturn, 1) := by decide +kernel
theorem dX6_plain_107 : decode cX6_plain 107 = .ok (.iload_n 2, 1) := by decide +kernel
theorem dX6_plain_108 : decode cX6_plain 108 = .ok (.aload_n 0, 1) := by decide +kernel
theorem dX6_plain_109 : decode cX6_plain 109 = .ok (.iload_n 3, 1) := by decide +kernel
theorem dX6_plain_110 : decode cX6_plain 110 = .ok (.invokevirtual 75, 3) := by decide +kernel
theorem dX6_plain_113 : decode cX6_plain 113 = .ok (.invokestatic 86, 3) := by decide +kernel
theorem dX6_plain_116 : decode cX6_plain 116 = .ok (.ireturn, 1) := by decide +kernel
theorem dX6_plain_117 : decode cX6_plain 117 = .ok (.iload_n 2, 1) := by decide +kernel
theorem dX6_plain_118 : decode cX6_plain 118 = .ok (.aload_n 0, 1) := by decide +kernel
theorem dX6_plain_119 : decode cX6_plain 119 = .ok (.iload_n 3, 1) := by decide +kernel
theorem dX6_plain_120 : decode cX6_plain 120 = .ok (.invokevirtual 75, 3) := by decide +kernel
theorem dX6_plain_123 : decode cX6_plain 123 = .ok (.invokestatic 92, 3) := by decide +kernel
theorem dX6_plain_126 : decode cX6_plain 126 = .ok (.ireturn, 1) := by decide +kernel
theorem dX6_plain_127 : decode cX6_plain 127 = .ok (.aload_n 0, 1) := by decide +kernel
theorem dX6_plain_128 : decode cX6_plain 128 = .ok (.getfield 27, 3) := by decide +kernel
theorem dX6_plain_131 : decode cX6_plain 131 = .ok (.iload_n 2, 1) := by decide +kernel
theorem dX6_plain_132 : decode cX6_plain 132 = .ok (.invokevirtual 98, 3) := by decide +kernel
theorem dX6_plain_135 : decode cX6_plain 135 = .ok (.ireturn, 1) := by decide +kernel
theorem dX6_plain_136 : decode cX6_plain 136 = .ok (.iload_n 2, 1) := by decide +kernel
theorem dX6_plain_137 : decode cX6_plain 137 = .ok (.aload_n 0, 1) := by decide +kernel
theorem dX6_plain_138 : decode cX6_plain 138 = .ok (.getfield 31, 3) := by decide +kernel
theorem dX6_plain_141 : decode cX6_plain 141 = .ok (.invokevirtual 103, 3) := by decide +kernel
theorem dX6_plain_144 : decode cX6_plain 144 = .ok (.invokestatic 86, 3) := by decide +kernel
theorem dX6_plain_147 : decode cX6_plain 147 = .ok (.ireturn, 1) := by decide +kernel
theorem dX6_plain_148 : decode cX6_plain 148 = .ok (.iload_n 1, 1) := by decide +kernel
theorem dX6_plain_149 : decode cX6_plain 149 = .ok (.aload_n 0, 1) := by decide +kernel
theorem dX6_plain_150 : decode cX6_plain 150 = .ok (.getfield 15, 3) := by decide +kernel
theorem dX6_plain_153 : decode cX6_plain 153 = .ok (.if_icmp .ne 16, 3) := by decide +kernel
theorem dX6_plain_156 : decode cX6_plain 156 = .ok (.aload_n 0, 1) := by decide +kernel
theorem dX6_plain_157 : decode cX6_plain 157 = .ok (.getfield 19, 3) := by decide +kernel
theorem dX6_plain_160 : decode cX6_plain 160 = .ok (.iload_n 1, 1) := by decide +kernel
theorem dX6_plain_161 : decode cX6_plain 161 = .ok (.invokevirtual 109, 3) := by decide +kernel
theorem dX6_plain_164 : decode cX6_plain 164 = .ok (.iconst 1, 1) := by decide +kernel
theorem dX6_plain_165 : decode cX6_plain 165 = .ok (.iadd, 1) := by decide +kernel
theorem dX6_plain_166 : decode cX6_plain 166 = .ok (.goto 11, 3) := by decide +kernel
theorem dX6_plain_169 : decode cX6_plain 169 = .ok (.aload_n 0, 1) := by decide +kernel
theorem dX6_plain_170 : decode cX6_plain 170 = .ok (.getfield 19, 3) := by decide +kernel
theorem dX6_plain_173 : decode cX6_plain 173 = .ok (.iload_n 1, 1) := by decide +kernel
theorem dX6_plain_174 : decode cX6_plain 174 = .ok (.invokevirtual 109, 3) := by decide +kernel
theorem dX6_plain_177 : decode cX6_plain 177 = .ok (.ireturn, 1) := by decide +kernel
