set_option maxRecDepth 20000 in
theorem ggX7_init_X5_init : GoodIn wsX7_init wsX5_init := goodIn_r _ [34, 35, 2, 3, 36, 37, 38, 39, 40, 160, 161, 162, 163] (by decide +kernel) (by decide +kernel)
set_option maxRecDepth 20000 in
theorem gX7_init_X5_init_n9 : GoodIn wsX7_init (wsX5_init) := ggX7_init_X5_init
set_option maxRecDepth 20000 in
theorem ggX7_init_X4_init : GoodIn wsX7_init wsX4_init := goodIn_r _ [42, 43, 2, 3, 36, 44, 45, 46, 172, 173, 174, 175, 176, 177, 178] (by decide +kernel) (by decide +kernel)
set_option maxRecDepth 20000 in
theorem gX7_init_X4_init_n18 : GoodIn wsX7_init (wsX4_init) := ggX7_init_X4_init
set_option maxRecDepth 20000 in
theorem ggX7_init_X1_init : GoodIn wsX7_init wsX1_init := goodIn_r _ [48, 49, 2, 3, 36, 50, 51, 179, 180, 181] (by decide +kernel) (by decide +kernel)
set_option maxRecDepth 20000 in
theorem gX7_init_X1_init_n25 : GoodIn wsX7_init (wsX1_init) := ggX7_init_X1_init
set_option maxRecDepth 20000 in
theorem ggX7_init_X0_init : GoodIn wsX7_init wsX0_init := goodIn_r _ [53, 54, 2, 3, 36, 55, 56, 182, 183, 184, 185] (by decide +kernel) (by decide +kernel)
set_option maxRecDepth 20000 in
theorem gX7_init_X0_init_n32 : GoodIn wsX7_init (wsX0_init) := ggX7_init_X0_init
set_option maxRecDepth 20000 in
theorem ggX7_init_X2_init : GoodIn wsX7_init wsX2_init := goodIn_r _ [58, 59, 2, 3, 36, 60, 61, 62, 63, 186, 187, 188, 189, 190] (by decide +kernel) (by decide +kernel)
set_option maxRecDepth 20000 in
theorem gX7_init_X2_init_n39 : GoodIn wsX7_init (wsX2_init) := ggX7_init_X2_init
set_option maxRecDepth 20000 in
theorem ggX7_init_X6_init : GoodIn wsX7_init wsX6_init := goodIn_r _ [66, 67, 2, 3, 36, 68, 69, 70, 71, 72, 73, 191, 192, 193, 194, 195, 196] (by decide +kernel) (by decide +kernel)
set_option maxRecDepth 20000 in
theorem gX7_init_X6_init : GoodIn wsX7_init (wsX6_init) := ggX7_init_X6_init
set_option maxRecDepth 20000 in
theorem ggX7_init_X3_init : GoodIn wsX7_init wsX3_init := goodIn_r _ [75, 76, 2, 3, 36, 77, 197, 198, 199] (by decide +kernel) (by decide +kernel)
set_option maxRecDepth 20000 in
theorem gX7_init_X3_init_n58 : GoodIn wsX7_init (wsX3_init) := ggX7_init_X3_init
set_option maxRecDepth 20000 in
theorem ggX7_init_X4_make : GoodIn wsX7_init wsX4_make := goodIn_r _ [81, 82, 83, 84, 85, 86, 87, 10, 88, 44, 89, 90, 91, 6, 92, 93, 94, 95, 96, 37, 97, 98, 99, 100, 101, 102, 103, 104, 105, 38, 106, 107, 108, 109, 110, 111, 112, 113, 39, 114, 115, 116, 117, 118, 119, 120, 121, 122, 123, 124, 125, 126, 45, 127, 128, 129, 130, 131, 132, 133, 134, 135, 136, 137, 138, 139, 140, 141, 142, 46, 143, 144, 145, 146, 147, 148, 149, 150, 151, 152, 153, 154, 155, 156, 157, 158, 159, 172, 173, 174, 175, 176, 177, 178, 160, 161, 162, 163] (by decide +kernel) (by decide +kernel)
set_option maxRecDepth 20000 in
theorem gX7_init_X4_make : GoodIn wsX7_init (wsV RX7 63 RX4 yX4_make wsX4_make) := goodIn_app (goodIn_of _ (by decide +kernel)) ggX7_init_X4_make
theorem dX7_init_0 : decode cX7_init 0 = .ok (.aload_n 0, 1) := by decide +kernel
theorem dX7_init_1 : decode cX7_init 1 = .ok (.invokespecial 1, 3) := by decide +kernel
theorem dX7_init_4 : decode cX7_init 4 = .ok (.aload_n 0, 1) := by decide +kernel
theorem dX7_init_5 : decode cX7_init 5 = .ok (.new 7, 3) := by decide +kernel
theorem dX7_init_8 : decode cX7_init 8 = .ok (.dup, 1) := by decide +kernel
theorem dX7_init_9 : decode cX7_init 9 = .ok (.invokespecial 9, 3) := by decide +kernel
theorem dX7_init_12 : decode cX7_init 12 = .ok (.putfield 10, 3) := by decide +kernel
theorem dX7_init_15 : decode cX7_init 15 = .ok (.aload_n 0, 1) := by decide +kernel
theorem dX7_init_16 : decode cX7_init 16 = .ok (.new 16, 3) := by decide +kernel
theorem dX7_init_19 : decode cX7_init 19 = .ok (.dup, 1) := by decide +kernel
theorem dX7_init_20 : decode cX7_init 20 = .ok (.invokespecial 18, 3) := by decide +kernel
theorem dX7_init_23 : decode cX7_init 23 = .ok (.putfield 19, 3) := by decide +kernel
theorem dX7_init_26 : decode cX7_init 26 = .ok (.aload_n 0, 1) := by decide +kernel
theorem dX7_init_27 : decode cX7_init 27 = .ok (.new 23, 3) := by decide +kernel
theorem dX7_init_30 : decode cX7_init 30 = .ok (.dup, 1) := by decide +kernel
theorem dX7_init_31 : decode cX7_init 31 = .ok (.invokespecial 25, 3) := by decide +kernel
theorem dX7_init_34 : decode cX7_init 34 = .ok (.putfield 26, 3) := by decide +kernel
theorem dX7_init_37 : decode cX7_init 37 = .ok (.aload_n 0, 1) := by decide +kernel
theorem dX7_init_38 : decode cX7_init 38 = .ok (.new 30, 3) := by decide +kernel
theorem dX7_init_41 : decode cX7_init 41 = .ok (.dup, 1) := by decide +kernel
theorem dX7_init_42 : decode cX7_init 42 = .ok (.invokespecial 32, 3) := by decide +kernel
theorem dX7_init_45 : decode cX7_init 45 = .ok (.putfield 33, 3) := by decide +kernel
theorem dX7_init_48 : decode cX7_init 48 = .ok (.aload_n 0, 1) := by decide +kernel
theorem dX7_init_49 : decode cX7_init 49 = .ok (.new 37, 3) := by decide +kernel
theorem dX7_init_52 : decode cX7_init 52 = .ok (.dup, 1) := by decide +kernel
theorem dX7_init_53 : decode cX7_init 53 = .ok (.invokespecial 39, 3) := by decide +kernel
theorem dX7_init_56 : decode cX7_init 56 = .ok (.putfield 40, 3) := by decide +kernel
theorem dX7_init_59 : decode cX7_init 59 = .ok (.aload_n 0, 1) := by decide +kernel
theorem dX7_init_60 : decode cX7_init 60 = .ok (.new 44, 3) := by decide +kernel
theorem dX7_init_63 : decode cX7_init 63 = .ok (.dup, 1) := by decide +kernel
theorem dX7_init_64 : decode cX7_init 64 = .ok (.aload_n 0, 1) := by decide +kernel
theorem dX7_init_65 : decode cX7_init 65 = .ok (.getfield 10, 3) := by decide +kernel
theorem dX7_init_68 : decode cX7_init 68 = .ok (.aload_n 0, 1) := by decide +kernel
theorem dX7_init_69 : decode cX7_init 69 = .ok (.getfield 19, 3) := by decide +kernel
theorem dX7_init_72 : decode cX7_init 72 = .ok (.aload_n 0, 1) := by decide +kernel
theorem dX7_init_73 : decode cX7_init 73 = .ok (.getfield 26, 3) := by decide +kernel
theorem dX7_init_76 : decode cX7_init 76 = .ok (.aload_n 0, 1) := by decide +kernel
theorem dX7_init_77 : decode cX7_init 77 = .ok (.getfield 33, 3) := by decide +kernel
theorem dX7_init_80 : decode cX7_init 80 = .ok (.invokespecial 46, 3) := by decide +kernel
theorem dX7_init_83 : decode cX7_init 83 = .ok (.putfield 49, 3) := by decide +kernel
theorem dX7_init_86 : decode cX7_init 86 = .ok (.aload_n 0, 1) := by decide +kernel
theorem dX7_init_87 : decode cX7_init 87 = .ok (.new 44, 3) := by decide +kernel
theorem dX7_init_90 : decode cX7_init 90 = .ok (.dup, 1) := by decide +kernel
theorem dX7_init_91 : decode cX7_init 91 = .ok (.aload_n 0, 1) := by decide +kernel
theorem dX7_init_92 : decode cX7_init 92 = .ok (.getfield 10, 3) := by decide +kernel
theorem dX7_init_95 : decode cX7_init 95 = .ok (.aload_n 0, 1) := by decide +kernel
theorem dX7_init_96 : decode cX7_init 96 = .ok (.getfield 19, 3) := by decide +kernel
theorem dX7_init_99 : decode cX7_init 99 = .ok (.aload_n 0, 1) := by decide +kernel
theorem dX7_init_100 : decode cX7_init 100 = .ok (.getfield 26, 3) := by decide +kernel
theorem dX7_init_103 : decode cX7_init 103 = .ok (.aload_n 0, 1) := by decide +kernel
theorem dX7_init_104 : decode cX7_init 104 = .ok (.getfield 33, 3) := by decide +kernel
theorem dX7_init_107 : decode cX7_init 107 = .ok (.invokespecial 46, 3) := by decide +kernel
theorem dX7_init_110 : decode cX7_init 110 = .ok (.putfield 53, 3) := by decide +kernel
theorem dX7_init_113 : decode cX7_init 113 = .ok (.aload_n 0, 1) := by decide +kernel
theorem dX7_init_114 : decode cX7_init 114 = .ok (.new 56, 3) := by decide +kernel
theorem dX7_init_117 : decode cX7_init 117 = .ok (.dup, 1) := by decide +kernel
theorem dX7_init_118 : decode cX7_init 118 = .ok (.invokespecial 58, 3) := by decide +kernel
theorem dX7_init_121 : decode cX7_init 121 = .ok (.putfield 59, 3) := by decide +kernel
theorem dX7_init_124 : decode cX7_init 124 = .ok (.aload_n 0, 1) := by decide +kernel
theorem dX7_init_125 : decode cX7_init 125 = .ok (.getfield 19, 3) := by decide +kernel
theorem dX7_init_128 : decode cX7_init 128 = .ok (.aload_n 0, 1) := by decide +kernel
theorem dX7_init_129 : decode cX7_init 129 = .ok (.getfield 10, 3) := by decide +kernel
theorem dX7_init_132 : decode cX7_init 132 = .ok (.invokevirtual 63, 3) := by decide +kernel
theorem dX7_init_135 : decode cX7_init 135 = .ok (.pop, 1) := by decide +kernel
theorem dX7_init_136 : decode cX7_init 136 = .ok (.return_, 1) := by decide +kernel
set_option maxRecDepth 20000 in
theorem ggX7_define_X7_checkLine : GoodIn wsX7_define wsX7_checkLine := goodIn_ca (goodIn_r _ [8, 9, 10, 7, 11, 12, 13, 14, 15, 16] (by decide +kernel) (by decide +kernel)) (goodIn_sub (fun _ h => List.mem_cons_of_mem _ (List.mem_append_left _ (List.mem_append_right _ h))) (by decide +kernel))
set_option maxRecDepth 20000 in
theorem gX7_define_X7_checkLine : GoodIn wsX7_define (va_wsS RX7 67 yX7_checkLine wsX7_checkLine) := goodIn_app (goodIn_of _ (by decide +kernel)) ggX7_define_X7_checkLine
set_option maxRecDepth 20000 in
theorem ggX7_define_X7_isWithin : GoodIn wsX7_define wsX7_isWithin := goodIn_r _ [11] (by decide +kernel) (by decide +kernel)
set_option maxRecDepth 20000 in
theorem gX7_define_X7_isWithin : GoodIn wsX7_define (va_wsS RX7 71 yX7_isWithin wsX7_isWithin) := goodIn_app (goodIn_of _ (by decide +kernel)) ggX7_define_X7_isWithin
set_option maxRecDepth 20000 in
theorem ggX7_define_X7_takesFirst : GoodIn wsX7_define wsX7_takesFirst := goodIn_r _ [19] (by decide +kernel) (by decide +kernel)
set_option maxRecDepth 20000 in
theorem gX7_define_X7_takesFirst : GoodIn wsX7_define (va_wsS RX7 75 yX7_takesFirst wsX7_takesFirst) := goodIn_app (goodIn_of _ (by decide +kernel)) ggX7_define_X7_takesFirst
set_option maxRecDepth 20000 in
theorem ggX7_define_X7_takesSecond : GoodIn wsX7_define wsX7_takesSecond := goodIn_r _ [22] (by decide +kernel) (by decide +kernel)
set_option maxRecDepth 20000 in
theorem gX7_define_X7_takesSecond : GoodIn wsX7_define (va_wsS RX7 79 yX7_takesSecond wsX7_takesSecond) := goodIn_app (goodIn_of _ (by decide +kernel)) ggX7_define_X7_takesSecond
set_option maxRecDepth 20000 in
theorem ggX7_define_X7_checkArgument : GoodIn wsX7_define wsX7_checkArgument := goodIn_ca (goodIn_r _ [25, 26, 27] (by decide +kernel) (by decide +kernel)) (goodIn_sub (fun _ h => List.mem_cons_of_mem _ (List.mem_append_right _ h)) (by decide +kernel))
set_option maxRecDepth 20000 in
theorem gX7_define_X7_checkArgument : GoodIn wsX7_define (va_wsS RX7 82 yX7_checkArgument wsX7_checkArgument) := goodIn_app (goodIn_of _ (by decide +kernel)) ggX7_define_X7_checkArgument
set_option maxRecDepth 20000 in
theorem ggX7_define_X5_kind : GoodIn wsX7_define wsX5_kind := goodIn_r _ [32, 33, 34, 7, 35, 128, 129, 130, 131] (by decide +kernel) (by decide +kernel)
set_option maxRecDepth 20000 in
theorem gX7_define_X5_kind : GoodIn wsX7_define (wsV RX7 86 RX5 yX5_kind wsX5_kind) := goodIn_app (goodIn_of _ (by decide +kernel)) ggX7_define_X5_kind
set_option maxRecDepth 20000 in
theorem ggX7_define_X5_first : GoodIn wsX7_define wsX5_first := goodIn_r _ [39, 40, 34, 7, 35, 128, 129, 130, 131] (by decide +kernel) (by decide +kernel)
set_option maxRecDepth 20000 in
theorem gX7_define_X5_first : GoodIn wsX7_define (wsV RX7 90 RX5 yX5_first wsX5_first) := goodIn_app (goodIn_of _ (by decide +kernel)) ggX7_define_X5_first
set_option maxRecDepth 20000 in
theorem ggX7_define_X5_second : GoodIn wsX7_define wsX5_second := goodIn_r _ [44, 45, 34, 7, 35, 128, 129, 130, 131] (by decide +kernel) (by decide +kernel)
set_option maxRecDepth 20000 in
theorem gX7_define_X5_second : GoodIn wsX7_define (wsV RX7 93 RX5 yX5_second wsX5_second) := goodIn_app (goodIn_of _ (by decide +kernel)) ggX7_define_X5_second
set_option maxRecDepth 20000 in
theorem ggX7_define_X5_set : GoodIn wsX7_define wsX5_set := goodIn_r _ [49, 33, 40, 45, 50, 7, 51, 128, 129, 130, 131] (by decide +kernel) (by decide +kernel)
set_option maxRecDepth 20000 in
theorem gX7_define_X5_set : GoodIn wsX7_define (wsV RX7 96 RX5 yX5_set wsX5_set) := goodIn_app (goodIn_of _ (by decide +kernel)) ggX7_define_X5_set
set_option maxRecDepth 20000 in
theorem ggX7_define_X4_make : GoodIn wsX7_define wsX4_make := goodIn_r _ [56, 57, 58, 59, 60, 61, 62, 55, 63, 64, 65, 66, 67, 31, 68, 69, 29, 30, 32, 33, 34, 7, 35, 18, 19, 70, 37, 38, 39, 40, 71, 72, 21, 22, 73, 42, 43, 44, 45, 50, 51, 74, 75, 76, 77, 78, 79, 80, 81, 82, 83, 84, 85, 86, 87, 88, 89, 90, 91, 92, 93, 94, 95, 96, 97, 98, 99, 100, 101, 102, 103, 104, 105, 106, 107, 108, 109, 110, 111, 112, 113, 114, 115, 116, 117, 118, 119, 132, 133, 134, 135, 136, 137, 138, 128, 129, 130, 131] (by decide +kernel) (by decide +kernel)
set_option maxRecDepth 20000 in
theorem gX7_define_X4_make : GoodIn wsX7_define (wsV RX7 63 RX4 yX4_make wsX4_make) := goodIn_app (goodIn_of _ (by decide +kernel)) ggX7_define_X4_make
theorem dX7_define_0 : decode cX7_define 0 = .ok (.iload_n 1, 1) := by decide +kernel
theorem dX7_define_1 : decode cX7_define 1 = .ok (.invokestatic 67, 3) := by decide +kernel
theorem dX7_define_4 : decode cX7_define 4 = .ok (.iload_n 2, 1) := by decide +kernel
theorem dX7_define_5 : decode cX7_define 5 = .ok (.iconst 0, 1) := by decide +kernel
theorem dX7_define_6 : decode cX7_define 6 = .ok (.bipush 8, 2) := by decide +kernel
theorem dX7_define_8 : decode cX7_define 8 = .ok (.invokestatic 71, 3) := by decide +kernel
theorem dX7_define_11 : decode cX7_define 11 = .ok (.istore 5, 2) := by decide +kernel
theorem dX7_define_13 : decode cX7_define 13 = .ok (.iload 5, 2) := by decide +kernel
theorem dX7_define_15 : decode cX7_define 15 = .ok (.ifCond .eq 14, 3) := by decide +kernel
theorem dX7_define_18 : decode cX7_define 18 = .ok (.iload_n 2, 1) := by decide +kernel
theorem dX7_define_19 : decode cX7_define 19 = .ok (.invokestatic 75, 3) := by decide +kernel
theorem dX7_define_22 : decode cX7_define 22 = .ok (.ifCond .eq 7, 3) := by decide +kernel
theorem dX7_define_25 : decode cX7_define 25 = .ok (.iload_n 3, 1) := by decide +kernel
theorem dX7_define_26 : decode cX7_define 26 = .ok (.invokestatic 67, 3) := by decide +kernel
theorem dX7_define_29 : decode cX7_define 29 = .ok (.iload 5, 2) := by decide +kernel
theorem dX7_define_31 : decode cX7_define 31 = .ok (.ifCond .eq 15, 3) := by decide +kernel
theorem dX7_define_34 : decode cX7_define 34 = .ok (.iload_n 2, 1) := by decide +kernel
theorem dX7_define_35 : decode cX7_define 35 = .ok (.invokestatic 79, 3) := by decide +kernel
theorem dX7_define_38 : decode cX7_define 38 = .ok (.ifCond .eq 8, 3) := by decide +kernel
theorem dX7_define_41 : decode cX7_define 41 = .ok (.iload 4, 2) := by decide +kernel
theorem dX7_define_43 : decode cX7_define 43 = .ok (.invokestatic 67, 3) := by decide +kernel
theorem dX7_define_46 : decode cX7_define 46 = .ok (.iload 5, 2) := by decide +kernel
theorem dX7_define_48 : decode cX7_define 48 = .ok (.ifCond .eq 24, 3) := by decide +kernel
theorem dX7_define_51 : decode cX7_define 51 = .ok (.iload_n 2, 1) := by decide +kernel
theorem dX7_define_52 : decode cX7_define 52 = .ok (.iconst 3, 1) := by decide +kernel
theorem dX7_define_53 : decode cX7_define 53 = .ok (.if_icmp .ne 15, 3) := by decide +kernel
theorem dX7_define_56 : decode cX7_define 56 = .ok (.iload 4, 2) := by decide +kernel
theorem dX7_define_58 : decode cX7_define 58 = .ok (.iconst 0, 1) := by decide +kernel
theorem dX7_define_59 : decode cX7_define 59 = .ok (.sipush 1000, 3) := by decide +kernel
theorem dX7_define_62 : decode cX7_define 62 = .ok (.invokestatic 71, 3) := by decide +kernel
theorem dX7_define_65 : decode cX7_define 65 = .ok (.ifCond .eq 7, 3) := by decide +kernel
theorem dX7_define_68 : decode cX7_define 68 = .ok (.iconst 1, 1) := by decide +kernel
theorem dX7_define_69 : decode cX7_define 69 = .ok (.goto 4, 3) := by decide +kernel
theorem dX7_define_72 : decode cX7_define 72 = .ok (.iconst 0, 1) := by decide +kernel
theorem dX7_define_73 : decode cX7_define 73 = .ok (.invokestatic 82, 3) := by decide +kernel
theorem dX7_define_76 : decode cX7_define 76 = .ok (.aload_n 0, 1) := by decide +kernel
theorem dX7_define_77 : decode cX7_define 77 = .ok (.getfield 10, 3) := by decide +kernel
theorem dX7_define_80 : decode cX7_define 80 = .ok (.iload_n 1, 1) := by decide +kernel
theorem dX7_define_81 : decode cX7_define 81 = .ok (.invokevirtual 86, 3) := by decide +kernel
theorem dX7_define_84 : decode cX7_define 84 = .ok (.istore 6, 2) := by decide +kernel
theorem dX7_define_86 : decode cX7_define 86 = .ok (.aload_n 0, 1) := by decide +kernel
theorem dX7_define_87 : decode cX7_define 87 = .ok (.getfield 10, 3) := by decide +kernel
theorem dX7_define_90 : decode cX7_define 90 = .ok (.iload_n 1, 1) := by decide +kernel
theorem dX7_define_91 : decode cX7_define 91 = .ok (.invokevirtual 90, 3) := by decide +kernel
theorem dX7_define_94 : decode cX7_define 94 = .ok (.istore 7, 2) := by decide +kernel
theorem dX7_define_96 : decode cX7_define 96 = .ok (.aload_n 0, 1) := by decide +kernel
theorem dX7_define_97 : decode cX7_define 97 = .ok (.getfield 10, 3) := by decide +kernel
theorem dX7_define_100 : decode cX7_define 100 = .ok (.iload_n 1, 1) := by decide +kernel
theorem dX7_define_101 : decode cX7_define 101 = .ok (.invokevirtual 93, 3) := by decide +kernel
theorem dX7_define_104 : decode cX7_define 104 = .ok (.istore 8, 2) := by decide +kernel
theorem dX7_define_106 : decode cX7_define 106 = .ok (.aload_n 0, 1) := by decide +kernel
theorem dX7_define_107 : decode cX7_define 107 = .ok (.getfield 10, 3) := by decide +kernel
theorem dX7_define_110 : decode cX7_define 110 = .ok (.iload_n 1, 1) := by decide +kernel
theorem dX7_define_111 : decode cX7_define 111 = .ok (.iload_n 2, 1) := by decide +kernel
theorem dX7_define_112 : decode cX7_define 112 = .ok (.iload_n 3, 1) := by decide +kernel
theorem dX7_define_113 : decode cX7_define 113 = .ok (.iload 4, 2) := by decide +kernel
theorem dX7_define_115 : decode cX7_define 115 = .ok (.invokevirtual 96, 3) := by decide +kernel
theorem dX7_define_118 : decode cX7_define 118 = .ok (.aload_n 0, 1) := by decide +kernel
theorem dX7_define_119 : decode cX7_define 119 = .ok (.getfield 19, 3) := by decide +kernel
theorem dX7_define_122 : decode cX7_define 122 = .ok (.aload_n 0, 1) := by decide +kernel
theorem dX7_define_123 : decode cX7_define 123 = .ok (.getfield 10, 3) := by decide +kernel
theorem dX7_define_126 : decode cX7_define 126 = .ok (.invokevirtual 63, 3) := by decide +kernel
theorem dX7_define_129 : decode cX7_define 129 = .ok (.ifCond .ne 37, 3) := by decide +kernel
theorem dX7_define_132 : decode cX7_define 132 = .ok (.aload_n 0, 1) := by decide +kernel
theorem dX7_define_133 : decode cX7_define 133 = .ok (.getfield 10, 3) := by decide +kernel
theorem dX7_define_136 : decode cX7_define 136 = .ok (.iload_n 1, 1) := by decide +kernel
theorem dX7_define_137 : decode cX7_define 137 = .ok (.iload 6, 2) := by decide +kernel
theorem dX7_define_139 : decode cX7_define 139 = .ok (.iload 7, 2) := by decide +kernel
theorem dX7_define_141 : decode cX7_define 141 = .ok (.iload 8, 2) := by decide +kernel
theorem dX7_define_143 : decode cX7_define 143 = .ok (.invokevirtual 96, 3) := by decide +kernel
theorem dX7_define_146 : decode cX7_define 146 = .ok (.aload_n 0, 1) := by decide +kernel
theorem dX7_define_147 : decode cX7_define 147 = .ok (.getfield 19, 3) := by decide +kernel
theorem dX7_define_150 : decode cX7_define 150 = .ok (.aload_n 0, 1) := by decide +kernel
theorem dX7_define_151 : decode cX7_define 151 = .ok (.getfield 10, 3) := by decide +kernel
theorem dX7_define_154 : decode cX7_define 154 = .ok (.invokevirtual 63, 3) := by decide +kernel
theorem dX7_define_157 : decode cX7_define 157 = .ok (.pop, 1) := by decide +kernel
theorem dX7_define_158 : decode cX7_define 158 = .ok (.new 100, 3) := by decide +kernel
theorem dX7_define_161 : decode cX7_define 161 = .ok (.dup, 1) := by decide +kernel
theorem dX7_define_162 : decode cX7_define 162 = .ok (.invokespecial 102, 3) := by decide +kernel
theorem dX7_define_165 : decode cX7_define 165 = .ok (.athrow, 1) := by decide +kernel
theorem dX7_define_166 : decode cX7_define 166 = .ok (.return_, 1) := by decide +kernel
set_option maxRecDepth 20000 in
theorem ggX7_answer_X7_checkLine : GoodIn wsX7_answer wsX7_checkLine := goodIn_ca (goodIn_r _ [6, 7, 8, 5, 9, 10, 11, 12, 13, 14] (by decide +kernel) (by decide +kernel)) (goodIn_sub (fun _ h => List.mem_cons_of_mem _ (List.mem_append_left _ (List.mem_append_right _ h))) (by decide +kernel))
set_option maxRecDepth 20000 in
theorem gX7_answer_X7_checkLine : GoodIn wsX7_answer (va_wsS RX7 67 yX7_checkLine wsX7_checkLine) := goodIn_app (goodIn_of _ (by decide +kernel)) ggX7_answer_X7_checkLine
set_option maxRecDepth 20000 in
theorem ggX7_answer_X7_isWithin : GoodIn wsX7_answer wsX7_isWithin := goodIn_r _ [9] (by decide +kernel) (by decide +kernel)
set_option maxRecDepth 20000 in
theorem gX7_answer_X7_isWithin : GoodIn wsX7_answer (va_wsS RX7 71 yX7_isWithin wsX7_isWithin) := goodIn_app (goodIn_of _ (by decide +kernel)) ggX7_answer_X7_isWithin
set_option maxRecDepth 20000 in
theorem ggX7_answer_X7_checkArgument : GoodIn wsX7_answer wsX7_checkArgument := goodIn_ca (goodIn_r _ [17, 18, 19] (by decide +kernel) (by decide +kernel)) (goodIn_sub (fun _ h => List.mem_cons_of_mem _ (List.mem_append_right _ h)) (by decide +kernel))
set_option maxRecDepth 20000 in
theorem gX7_answer_X7_checkArgument : GoodIn wsX7_answer (va_wsS RX7 82 yX7_checkArgument wsX7_checkArgument) := goodIn_app (goodIn_of _ (by decide +kernel)) ggX7_answer_X7_checkArgument
set_option maxRecDepth 20000 in
theorem ggX7_answer_X5_given : GoodIn wsX7_answer wsX5_given := goodIn_r _ [24, 25, 26, 5, 27, 42, 43, 44, 45] (by decide +kernel) (by decide +kernel)
set_option maxRecDepth 20000 in
theorem gX7_answer_X5_given : GoodIn wsX7_answer (wsV RX7 104 RX5 yX5_given wsX5_given) := goodIn_app (goodIn_of _ (by decide +kernel)) ggX7_answer_X5_given
set_option maxRecDepth 20000 in
theorem ggX7_answer_X5_give : GoodIn wsX7_answer wsX5_give := goodIn_r _ [31, 25, 32, 5, 33, 42, 43, 44, 45] (by decide +kernel) (by decide +kernel)
set_option maxRecDepth 20000 in
theorem gX7_answer_X5_give : GoodIn wsX7_answer (wsV RX7 107 RX5 yX5_give wsX5_give) := goodIn_app (goodIn_of _ (by decide +kernel)) ggX7_answer_X5_give
theorem dX7_answer_0 : decode cX7_answer 0 = .ok (.iload_n 1, 1) := by decide +kernel
theorem dX7_answer_1 : decode cX7_answer 1 = .ok (.invokestatic 67, 3) := by decide +kernel
theorem dX7_answer_4 : decode cX7_answer 4 = .ok (.iload_n 2, 1) := by decide +kernel
theorem dX7_answer_5 : decode cX7_answer 5 = .ok (.iconst 0, 1) := by decide +kernel
theorem dX7_answer_6 : decode cX7_answer 6 = .ok (.ldc 103, 2) := by decide +kernel
theorem dX7_answer_8 : decode cX7_answer 8 = .ok (.invokestatic 71, 3) := by decide +kernel
theorem dX7_answer_11 : decode cX7_answer 11 = .ok (.invokestatic 82, 3) := by decide +kernel
theorem dX7_answer_14 : decode cX7_answer 14 = .ok (.aload_n 0, 1) := by decide +kernel
theorem dX7_answer_15 : decode cX7_answer 15 = .ok (.getfield 10, 3) := by decide +kernel
theorem dX7_answer_18 : decode cX7_answer 18 = .ok (.iload_n 1, 1) := by decide +kernel
theorem dX7_answer_19 : decode cX7_answer 19 = .ok (.invokevirtual 104, 3) := by decide +kernel
theorem dX7_answer_22 : decode cX7_answer 22 = .ok (.istore_n 3, 1) := by decide +kernel
theorem dX7_answer_23 : decode cX7_answer 23 = .ok (.aload_n 0, 1) := by decide +kernel
theorem dX7_answer_24 : decode cX7_answer 24 = .ok (.getfield 10, 3) := by decide +kernel
theorem dX7_answer_27 : decode cX7_answer 27 = .ok (.iload_n 1, 1) := by decide +kernel
theorem dX7_answer_28 : decode cX7_answer 28 = .ok (.iload_n 2, 1) := by decide +kernel
theorem dX7_answer_29 : decode cX7_answer 29 = .ok (.invokevirtual 107, 3) := by decide +kernel
theorem dX7_answer_32 : decode cX7_answer 32 = .ok (.iload_n 3, 1) := by decide +kernel
theorem dX7_answer_33 : decode cX7_answer 33 = .ok (.ireturn, 1) := by decide +kernel
set_option maxRecDepth 20000 in
theorem ggX7_kindOf_X7_checkLine : GoodIn wsX7_kindOf wsX7_checkLine := goodIn_ca (goodIn_r _ [5, 6, 7, 4, 8, 9, 10, 11, 12, 13] (by decide +kernel) (by decide +kernel)) (goodIn_sub (fun _ h => List.mem_cons_of_mem _ (List.mem_append_right _ h)) (by decide +kernel))
set_option maxRecDepth 20000 in
theorem gX7_kindOf_X7_checkLine : GoodIn wsX7_kindOf (va_wsS RX7 67 yX7_checkLine wsX7_checkLine) := goodIn_app (goodIn_of _ (by decide +kernel)) ggX7_kindOf_X7_checkLine
set_option maxRecDepth 20000 in
theorem ggX7_kindOf_X5_kind : GoodIn wsX7_kindOf wsX5_kind := goodIn_r _ [18, 19, 20, 4, 21, 30, 31, 32, 33] (by decide +kernel) (by decide +kernel)
set_option maxRecDepth 20000 in
theorem gX7_kindOf_X5_kind : GoodIn wsX7_kindOf (wsV RX7 86 RX5 yX5_kind wsX5_kind) := goodIn_app (goodIn_of _ (by decide +kernel)) ggX7_kindOf_X5_kind
theorem dX7_kindOf_0 : decode cX7_kindOf 0 = .ok (.iload_n 1, 1) := by decide +kernel
theorem dX7_kindOf_1 : decode cX7_kindOf 1 = .ok (.invokestatic 67, 3) := by decide +kernel
theorem dX7_kindOf_4 : decode cX7_kindOf 4 = .ok (.aload_n 0, 1) := by decide +kernel
theorem dX7_kindOf_5 : decode cX7_kindOf 5 = .ok (.getfield 10, 3) := by decide +kernel
theorem dX7_kindOf_8 : decode cX7_kindOf 8 = .ok (.iload_n 1, 1) := by decide +kernel
theorem dX7_kindOf_9 : decode cX7_kindOf 9 = .ok (.invokevirtual 86, 3) := by decide +kernel
theorem dX7_kindOf_12 : decode cX7_kindOf 12 = .ok (.ireturn, 1) := by decide +kernel
set_option maxRecDepth 20000 in
theorem ggX7_value_X7_checkLine : GoodIn wsX7_value wsX7_checkLine := goodIn_ca (goodIn_r _ [5, 6, 7, 4, 8, 9, 10, 11, 12, 13] (by decide +kernel) (by decide +kernel)) (goodIn_sub (fun _ h => List.mem_cons_of_mem _ (List.mem_append_right _ h)) (by decide +kernel))
set_option maxRecDepth 20000 in
theorem gX7_value_X7_checkLine : GoodIn wsX7_value (va_wsS RX7 67 yX7_checkLine wsX7_checkLine) := goodIn_app (goodIn_of _ (by decide +kernel)) ggX7_value_X7_checkLine
set_option maxRecDepth 20000 in
theorem ggX7_value_X6_workOut : GoodIn wsX7_value wsX6_workOut := goodIn_r _ [18, 19, 20, 21, 22, 23, 24, 25, 26, 27, 28, 29, 4, 30, 31, 32, 33, 34, 35, 36, 37, 38, 39, 40, 41, 42, 43, 44, 45, 46, 47, 48, 49, 50, 51, 52, 53, 17, 54, 55, 56, 57, 58, 59, 60, 61, 62, 63, 64, 65, 66, 67, 68, 69, 70, 71, 72, 73, 74, 75, 76, 77, 78, 79, 80, 81, 82, 83, 84, 85, 86, 87, 88, 89, 90, 91, 92, 93, 94, 95, 96, 97, 98, 99, 100, 101, 102, 103, 104, 105, 106, 107, 108, 109, 110, 111, 112, 113, 114, 115, 116, 117, 118, 119, 120, 121, 122, 123, 124, 125, 126, 127, 128, 129, 139, 140, 141, 142, 143, 144, 145, 146, 147, 148, 149, 150, 151, 152, 153, 154, 155, 156, 157, 158, 159, 160, 161, 162] (by decide +kernel) (by decide +kernel)
set_option maxRecDepth 20000 in
theorem gX7_value_X6_workOut : GoodIn wsX7_value (wsV RX7 111 RX6 yX6_workOut wsX6_workOut) := goodIn_app (goodIn_of _ (by decide +kernel)) ggX7_value_X6_workOut
set_option maxRecDepth 20000 in
theorem ggX7_value_X6_of : GoodIn wsX7_value wsX6_of := goodIn_r _ [63, 22, 29, 4, 30, 139, 140, 141, 142, 143, 144] (by decide +kernel) (by decide +kernel)
set_option maxRecDepth 20000 in
theorem gX7_value_X6_of : GoodIn wsX7_value (wsV RX7 114 RX6 yX6_of wsX6_of) := goodIn_app (goodIn_of _ (by decide +kernel)) ggX7_value_X6_of
theorem dX7_value_0 : decode cX7_value 0 = .ok (.iload_n 1, 1) := by decide +kernel
theorem dX7_value_1 : decode cX7_value 1 = .ok (.invokestatic 67, 3) := by decide +kernel
theorem dX7_value_4 : decode cX7_value 4 = .ok (.aload_n 0, 1) := by decide +kernel
theorem dX7_value_5 : decode cX7_value 5 = .ok (.getfield 49, 3) := by decide +kernel
theorem dX7_value_8 : decode cX7_value 8 = .ok (.iconst (-1), 1) := by decide +kernel
theorem dX7_value_9 : decode cX7_value 9 = .ok (.invokevirtual 111, 3) := by decide +kernel
theorem dX7_value_12 : decode cX7_value 12 = .ok (.aload_n 0, 1) := by decide +kernel
theorem dX7_value_13 : decode cX7_value 13 = .ok (.getfield 49, 3) := by decide +kernel
theorem dX7_value_16 : decode cX7_value 16 = .ok (.iload_n 1, 1) := by decide +kernel
theorem dX7_value_17 : decode cX7_value 17 = .ok (.invokevirtual 114, 3) := by decide +kernel
theorem dX7_value_20 : decode cX7_value 20 = .ok (.ireturn, 1) := by decide +kernel
set_option maxRecDepth 20000 in
theorem ggX7_boundFor_X7_checkLine : GoodIn wsX7_boundFor wsX7_checkLine := goodIn_ca (goodIn_r _ [8, 9, 10, 7, 11, 12, 13, 14, 15, 16] (by decide +kernel) (by decide +kernel)) (goodIn_sub (fun _ h => List.mem_cons_of_mem _ (List.mem_append_left _ (List.mem_append_left _ (List.mem_append_right _ h)))) (by decide +kernel))
set_option maxRecDepth 20000 in
theorem gX7_boundFor_X7_checkLine : GoodIn wsX7_boundFor (va_wsS RX7 67 yX7_checkLine wsX7_checkLine) := goodIn_app (goodIn_of _ (by decide +kernel)) ggX7_boundFor_X7_checkLine
set_option maxRecDepth 20000 in
theorem ggX7_boundFor_X7_isWithin : GoodIn wsX7_boundFor wsX7_isWithin := goodIn_r _ [11] (by decide +kernel) (by decide +kernel)
set_option maxRecDepth 20000 in
theorem gX7_boundFor_X7_isWithin : GoodIn wsX7_boundFor (va_wsS RX7 71 yX7_isWithin wsX7_isWithin) := goodIn_app (goodIn_of _ (by decide +kernel)) ggX7_boundFor_X7_isWithin
set_option maxRecDepth 20000 in
theorem ggX7_boundFor_X7_checkArgument : GoodIn wsX7_boundFor wsX7_checkArgument := goodIn_ca (goodIn_r _ [19, 20, 21] (by decide +kernel) (by decide +kernel)) (goodIn_sub (fun _ h => List.mem_cons_of_mem _ (List.mem_append_left _ (List.mem_append_right _ h))) (by decide +kernel))
set_option maxRecDepth 20000 in
theorem gX7_boundFor_X7_checkArgument : GoodIn wsX7_boundFor (va_wsS RX7 82 yX7_checkArgument wsX7_checkArgument) := goodIn_app (goodIn_of _ (by decide +kernel)) ggX7_boundFor_X7_checkArgument
set_option maxRecDepth 20000 in
theorem ggX7_boundFor_X5_kind : GoodIn wsX7_boundFor wsX5_kind := goodIn_r _ [26, 27, 28, 7, 29, 160, 161, 162, 163] (by decide +kernel) (by decide +kernel)
set_option maxRecDepth 20000 in
theorem gX7_boundFor_X5_kind : GoodIn wsX7_boundFor (wsV RX7 86 RX5 yX5_kind wsX5_kind) := goodIn_app (goodIn_of _ (by decide +kernel)) ggX7_boundFor_X5_kind
set_option maxRecDepth 20000 in
theorem ggX7_boundFor_X7_checkState : GoodIn wsX7_boundFor wsX7_checkState := goodIn_ca (goodIn_r _ [32, 33, 34] (by decide +kernel) (by decide +kernel)) (goodIn_sub (fun _ h => List.mem_cons_of_mem _ (List.mem_append_right _ h)) (by decide +kernel))
set_option maxRecDepth 20000 in
theorem gX7_boundFor_X7_checkState : GoodIn wsX7_boundFor (va_wsS RX7 118 yX7_checkState wsX7_checkState) := goodIn_app (goodIn_of _ (by decide +kernel)) ggX7_boundFor_X7_checkState
set_option maxRecDepth 20000 in
theorem ggX7_boundFor_X6_workOut : GoodIn wsX7_boundFor wsX6_workOut := goodIn_r _ [39, 40, 41, 42, 43, 44, 45, 46, 47, 48, 49, 28, 7, 29, 50, 23, 24, 25, 26, 27, 51, 52, 53, 54, 55, 56, 57, 58, 59, 60, 61, 62, 63, 64, 65, 66, 67, 38, 68, 69, 70, 71, 72, 73, 74, 75, 76, 77, 78, 79, 80, 81, 82, 83, 84, 85, 86, 87, 88, 89, 90, 91, 92, 93, 94, 95, 96, 97, 98, 99, 100, 101, 102, 103, 104, 105, 106, 107, 108, 109, 110, 111, 112, 113, 114, 115, 116, 117, 118, 119, 120, 121, 122, 123, 124, 125, 126, 127, 128, 129, 130, 131, 132, 133, 134, 135, 136, 137, 138, 139, 140, 141, 142, 143, 164, 165, 166, 167, 168, 169, 170, 171, 172, 173, 174, 175, 176, 160, 161, 162, 163, 177, 178, 179, 180, 181, 182, 183] (by decide +kernel) (by decide +kernel)
set_option maxRecDepth 20000 in
theorem gX7_boundFor_X6_workOut : GoodIn wsX7_boundFor (wsV RX7 111 RX6 yX6_workOut wsX6_workOut) := goodIn_app (goodIn_of _ (by decide +kernel)) ggX7_boundFor_X6_workOut
set_option maxRecDepth 20000 in
theorem ggX7_boundFor_X4_placeOf : GoodIn wsX7_boundFor wsX4_placeOf := goodIn_r _ [147, 148, 45, 46, 47, 48, 49, 28, 7, 29, 170, 171, 172, 173, 174, 175, 176] (by decide +kernel) (by decide +kernel)
set_option maxRecDepth 20000 in
theorem gX7_boundFor_X4_placeOf : GoodIn wsX7_boundFor (wsV RX7 121 RX4 yX4_placeOf wsX4_placeOf) := goodIn_app (goodIn_of _ (by decide +kernel)) ggX7_boundFor_X4_placeOf
set_option maxRecDepth 20000 in
theorem ggX7_boundFor_X6_suppose : GoodIn wsX7_boundFor wsX6_suppose := goodIn_r _ [81, 41, 43, 44, 45, 46, 47, 48, 49, 28, 7, 29, 82, 83, 84, 85, 86, 87, 88, 89, 90, 91, 92, 93, 94, 95, 96, 97, 98, 38, 99, 42, 100, 101, 102, 103, 104, 105, 106, 107, 108, 109, 40, 69, 70, 71, 25, 72, 73, 74, 75, 76, 77, 110, 111, 112, 113, 114, 50, 23, 24, 26, 27, 115, 116, 117, 118, 119, 120, 121, 122, 123, 124, 125, 126, 127, 128, 129, 130, 131, 132, 133, 134, 135, 136, 137, 138, 139, 140, 141, 142, 143, 164, 165, 166, 167, 168, 169, 170, 171, 172, 173, 174, 175, 176, 160, 161, 162, 163, 177, 178, 179, 180, 181, 182, 183] (by decide +kernel) (by decide +kernel)
set_option maxRecDepth 20000 in
theorem gX7_boundFor_X6_suppose : GoodIn wsX7_boundFor (wsV RX7 124 RX6 yX6_suppose wsX6_suppose) := goodIn_app (goodIn_of _ (by decide +kernel)) ggX7_boundFor_X6_suppose
set_option maxRecDepth 20000 in
theorem ggX7_boundFor_X5_second : GoodIn wsX7_boundFor wsX5_second := goodIn_r _ [113, 114, 28, 7, 29, 160, 161, 162, 163] (by decide +kernel) (by decide +kernel)
set_option maxRecDepth 20000 in
theorem gX7_boundFor_X5_second : GoodIn wsX7_boundFor (wsV RX7 93 RX5 yX5_second wsX5_second) := goodIn_app (goodIn_of _ (by decide +kernel)) ggX7_boundFor_X5_second
set_option maxRecDepth 20000 in
theorem ggX7_boundFor_X6_of : GoodIn wsX7_boundFor wsX6_of := goodIn_r _ [77, 43, 28, 7, 29, 164, 165, 166, 167, 168, 169] (by decide +kernel) (by decide +kernel)
set_option maxRecDepth 20000 in
theorem gX7_boundFor_X6_of : GoodIn wsX7_boundFor (wsV RX7 114 RX6 yX6_of wsX6_of) := goodIn_app (goodIn_of _ (by decide +kernel)) ggX7_boundFor_X6_of
theorem dX7_boundFor_0 : decode cX7_boundFor 0 = .ok (.iload_n 1, 1) := by decide +kernel
theorem dX7_boundFor_1 : decode cX7_boundFor 1 = .ok (.invokestatic 67, 3) := by decide +kernel
theorem dX7_boundFor_4 : decode cX7_boundFor 4 = .ok (.iload_n 2, 1) := by decide +kernel
theorem dX7_boundFor_5 : decode cX7_boundFor 5 = .ok (.iconst 0, 1) := by decide +kernel
theorem dX7_boundFor_6 : decode cX7_boundFor 6 = .ok (.ldc 117, 2) := by decide +kernel
theorem dX7_boundFor_8 : decode cX7_boundFor 8 = .ok (.invokestatic 71, 3) := by decide +kernel
theorem dX7_boundFor_11 : decode cX7_boundFor 11 = .ok (.invokestatic 82, 3) := by decide +kernel
theorem dX7_boundFor_14 : decode cX7_boundFor 14 = .ok (.aload_n 0, 1) := by decide +kernel
theorem dX7_boundFor_15 : decode cX7_boundFor 15 = .ok (.getfield 10, 3) := by decide +kernel
theorem dX7_boundFor_18 : decode cX7_boundFor 18 = .ok (.iload_n 1, 1) := by decide +kernel
theorem dX7_boundFor_19 : decode cX7_boundFor 19 = .ok (.invokevirtual 86, 3) := by decide +kernel
theorem dX7_boundFor_22 : decode cX7_boundFor 22 = .ok (.bipush 8, 2) := by decide +kernel
theorem dX7_boundFor_24 : decode cX7_boundFor 24 = .ok (.if_icmp .ne 7, 3) := by decide +kernel
theorem dX7_boundFor_27 : decode cX7_boundFor 27 = .ok (.iconst 1, 1) := by decide +kernel
theorem dX7_boundFor_28 : decode cX7_boundFor 28 = .ok (.goto 4, 3) := by decide +kernel
theorem dX7_boundFor_31 : decode cX7_boundFor 31 = .ok (.iconst 0, 1) := by decide +kernel
theorem dX7_boundFor_32 : decode cX7_boundFor 32 = .ok (.invokestatic 118, 3) := by decide +kernel
theorem dX7_boundFor_35 : decode cX7_boundFor 35 = .ok (.aload_n 0, 1) := by decide +kernel
theorem dX7_boundFor_36 : decode cX7_boundFor 36 = .ok (.getfield 49, 3) := by decide +kernel
theorem dX7_boundFor_39 : decode cX7_boundFor 39 = .ok (.iconst (-1), 1) := by decide +kernel
theorem dX7_boundFor_40 : decode cX7_boundFor 40 = .ok (.invokevirtual 111, 3) := by decide +kernel
theorem dX7_boundFor_43 : decode cX7_boundFor 43 = .ok (.aload_n 0, 1) := by decide +kernel
theorem dX7_boundFor_44 : decode cX7_boundFor 44 = .ok (.getfield 49, 3) := by decide +kernel
theorem dX7_boundFor_47 : decode cX7_boundFor 47 = .ok (.aload_n 0, 1) := by decide +kernel
theorem dX7_boundFor_48 : decode cX7_boundFor 48 = .ok (.getfield 19, 3) := by decide +kernel
theorem dX7_boundFor_51 : decode cX7_boundFor 51 = .ok (.iload_n 1, 1) := by decide +kernel
theorem dX7_boundFor_52 : decode cX7_boundFor 52 = .ok (.invokevirtual 121, 3) := by decide +kernel
theorem dX7_boundFor_55 : decode cX7_boundFor 55 = .ok (.iload_n 2, 1) := by decide +kernel
theorem dX7_boundFor_56 : decode cX7_boundFor 56 = .ok (.invokevirtual 124, 3) := by decide +kernel
theorem dX7_boundFor_59 : decode cX7_boundFor 59 = .ok (.aload_n 0, 1) := by decide +kernel
theorem dX7_boundFor_60 : decode cX7_boundFor 60 = .ok (.getfield 49, 3) := by decide +kernel
theorem dX7_boundFor_63 : decode cX7_boundFor 63 = .ok (.aload_n 0, 1) := by decide +kernel
theorem dX7_boundFor_64 : decode cX7_boundFor 64 = .ok (.getfield 10, 3) := by decide +kernel
theorem dX7_boundFor_67 : decode cX7_boundFor 67 = .ok (.iload_n 1, 1) := by decide +kernel
theorem dX7_boundFor_68 : decode cX7_boundFor 68 = .ok (.invokevirtual 93, 3) := by decide +kernel
theorem dX7_boundFor_71 : decode cX7_boundFor 71 = .ok (.invokevirtual 114, 3) := by decide +kernel
theorem dX7_boundFor_74 : decode cX7_boundFor 74 = .ok (.ireturn, 1) := by decide +kernel
set_option maxRecDepth 20000 in
theorem ggX7_dependsOn_X7_checkLine : GoodIn wsX7_dependsOn wsX7_checkLine := goodIn_ca (goodIn_r _ [5, 6, 7, 4, 8, 9, 10, 11, 12, 13] (by decide +kernel) (by decide +kernel)) (goodIn_sub (fun _ h => List.mem_cons_of_mem _ (List.mem_append_right _ h)) (by decide +kernel))
set_option maxRecDepth 20000 in
theorem gX7_dependsOn_X7_checkLine : GoodIn wsX7_dependsOn (va_wsS RX7 67 yX7_checkLine wsX7_checkLine) := goodIn_app (goodIn_of _ (by decide +kernel)) ggX7_dependsOn_X7_checkLine
set_option maxRecDepth 20000 in
theorem ggX7_dependsOn_X4_reach : GoodIn wsX7_dependsOn wsX4_reach := goodIn_r _ [18, 19, 20, 4, 21, 36, 37, 38, 39, 40, 41, 42] (by decide +kernel) (by decide +kernel)
set_option maxRecDepth 20000 in
theorem gX7_dependsOn_X4_reach : GoodIn wsX7_dependsOn (wsV RX7 127 RX4 yX4_reach wsX4_reach) := goodIn_app (goodIn_of _ (by decide +kernel)) ggX7_dependsOn_X4_reach
set_option maxRecDepth 20000 in
theorem ggX7_dependsOn_X7_has : GoodIn wsX7_dependsOn wsX7_has := goodIn_r _ [24, 25, 26, 4, 27] (by decide +kernel) (by decide +kernel)
set_option maxRecDepth 20000 in
theorem gX7_dependsOn_X7_has : GoodIn wsX7_dependsOn (va_wsS RX7 130 yX7_has wsX7_has) := goodIn_app (goodIn_of _ (by decide +kernel)) ggX7_dependsOn_X7_has
theorem dX7_dependsOn_0 : decode cX7_dependsOn 0 = .ok (.iload_n 1, 1) := by decide +kernel
theorem dX7_dependsOn_1 : decode cX7_dependsOn 1 = .ok (.invokestatic 67, 3) := by decide +kernel
theorem dX7_dependsOn_4 : decode cX7_dependsOn 4 = .ok (.iload_n 2, 1) := by decide +kernel
theorem dX7_dependsOn_5 : decode cX7_dependsOn 5 = .ok (.invokestatic 67, 3) := by decide +kernel
theorem dX7_dependsOn_8 : decode cX7_dependsOn 8 = .ok (.aload_n 0, 1) := by decide +kernel
theorem dX7_dependsOn_9 : decode cX7_dependsOn 9 = .ok (.getfield 19, 3) := by decide +kernel
theorem dX7_dependsOn_12 : decode cX7_dependsOn 12 = .ok (.iload_n 1, 1) := by decide +kernel
theorem dX7_dependsOn_13 : decode cX7_dependsOn 13 = .ok (.invokevirtual 127, 3) := by decide +kernel
theorem dX7_dependsOn_16 : decode cX7_dependsOn 16 = .ok (.iload_n 2, 1) := by decide +kernel
theorem dX7_dependsOn_17 : decode cX7_dependsOn 17 = .ok (.invokestatic 130, 3) := by decide +kernel
theorem dX7_dependsOn_20 : decode cX7_dependsOn 20 = .ok (.ireturn, 1) := by decide +kernel
set_option maxRecDepth 20000 in
theorem ggX7_influence_X7_checkLine : GoodIn wsX7_influence wsX7_checkLine := goodIn_ca (goodIn_r _ [7, 8, 9, 6, 10, 11, 12, 13, 14, 15] (by decide +kernel) (by decide +kernel)) (goodIn_sub (fun _ h => List.mem_cons_of_mem _ (List.mem_append_right _ h)) (by decide +kernel))
set_option maxRecDepth 20000 in
theorem gX7_influence_X7_checkLine : GoodIn wsX7_influence (va_wsS RX7 67 yX7_checkLine wsX7_checkLine) := goodIn_app (goodIn_of _ (by decide +kernel)) ggX7_influence_X7_checkLine
set_option maxRecDepth 20000 in
theorem ggX7_influence_X5_kind : GoodIn wsX7_influence wsX5_kind := goodIn_r _ [20, 21, 22, 6, 23, 142, 143, 144, 145] (by decide +kernel) (by decide +kernel)
set_option maxRecDepth 20000 in
theorem gX7_influence_X5_kind : GoodIn wsX7_influence (wsV RX7 86 RX5 yX5_kind wsX5_kind) := goodIn_app (goodIn_of _ (by decide +kernel)) ggX7_influence_X5_kind
set_option maxRecDepth 20000 in
theorem ggX7_influence_X6_workOut : GoodIn wsX7_influence wsX6_workOut := goodIn_r _ [28, 29, 30, 31, 32, 33, 34, 35, 36, 37, 38, 22, 6, 23, 39, 17, 18, 19, 20, 21, 40, 41, 42, 43, 44, 45, 46, 47, 48, 49, 50, 51, 52, 53, 54, 55, 56, 27, 57, 58, 59, 60, 61, 62, 63, 64, 65, 66, 67, 68, 69, 70, 71, 72, 73, 74, 75, 76, 77, 78, 79, 80, 81, 82, 83, 84, 85, 86, 87, 88, 89, 90, 91, 92, 93, 94, 95, 96, 97, 98, 99, 100, 101, 102, 103, 104, 105, 106, 107, 108, 109, 110, 111, 112, 113, 114, 115, 116, 117, 118, 119, 120, 121, 122, 123, 124, 125, 126, 127, 128, 129, 130, 131, 132, 146, 147, 148, 149, 150, 151, 152, 153, 154, 155, 156, 157, 158, 142, 143, 144, 145, 159, 160, 161, 162, 163, 164, 165] (by decide +kernel) (by decide +kernel)
set_option maxRecDepth 20000 in
theorem gX7_influence_X6_workOut : GoodIn wsX7_influence (wsV RX7 111 RX6 yX6_workOut wsX6_workOut) := goodIn_app (goodIn_of _ (by decide +kernel)) ggX7_influence_X6_workOut
set_option maxRecDepth 20000 in
theorem ggX7_influence_X6_of : GoodIn wsX7_influence wsX6_of := goodIn_r _ [66, 32, 22, 6, 23, 146, 147, 148, 149, 150, 151] (by decide +kernel) (by decide +kernel)
set_option maxRecDepth 20000 in
theorem gX7_influence_X6_of : GoodIn wsX7_influence (wsV RX7 114 RX6 yX6_of wsX6_of) := goodIn_app (goodIn_of _ (by decide +kernel)) ggX7_influence_X6_of
theorem dX7_influence_0 : decode cX7_influence 0 = .ok (.iload_n 1, 1) := by decide +kernel
theorem dX7_influence_1 : decode cX7_influence 1 = .ok (.invokestatic 67, 3) := by decide +kernel
theorem dX7_influence_4 : decode cX7_influence 4 = .ok (.aload_n 0, 1) := by decide +kernel
theorem dX7_influence_5 : decode cX7_influence 5 = .ok (.getfield 10, 3) := by decide +kernel
theorem dX7_influence_8 : decode cX7_influence 8 = .ok (.iload_n 1, 1) := by decide +kernel
theorem dX7_influence_9 : decode cX7_influence 9 = .ok (.invokevirtual 86, 3) := by decide +kernel
theorem dX7_influence_12 : decode cX7_influence 12 = .ok (.ifCond .eq 5, 3) := by decide +kernel
theorem dX7_influence_15 : decode cX7_influence 15 = .ok (.iconst 0, 1) := by decide +kernel
theorem dX7_influence_16 : decode cX7_influence 16 = .ok (.ireturn, 1) := by decide +kernel
theorem dX7_influence_17 : decode cX7_influence 17 = .ok (.aload_n 0, 1) := by decide +kernel
theorem dX7_influence_18 : decode cX7_influence 18 = .ok (.getfield 49, 3) := by decide +kernel
theorem dX7_influence_21 : decode cX7_influence 21 = .ok (.iconst (-1), 1) := by decide +kernel
theorem dX7_influence_22 : decode cX7_influence 22 = .ok (.invokevirtual 111, 3) := by decide +kernel
theorem dX7_influence_25 : decode cX7_influence 25 = .ok (.aload_n 0, 1) := by decide +kernel
theorem dX7_influence_26 : decode cX7_influence 26 = .ok (.getfield 53, 3) := by decide +kernel
theorem dX7_influence_29 : decode cX7_influence 29 = .ok (.iload_n 1, 1) := by decide +kernel
theorem dX7_influence_30 : decode cX7_influence 30 = .ok (.invokevirtual 111, 3) := by decide +kernel
theorem dX7_influence_33 : decode cX7_influence 33 = .ok (.iconst 0, 1) := by decide +kernel
theorem dX7_influence_34 : decode cX7_influence 34 = .ok (.istore_n 2, 1) := by decide +kernel
theorem dX7_influence_35 : decode cX7_influence 35 = .ok (.iconst 0, 1) := by decide +kernel
theorem dX7_influence_36 : decode cX7_influence 36 = .ok (.istore_n 3, 1) := by decide +kernel
theorem dX7_influence_37 : decode cX7_influence 37 = .ok (.iload_n 3, 1) := by decide +kernel
theorem dX7_influence_38 : decode cX7_influence 38 = .ok (.bipush 16, 2) := by decide +kernel
theorem dX7_influence_40 : decode cX7_influence 40 = .ok (.if_icmp .ge 31, 3) := by decide +kernel
theorem dX7_influence_43 : decode cX7_influence 43 = .ok (.aload_n 0, 1) := by decide +kernel
theorem dX7_influence_44 : decode cX7_influence 44 = .ok (.getfield 49, 3) := by decide +kernel
theorem dX7_influence_47 : decode cX7_influence 47 = .ok (.iload_n 3, 1) := by decide +kernel
theorem dX7_influence_48 : decode cX7_influence 48 = .ok (.invokevirtual 114, 3) := by decide +kernel
theorem dX7_influence_51 : decode cX7_influence 51 = .ok (.aload_n 0, 1) := by decide +kernel
theorem dX7_influence_52 : decode cX7_influence 52 = .ok (.getfield 53, 3) := by decide +kernel
theorem dX7_influence_55 : decode cX7_influence 55 = .ok (.iload_n 3, 1) := by decide +kernel
theorem dX7_influence_56 : decode cX7_influence 56 = .ok (.invokevirtual 114, 3) := by decide +kernel
theorem dX7_influence_59 : decode cX7_influence 59 = .ok (.if_icmp .eq 6, 3) := by decide +kernel
theorem dX7_influence_62 : decode cX7_influence 62 = .ok (.iinc 2 1, 3) := by decide +kernel
theorem dX7_influence_65 : decode cX7_influence 65 = .ok (.iinc 3 1, 3) := by decide +kernel
theorem dX7_influence_68 : decode cX7_influence 68 = .ok (.goto (-31), 3) := by decide +kernel
theorem dX7_influence_71 : decode cX7_influence 71 = .ok (.iload_n 2, 1) := by decide +kernel
theorem dX7_influence_72 : decode cX7_influence 72 = .ok (.ireturn, 1) := by decide +kernel
set_option maxRecDepth 20000 in
theorem ggX7_why_X7_checkLine : GoodIn wsX7_why wsX7_checkLine := goodIn_ca (goodIn_r _ [7, 8, 9, 6, 10, 11, 12, 13, 14, 15] (by decide +kernel) (by decide +kernel)) (goodIn_sub (fun _ h => List.mem_cons_of_mem _ (List.mem_append_right _ h)) (by decide +kernel))
set_option maxRecDepth 20000 in
theorem gX7_why_X7_checkLine : GoodIn wsX7_why (va_wsS RX7 67 yX7_checkLine wsX7_checkLine) := goodIn_app (goodIn_of _ (by decide +kernel)) ggX7_why_X7_checkLine
set_option maxRecDepth 20000 in
theorem ggX7_why_X7_checkPlace : GoodIn wsX7_why wsX7_checkPlace := goodIn_ca (goodIn_r _ [13, 14, 15] (by decide +kernel) (by decide +kernel)) (goodIn_sub (fun _ h => List.mem_cons_of_mem _ (List.mem_append_right _ h)) (by decide +kernel))
set_option maxRecDepth 20000 in
theorem gX7_why_X7_checkPlace : GoodIn wsX7_why (va_wsS RX7 134 yX7_checkPlace wsX7_checkPlace) := goodIn_app (goodIn_of _ (by decide +kernel)) ggX7_why_X7_checkPlace
set_option maxRecDepth 20000 in
theorem ggX7_why_X6_workOut : GoodIn wsX7_why wsX6_workOut := goodIn_r _ [20, 21, 22, 23, 24, 25, 26, 27, 28, 29, 30, 31, 6, 32, 33, 34, 35, 36, 37, 38, 39, 40, 41, 42, 43, 44, 45, 46, 47, 48, 49, 50, 51, 52, 53, 54, 55, 19, 56, 57, 58, 59, 60, 61, 62, 63, 64, 65, 66, 67, 68, 69, 70, 71, 72, 73, 74, 75, 76, 77, 78, 79, 80, 81, 82, 83, 84, 85, 86, 87, 88, 89, 90, 91, 92, 93, 94, 95, 96, 97, 98, 99, 100, 101, 102, 103, 104, 105, 106, 107, 108, 109, 110, 111, 112, 113, 114, 115, 116, 117, 118, 119, 120, 121, 122, 123, 124, 125, 126, 127, 128, 129, 130, 131, 164, 165, 166, 167, 168, 169, 170, 171, 172, 173, 174, 175, 176, 177, 178, 179, 180, 181, 182, 183, 184, 185, 186, 187] (by decide +kernel) (by decide +kernel)
set_option maxRecDepth 20000 in
theorem gX7_why_X6_workOut : GoodIn wsX7_why (wsV RX7 111 RX6 yX6_workOut wsX6_workOut) := goodIn_app (goodIn_of _ (by decide +kernel)) ggX7_why_X6_workOut
set_option maxRecDepth 20000 in
theorem ggX7_why_X3_explain : GoodIn wsX7_why wsX3_explain := goodIn_r _ [136, 137, 138, 139, 140, 141, 142, 135, 143, 48, 6, 49, 50, 51, 52, 70, 71, 31, 32, 144, 145, 146, 147, 148, 58, 59, 36, 60, 61, 149, 34, 35, 37, 38, 150, 99, 100, 101, 102, 151, 63, 64, 19, 65, 24, 188, 189, 190, 177, 178, 179, 180, 164, 165, 166, 167, 168, 169] (by decide +kernel) (by decide +kernel)
set_option maxRecDepth 20000 in
theorem gX7_why_X3_explain : GoodIn wsX7_why (wsV RX7 137 RX3 yX3_explain wsX3_explain) := goodIn_app (goodIn_of _ (by decide +kernel)) ggX7_why_X3_explain
set_option maxRecDepth 20000 in
theorem ggX7_why_X3_lineAt : GoodIn wsX7_why wsX3_lineAt := goodIn_r _ [155, 137, 139, 31, 6, 32, 188, 189, 190] (by decide +kernel) (by decide +kernel)
set_option maxRecDepth 20000 in
theorem gX7_why_X3_lineAt : GoodIn wsX7_why (wsV RX7 141 RX3 yX3_lineAt wsX3_lineAt) := goodIn_app (goodIn_of _ (by decide +kernel)) ggX7_why_X3_lineAt
theorem dX7_why_0 : decode cX7_why 0 = .ok (.iload_n 1, 1) := by decide +kernel
theorem dX7_why_1 : decode cX7_why 1 = .ok (.invokestatic 67, 3) := by decide +kernel
theorem dX7_why_4 : decode cX7_why 4 = .ok (.iload_n 2, 1) := by decide +kernel
theorem dX7_why_5 : decode cX7_why 5 = .ok (.ifCond .lt 7, 3) := by decide +kernel
theorem dX7_why_8 : decode cX7_why 8 = .ok (.iconst 1, 1) := by decide +kernel
theorem dX7_why_9 : decode cX7_why 9 = .ok (.goto 4, 3) := by decide +kernel
theorem dX7_why_12 : decode cX7_why 12 = .ok (.iconst 0, 1) := by decide +kernel
theorem dX7_why_13 : decode cX7_why 13 = .ok (.invokestatic 134, 3) := by decide +kernel
theorem dX7_why_16 : decode cX7_why 16 = .ok (.aload_n 0, 1) := by decide +kernel
theorem dX7_why_17 : decode cX7_why 17 = .ok (.getfield 49, 3) := by decide +kernel
theorem dX7_why_20 : decode cX7_why 20 = .ok (.iconst (-1), 1) := by decide +kernel
theorem dX7_why_21 : decode cX7_why 21 = .ok (.invokevirtual 111, 3) := by decide +kernel
theorem dX7_why_24 : decode cX7_why 24 = .ok (.aload_n 0, 1) := by decide +kernel
theorem dX7_why_25 : decode cX7_why 25 = .ok (.getfield 59, 3) := by decide +kernel
theorem dX7_why_28 : decode cX7_why 28 = .ok (.iload_n 1, 1) := by decide +kernel
theorem dX7_why_29 : decode cX7_why 29 = .ok (.aload_n 0, 1) := by decide +kernel
theorem dX7_why_30 : decode cX7_why 30 = .ok (.getfield 10, 3) := by decide +kernel
theorem dX7_why_33 : decode cX7_why 33 = .ok (.aload_n 0, 1) := by decide +kernel
theorem dX7_why_34 : decode cX7_why 34 = .ok (.getfield 49, 3) := by decide +kernel
theorem dX7_why_37 : decode cX7_why 37 = .ok (.invokevirtual 137, 3) := by decide +kernel
theorem dX7_why_40 : decode cX7_why 40 = .ok (.aload_n 0, 1) := by decide +kernel
theorem dX7_why_41 : decode cX7_why 41 = .ok (.getfield 59, 3) := by decide +kernel
theorem dX7_why_44 : decode cX7_why 44 = .ok (.iload_n 2, 1) := by decide +kernel
theorem dX7_why_45 : decode cX7_why 45 = .ok (.invokevirtual 141, 3) := by decide +kernel
theorem dX7_why_48 : decode cX7_why 48 = .ok (.ireturn, 1) := by decide +kernel
set_option maxRecDepth 20000 in
theorem ggX7_bracket_X7_isWithin : GoodIn wsX7_bracket wsX7_isWithin := goodIn_r _ [6] (by decide +kernel) (by decide +kernel)
set_option maxRecDepth 20000 in
theorem gX7_bracket_X7_isWithin : GoodIn wsX7_bracket (va_wsS RX7 71 yX7_isWithin wsX7_isWithin) := goodIn_app (goodIn_of _ (by decide +kernel)) ggX7_bracket_X7_isWithin
set_option maxRecDepth 20000 in
theorem ggX7_bracket_X7_checkArgument : GoodIn wsX7_bracket wsX7_checkArgument := goodIn_ca (goodIn_r _ [9, 10, 11] (by decide +kernel) (by decide +kernel)) (goodIn_sub (fun _ h => List.mem_cons_of_mem _ (List.mem_append_left _ (List.mem_append_right _ h))) (by decide +kernel))
set_option maxRecDepth 20000 in
theorem gX7_bracket_X7_checkArgument : GoodIn wsX7_bracket (va_wsS RX7 82 yX7_checkArgument wsX7_checkArgument) := goodIn_app (goodIn_of _ (by decide +kernel)) ggX7_bracket_X7_checkArgument
set_option maxRecDepth 20000 in
theorem ggX7_bracket_X1_hasRoomFor : GoodIn wsX7_bracket wsX1_hasRoomFor := goodIn_r _ [16, 17, 18, 19, 20, 15, 21, 22, 23, 5, 24, 25, 26, 27, 28, 53, 54, 55] (by decide +kernel) (by decide +kernel)
set_option maxRecDepth 20000 in
theorem gX7_bracket_X1_hasRoomFor : GoodIn wsX7_bracket (wsV RX7 144 RX1 yX1_hasRoomFor wsX1_hasRoomFor) := goodIn_app (goodIn_of _ (by decide +kernel)) ggX7_bracket_X1_hasRoomFor
set_option maxRecDepth 20000 in
theorem ggX7_bracket_X7_checkState : GoodIn wsX7_bracket wsX7_checkState := goodIn_ca (goodIn_r _ [31, 32, 33] (by decide +kernel) (by decide +kernel)) (goodIn_sub (fun _ h => List.mem_cons_of_mem _ (List.mem_append_right _ h)) (by decide +kernel))
set_option maxRecDepth 20000 in
theorem gX7_bracket_X7_checkState : GoodIn wsX7_bracket (va_wsS RX7 118 yX7_checkState wsX7_checkState) := goodIn_app (goodIn_of _ (by decide +kernel)) ggX7_bracket_X7_checkState
set_option maxRecDepth 20000 in
theorem ggX7_bracket_X1_set : GoodIn wsX7_bracket wsX1_set := goodIn_r _ [37, 17, 22, 38, 18, 19, 20, 15, 21, 23, 5, 24, 25, 26, 27, 28, 39, 40, 53, 54, 55] (by decide +kernel) (by decide +kernel)
set_option maxRecDepth 20000 in
theorem gX7_bracket_X1_set : GoodIn wsX7_bracket (wsV RX7 147 RX1 yX1_set wsX1_set) := goodIn_app (goodIn_of _ (by decide +kernel)) ggX7_bracket_X1_set
set_option maxRecDepth 20000 in
theorem ggX7_bracket_X1_size : GoodIn wsX7_bracket wsX1_size := goodIn_r _ [44, 17, 53, 54, 55] (by decide +kernel) (by decide +kernel)
set_option maxRecDepth 20000 in
theorem gX7_bracket_X1_size : GoodIn wsX7_bracket (wsV RX7 149 RX1 yX1_size wsX1_size) := goodIn_app (goodIn_of _ (by decide +kernel)) ggX7_bracket_X1_size
theorem dX7_bracket_0 : decode cX7_bracket 0 = .ok (.iload_n 1, 1) := by decide +kernel
theorem dX7_bracket_1 : decode cX7_bracket 1 = .ok (.iconst 0, 1) := by decide +kernel
theorem dX7_bracket_2 : decode cX7_bracket 2 = .ok (.ldc 103, 2) := by decide +kernel
theorem dX7_bracket_4 : decode cX7_bracket 4 = .ok (.invokestatic 71, 3) := by decide +kernel
theorem dX7_bracket_7 : decode cX7_bracket 7 = .ok (.ifCond .eq 18, 3) := by decide +kernel
theorem dX7_bracket_10 : decode cX7_bracket 10 = .ok (.iload_n 2, 1) := by decide +kernel
theorem dX7_bracket_11 : decode cX7_bracket 11 = .ok (.iconst 0, 1) := by decide +kernel
theorem dX7_bracket_12 : decode cX7_bracket 12 = .ok (.sipush 1000, 3) := by decide +kernel
theorem dX7_bracket_15 : decode cX7_bracket 15 = .ok (.invokestatic 71, 3) := by decide +kernel
theorem dX7_bracket_18 : decode cX7_bracket 18 = .ok (.ifCond .eq 7, 3) := by decide +kernel
theorem dX7_bracket_21 : decode cX7_bracket 21 = .ok (.iconst 1, 1) := by decide +kernel
theorem dX7_bracket_22 : decode cX7_bracket 22 = .ok (.goto 4, 3) := by decide +kernel
theorem dX7_bracket_25 : decode cX7_bracket 25 = .ok (.iconst 0, 1) := by decide +kernel
theorem dX7_bracket_26 : decode cX7_bracket 26 = .ok (.invokestatic 82, 3) := by decide +kernel
theorem dX7_bracket_29 : decode cX7_bracket 29 = .ok (.aload_n 0, 1) := by decide +kernel
theorem dX7_bracket_30 : decode cX7_bracket 30 = .ok (.getfield 26, 3) := by decide +kernel
theorem dX7_bracket_33 : decode cX7_bracket 33 = .ok (.iload_n 1, 1) := by decide +kernel
theorem dX7_bracket_34 : decode cX7_bracket 34 = .ok (.invokevirtual 144, 3) := by decide +kernel
theorem dX7_bracket_37 : decode cX7_bracket 37 = .ok (.invokestatic 118, 3) := by decide +kernel
theorem dX7_bracket_40 : decode cX7_bracket 40 = .ok (.aload_n 0, 1) := by decide +kernel
theorem dX7_bracket_41 : decode cX7_bracket 41 = .ok (.getfield 26, 3) := by decide +kernel
theorem dX7_bracket_44 : decode cX7_bracket 44 = .ok (.iload_n 1, 1) := by decide +kernel
theorem dX7_bracket_45 : decode cX7_bracket 45 = .ok (.iload_n 2, 1) := by decide +kernel
theorem dX7_bracket_46 : decode cX7_bracket 46 = .ok (.invokevirtual 147, 3) := by decide +kernel
theorem dX7_bracket_49 : decode cX7_bracket 49 = .ok (.aload_n 0, 1) := by decide +kernel
theorem dX7_bracket_50 : decode cX7_bracket 50 = .ok (.getfield 26, 3) := by decide +kernel
theorem dX7_bracket_53 : decode cX7_bracket 53 = .ok (.invokevirtual 149, 3) := by decide +kernel
theorem dX7_bracket_56 : decode cX7_bracket 56 = .ok (.ireturn, 1) := by decide +kernel
set_option maxRecDepth 20000 in
theorem ggX7_dropBrackets_X1_size : GoodIn wsX7_dropBrackets wsX1_size := goodIn_r _ [6, 7, 20, 21, 22] (by decide +kernel) (by decide +kernel)
set_option maxRecDepth 20000 in
theorem gX7_dropBrackets_X1_size : GoodIn wsX7_dropBrackets (wsV RX7 149 RX1 yX1_size wsX1_size) := goodIn_app (goodIn_of _ (by decide +kernel)) ggX7_dropBrackets_X1_size
set_option maxRecDepth 20000 in
theorem ggX7_dropBrackets_X1_clear : GoodIn wsX7_dropBrackets wsX1_clear := goodIn_r _ [11, 7, 20, 21, 22] (by decide +kernel) (by decide +kernel)
set_option maxRecDepth 20000 in
theorem gX7_dropBrackets_X1_clear : GoodIn wsX7_dropBrackets (wsV RX7 153 RX1 yX1_clear wsX1_clear) := goodIn_app (goodIn_of _ (by decide +kernel)) ggX7_dropBrackets_X1_clear
theorem dX7_dropBrackets_0 : decode cX7_dropBrackets 0 = .ok (.aload_n 0, 1) := by decide +kernel
theorem dX7_dropBrackets_1 : decode cX7_dropBrackets 1 = .ok (.getfield 26, 3) := by decide +kernel
theorem dX7_dropBrackets_4 : decode cX7_dropBrackets 4 = .ok (.invokevirtual 149, 3) := by decide +kernel
theorem dX7_dropBrackets_7 : decode cX7_dropBrackets 7 = .ok (.istore_n 1, 1) := by decide +kernel
theorem dX7_dropBrackets_8 : decode cX7_dropBrackets 8 = .ok (.aload_n 0, 1) := by decide +kernel
theorem dX7_dropBrackets_9 : decode cX7_dropBrackets 9 = .ok (.getfield 26, 3) := by decide +kernel
theorem dX7_dropBrackets_12 : decode cX7_dropBrackets 12 = .ok (.invokevirtual 153, 3) := by decide +kernel
theorem dX7_dropBrackets_15 : decode cX7_dropBrackets 15 = .ok (.iload_n 1, 1) := by decide +kernel
theorem dX7_dropBrackets_16 : decode cX7_dropBrackets 16 = .ok (.ireturn, 1) := by decide +kernel
set_option maxRecDepth 20000 in
theorem ggX7_taxOn_X7_isWithin : GoodIn wsX7_taxOn wsX7_isWithin := goodIn_r _ [6] (by decide +kernel) (by decide +kernel)
set_option maxRecDepth 20000 in
theorem gX7_taxOn_X7_isWithin : GoodIn wsX7_taxOn (va_wsS RX7 71 yX7_isWithin wsX7_isWithin) := goodIn_app (goodIn_of _ (by decide +kernel)) ggX7_taxOn_X7_isWithin
set_option maxRecDepth 20000 in
theorem ggX7_taxOn_X7_checkArgument : GoodIn wsX7_taxOn wsX7_checkArgument := goodIn_ca (goodIn_r _ [9, 10, 11] (by decide +kernel) (by decide +kernel)) (goodIn_sub (fun _ h => List.mem_cons_of_mem _ (List.mem_append_right _ h)) (by decide +kernel))
set_option maxRecDepth 20000 in
theorem gX7_taxOn_X7_checkArgument : GoodIn wsX7_taxOn (va_wsS RX7 82 yX7_checkArgument wsX7_checkArgument) := goodIn_app (goodIn_of _ (by decide +kernel)) ggX7_taxOn_X7_checkArgument
set_option maxRecDepth 20000 in
theorem ggX7_taxOn_X1_tax : GoodIn wsX7_taxOn wsX1_tax := goodIn_r _ [16, 17, 18, 19, 20, 21, 22, 23, 24, 25, 26, 27, 5, 28, 29, 30, 31, 40, 41, 42] (by decide +kernel) (by decide +kernel)
set_option maxRecDepth 20000 in
theorem gX7_taxOn_X1_tax : GoodIn wsX7_taxOn (wsV RX7 156 RX1 yX1_tax wsX1_tax) := goodIn_app (goodIn_of _ (by decide +kernel)) ggX7_taxOn_X1_tax
theorem dX7_taxOn_0 : decode cX7_taxOn 0 = .ok (.iload_n 1, 1) := by decide +kernel
theorem dX7_taxOn_1 : decode cX7_taxOn 1 = .ok (.iconst 0, 1) := by decide +kernel
theorem dX7_taxOn_2 : decode cX7_taxOn 2 = .ok (.ldc 117, 2) := by decide +kernel
theorem dX7_taxOn_4 : decode cX7_taxOn 4 = .ok (.invokestatic 71, 3) := by decide +kernel
theorem dX7_taxOn_7 : decode cX7_taxOn 7 = .ok (.invokestatic 82, 3) := by decide +kernel
theorem dX7_taxOn_10 : decode cX7_taxOn 10 = .ok (.aload_n 0, 1) := by decide +kernel
theorem dX7_taxOn_11 : decode cX7_taxOn 11 = .ok (.getfield 26, 3) := by decide +kernel
theorem dX7_taxOn_14 : decode cX7_taxOn 14 = .ok (.iload_n 1, 1) := by decide +kernel
theorem dX7_taxOn_15 : decode cX7_taxOn 15 = .ok (.invokevirtual 156, 3) := by decide +kernel
theorem dX7_taxOn_18 : decode cX7_taxOn 18 = .ok (.ireturn, 1) := by decide +kernel
set_option maxRecDepth 20000 in
theorem ggX7_carry_X0_now : GoodIn wsX7_carry wsX0_now := goodIn_r _ [7, 8, 58, 59, 60, 61] (by decide +kernel) (by decide +kernel)
set_option maxRecDepth 20000 in
theorem gX7_carry_X0_now : GoodIn wsX7_carry (wsV RX7 159 RX0 yX0_now wsX0_now) := goodIn_app (goodIn_of _ (by decide +kernel)) ggX7_carry_X0_now
set_option maxRecDepth 20000 in
theorem ggX7_carry_X7_isWithin : GoodIn wsX7_carry wsX7_isWithin := goodIn_r _ [12] (by decide +kernel) (by decide +kernel)
set_option maxRecDepth 20000 in
theorem gX7_carry_X7_isWithin : GoodIn wsX7_carry (va_wsS RX7 71 yX7_isWithin wsX7_isWithin) := goodIn_app (goodIn_of _ (by decide +kernel)) ggX7_carry_X7_isWithin
set_option maxRecDepth 20000 in
theorem ggX7_carry_X7_checkArgument : GoodIn wsX7_carry wsX7_checkArgument := goodIn_ca (goodIn_r _ [15, 16, 17] (by decide +kernel) (by decide +kernel)) (goodIn_sub (fun _ h => List.mem_cons_of_mem _ (List.mem_append_left _ (List.mem_append_right _ h))) (by decide +kernel))
set_option maxRecDepth 20000 in
theorem gX7_carry_X7_checkArgument : GoodIn wsX7_carry (va_wsS RX7 82 yX7_checkArgument wsX7_checkArgument) := goodIn_app (goodIn_of _ (by decide +kernel)) ggX7_carry_X7_checkArgument
set_option maxRecDepth 20000 in
theorem ggX7_carry_X0_size : GoodIn wsX7_carry wsX0_size := goodIn_r _ [21, 22, 58, 59, 60, 61] (by decide +kernel) (by decide +kernel)
set_option maxRecDepth 20000 in
theorem gX7_carry_X0_size : GoodIn wsX7_carry (wsV RX7 162 RX0 yX0_size wsX0_size) := goodIn_app (goodIn_of _ (by decide +kernel)) ggX7_carry_X0_size
set_option maxRecDepth 20000 in
theorem ggX7_carry_X7_checkState : GoodIn wsX7_carry wsX7_checkState := goodIn_ca (goodIn_r _ [25, 26, 27] (by decide +kernel) (by decide +kernel)) (goodIn_sub (fun _ h => List.mem_cons_of_mem _ (List.mem_append_right _ h)) (by decide +kernel))
set_option maxRecDepth 20000 in
theorem gX7_carry_X7_checkState : GoodIn wsX7_carry (va_wsS RX7 118 yX7_checkState wsX7_checkState) := goodIn_app (goodIn_of _ (by decide +kernel)) ggX7_carry_X7_checkState
set_option maxRecDepth 20000 in
theorem ggX7_carry_X0_add : GoodIn wsX7_carry wsX0_add := goodIn_r _ [31, 22, 32, 33, 34, 11, 35, 36, 37, 38, 6, 39, 40, 41, 58, 59, 60, 61] (by decide +kernel) (by decide +kernel)
set_option maxRecDepth 20000 in
theorem gX7_carry_X0_add : GoodIn wsX7_carry (wsV RX7 163 RX0 yX0_add wsX0_add) := goodIn_app (goodIn_of _ (by decide +kernel)) ggX7_carry_X0_add
set_option maxRecDepth 20000 in
theorem ggX7_carry_X0_total : GoodIn wsX7_carry wsX0_total := goodIn_r _ [45, 22, 46, 47, 48, 6, 49, 33, 34, 11, 35, 58, 59, 60, 61] (by decide +kernel) (by decide +kernel)
set_option maxRecDepth 20000 in
theorem gX7_carry_X0_total : GoodIn wsX7_carry (wsV RX7 166 RX0 yX0_total wsX0_total) := goodIn_app (goodIn_of _ (by decide +kernel)) ggX7_carry_X0_total
theorem dX7_carry_0 : decode cX7_carry 0 = .ok (.aload_n 0, 1) := by decide +kernel
theorem dX7_carry_1 : decode cX7_carry 1 = .ok (.getfield 33, 3) := by decide +kernel
theorem dX7_carry_4 : decode cX7_carry 4 = .ok (.invokevirtual 159, 3) := by decide +kernel
theorem dX7_carry_7 : decode cX7_carry 7 = .ok (.istore_n 3, 1) := by decide +kernel
theorem dX7_carry_8 : decode cX7_carry 8 = .ok (.iload_n 1, 1) := by decide +kernel
theorem dX7_carry_9 : decode cX7_carry 9 = .ok (.iconst 1, 1) := by decide +kernel
theorem dX7_carry_10 : decode cX7_carry 10 = .ok (.ldc 103, 2) := by decide +kernel
theorem dX7_carry_12 : decode cX7_carry 12 = .ok (.invokestatic 71, 3) := by decide +kernel
theorem dX7_carry_15 : decode cX7_carry 15 = .ok (.ifCond .eq 19, 3) := by decide +kernel
theorem dX7_carry_18 : decode cX7_carry 18 = .ok (.iload_n 2, 1) := by decide +kernel
theorem dX7_carry_19 : decode cX7_carry 19 = .ok (.iload_n 3, 1) := by decide +kernel
theorem dX7_carry_20 : decode cX7_carry 20 = .ok (.iload_n 3, 1) := by decide +kernel
theorem dX7_carry_21 : decode cX7_carry 21 = .ok (.bipush 20, 2) := by decide +kernel
theorem dX7_carry_23 : decode cX7_carry 23 = .ok (.iadd, 1) := by decide +kernel
theorem dX7_carry_24 : decode cX7_carry 24 = .ok (.invokestatic 71, 3) := by decide +kernel
theorem dX7_carry_27 : decode cX7_carry 27 = .ok (.ifCond .eq 7, 3) := by decide +kernel
theorem dX7_carry_30 : decode cX7_carry 30 = .ok (.iconst 1, 1) := by decide +kernel
theorem dX7_carry_31 : decode cX7_carry 31 = .ok (.goto 4, 3) := by decide +kernel
theorem dX7_carry_34 : decode cX7_carry 34 = .ok (.iconst 0, 1) := by decide +kernel
theorem dX7_carry_35 : decode cX7_carry 35 = .ok (.invokestatic 82, 3) := by decide +kernel
theorem dX7_carry_38 : decode cX7_carry 38 = .ok (.aload_n 0, 1) := by decide +kernel
theorem dX7_carry_39 : decode cX7_carry 39 = .ok (.getfield 33, 3) := by decide +kernel
theorem dX7_carry_42 : decode cX7_carry 42 = .ok (.invokevirtual 162, 3) := by decide +kernel
theorem dX7_carry_45 : decode cX7_carry 45 = .ok (.bipush 8, 2) := by decide +kernel
theorem dX7_carry_47 : decode cX7_carry 47 = .ok (.if_icmp .ge 7, 3) := by decide +kernel
theorem dX7_carry_50 : decode cX7_carry 50 = .ok (.iconst 1, 1) := by decide +kernel
theorem dX7_carry_51 : decode cX7_carry 51 = .ok (.goto 4, 3) := by decide +kernel
theorem dX7_carry_54 : decode cX7_carry 54 = .ok (.iconst 0, 1) := by decide +kernel
theorem dX7_carry_55 : decode cX7_carry 55 = .ok (.invokestatic 118, 3) := by decide +kernel
theorem dX7_carry_58 : decode cX7_carry 58 = .ok (.aload_n 0, 1) := by decide +kernel
theorem dX7_carry_59 : decode cX7_carry 59 = .ok (.getfield 33, 3) := by decide +kernel
theorem dX7_carry_62 : decode cX7_carry 62 = .ok (.iload_n 1, 1) := by decide +kernel
theorem dX7_carry_63 : decode cX7_carry 63 = .ok (.iload_n 2, 1) := by decide +kernel
theorem dX7_carry_64 : decode cX7_carry 64 = .ok (.invokevirtual 163, 3) := by decide +kernel
theorem dX7_carry_67 : decode cX7_carry 67 = .ok (.aload_n 0, 1) := by decide +kernel
theorem dX7_carry_68 : decode cX7_carry 68 = .ok (.getfield 33, 3) := by decide +kernel
theorem dX7_carry_71 : decode cX7_carry 71 = .ok (.invokevirtual 166, 3) := by decide +kernel
theorem dX7_carry_74 : decode cX7_carry 74 = .ok (.ireturn, 1) := by decide +kernel
set_option maxRecDepth 20000 in
theorem ggX7_carried_X0_total : GoodIn wsX7_carried wsX0_total := goodIn_r _ [6, 7, 8, 9, 10, 5, 11, 12, 13, 14, 15, 24, 25, 26, 27] (by decide +kernel) (by decide +kernel)
set_option maxRecDepth 20000 in
theorem gX7_carried_X0_total : GoodIn wsX7_carried (wsV RX7 166 RX0 yX0_total wsX0_total) := goodIn_app (goodIn_of _ (by decide +kernel)) ggX7_carried_X0_total
theorem dX7_carried_0 : decode cX7_carried 0 = .ok (.aload_n 0, 1) := by decide +kernel
theorem dX7_carried_1 : decode cX7_carried 1 = .ok (.getfield 33, 3) := by decide +kernel
theorem dX7_carried_4 : decode cX7_carried 4 = .ok (.invokevirtual 166, 3) := by decide +kernel
theorem dX7_carried_7 : decode cX7_carried 7 = .ok (.ireturn, 1) := by decide +kernel
set_option maxRecDepth 20000 in
theorem ggX7_carriedAt_X0_size : GoodIn wsX7_carriedAt wsX0_size := goodIn_r _ [6, 7, 29, 30, 31, 32] (by decide +kernel) (by decide +kernel)
set_option maxRecDepth 20000 in
theorem gX7_carriedAt_X0_size : GoodIn wsX7_carriedAt (wsV RX7 162 RX0 yX0_size wsX0_size) := goodIn_app (goodIn_of _ (by decide +kernel)) ggX7_carriedAt_X0_size
set_option maxRecDepth 20000 in
theorem ggX7_carriedAt_X7_checkPlace : GoodIn wsX7_carriedAt wsX7_checkPlace := goodIn_ca (goodIn_r _ [11, 12, 13] (by decide +kernel) (by decide +kernel)) (goodIn_sub (fun _ h => List.mem_cons_of_mem _ (List.mem_append_right _ h)) (by decide +kernel))
set_option maxRecDepth 20000 in
theorem gX7_carriedAt_X7_checkPlace : GoodIn wsX7_carriedAt (va_wsS RX7 134 yX7_checkPlace wsX7_checkPlace) := goodIn_app (goodIn_of _ (by decide +kernel)) ggX7_carriedAt_X7_checkPlace
set_option maxRecDepth 20000 in
theorem ggX7_carriedAt_X0_leftAt : GoodIn wsX7_carriedAt wsX0_leftAt := goodIn_r _ [17, 18, 19, 10, 20, 29, 30, 31, 32] (by decide +kernel) (by decide +kernel)
set_option maxRecDepth 20000 in
theorem gX7_carriedAt_X0_leftAt : GoodIn wsX7_carriedAt (wsV RX7 169 RX0 yX0_leftAt wsX0_leftAt) := goodIn_app (goodIn_of _ (by decide +kernel)) ggX7_carriedAt_X0_leftAt
theorem dX7_carriedAt_0 : decode cX7_carriedAt 0 = .ok (.iload_n 1, 1) := by decide +kernel
theorem dX7_carriedAt_1 : decode cX7_carriedAt 1 = .ok (.ifCond .lt 18, 3) := by decide +kernel
theorem dX7_carriedAt_4 : decode cX7_carriedAt 4 = .ok (.iload_n 1, 1) := by decide +kernel
theorem dX7_carriedAt_5 : decode cX7_carriedAt 5 = .ok (.aload_n 0, 1) := by decide +kernel
theorem dX7_carriedAt_6 : decode cX7_carriedAt 6 = .ok (.getfield 33, 3) := by decide +kernel
theorem dX7_carriedAt_9 : decode cX7_carriedAt 9 = .ok (.invokevirtual 162, 3) := by decide +kernel
theorem dX7_carriedAt_12 : decode cX7_carriedAt 12 = .ok (.if_icmp .ge 7, 3) := by decide +kernel
theorem dX7_carriedAt_15 : decode cX7_carriedAt 15 = .ok (.iconst 1, 1) := by decide +kernel
theorem dX7_carriedAt_16 : decode cX7_carriedAt 16 = .ok (.goto 4, 3) := by decide +kernel
theorem dX7_carriedAt_19 : decode cX7_carriedAt 19 = .ok (.iconst 0, 1) := by decide +kernel
theorem dX7_carriedAt_20 : decode cX7_carriedAt 20 = .ok (.invokestatic 134, 3) := by decide +kernel
theorem dX7_carriedAt_23 : decode cX7_carriedAt 23 = .ok (.aload_n 0, 1) := by decide +kernel
theorem dX7_carriedAt_24 : decode cX7_carriedAt 24 = .ok (.getfield 33, 3) := by decide +kernel
theorem dX7_carriedAt_27 : decode cX7_carriedAt 27 = .ok (.iload_n 1, 1) := by decide +kernel
theorem dX7_carriedAt_28 : decode cX7_carriedAt 28 = .ok (.invokevirtual 169, 3) := by decide +kernel
theorem dX7_carriedAt_31 : decode cX7_carriedAt 31 = .ok (.ireturn, 1) := by decide +kernel
set_option maxRecDepth 20000 in
theorem ggX7_year_X0_now : GoodIn wsX7_year wsX0_now := goodIn_r _ [6, 7, 16, 17, 18, 19] (by decide +kernel) (by decide +kernel)
set_option maxRecDepth 20000 in
theorem gX7_year_X0_now : GoodIn wsX7_year (wsV RX7 159 RX0 yX0_now wsX0_now) := goodIn_app (goodIn_of _ (by decide +kernel)) ggX7_year_X0_now
theorem dX7_year_0 : decode cX7_year 0 = .ok (.aload_n 0, 1) := by decide +kernel
theorem dX7_year_1 : decode cX7_year 1 = .ok (.getfield 33, 3) := by decide +kernel
theorem dX7_year_4 : decode cX7_year 4 = .ok (.invokevirtual 159, 3) := by decide +kernel
theorem dX7_year_7 : decode cX7_year 7 = .ok (.ireturn, 1) := by decide +kernel
set_option maxRecDepth 20000 in
theorem ggX7_closeYear_X6_workOut : GoodIn wsX7_closeYear wsX6_workOut := goodIn_r _ [8, 9, 10, 11, 12, 13, 14, 15, 16, 17, 18, 19, 20, 21, 22, 23, 24, 25, 26, 27, 28, 29, 30, 31, 32, 33, 34, 35, 36, 37, 38, 39, 40, 41, 42, 43, 44, 7, 45, 46, 47, 48, 49, 50, 51, 52, 53, 54, 55, 56, 57, 58, 59, 60, 61, 62, 63, 64, 65, 66, 67, 68, 69, 70, 71, 72, 73, 74, 75, 76, 77, 78, 79, 80, 81, 82, 83, 84, 85, 86, 87, 88, 89, 90, 91, 92, 93, 94, 95, 96, 97, 98, 99, 100, 101, 102, 103, 104, 105, 106, 107, 108, 109, 110, 111, 112, 113, 114, 115, 116, 117, 118, 119, 120, 146, 147, 148, 149, 150, 151, 152, 153, 154, 155, 156, 157, 158, 159, 160, 161, 162, 163, 164, 165, 166, 167, 168, 169] (by decide +kernel) (by decide +kernel)
set_option maxRecDepth 20000 in
theorem gX7_closeYear_X6_workOut : GoodIn wsX7_closeYear (wsV RX7 111 RX6 yX6_workOut wsX6_workOut) := goodIn_app (goodIn_of _ (by decide +kernel)) ggX7_closeYear_X6_workOut
set_option maxRecDepth 20000 in
theorem ggX7_closeYear_X5_kind : GoodIn wsX7_closeYear wsX5_kind := goodIn_r _ [26, 27, 19, 20, 21, 159, 160, 161, 162] (by decide +kernel) (by decide +kernel)
set_option maxRecDepth 20000 in
theorem gX7_closeYear_X5_kind : GoodIn wsX7_closeYear (wsV RX7 86 RX5 yX5_kind wsX5_kind) := goodIn_app (goodIn_of _ (by decide +kernel)) ggX7_closeYear_X5_kind
set_option maxRecDepth 20000 in
theorem ggX7_closeYear_X6_of : GoodIn wsX7_closeYear wsX6_of := goodIn_r _ [54, 12, 19, 20, 21, 146, 147, 148, 149, 150, 151] (by decide +kernel) (by decide +kernel)
set_option maxRecDepth 20000 in
theorem gX7_closeYear_X6_of : GoodIn wsX7_closeYear (wsV RX7 114 RX6 yX6_of wsX6_of) := goodIn_app (goodIn_of _ (by decide +kernel)) ggX7_closeYear_X6_of
set_option maxRecDepth 20000 in
theorem ggX7_closeYear_X0_take : GoodIn wsX7_closeYear wsX0_take := goodIn_r _ [126, 110, 127, 79, 80, 81, 115, 111, 112, 113, 108, 114, 19, 20, 21, 59, 60, 166, 167, 168, 169] (by decide +kernel) (by decide +kernel)
set_option maxRecDepth 20000 in
theorem gX7_closeYear_X0_take : GoodIn wsX7_closeYear (wsV RX7 172 RX0 yX0_take wsX0_take) := goodIn_app (goodIn_of _ (by decide +kernel)) ggX7_closeYear_X0_take
set_option maxRecDepth 20000 in
theorem ggX7_closeYear_X0_endYear : GoodIn wsX7_closeYear wsX0_endYear := goodIn_r _ [131, 110, 132, 133, 111, 112, 113, 108, 114, 115, 19, 20, 21, 134, 135, 136, 137, 59, 60, 166, 167, 168, 169] (by decide +kernel) (by decide +kernel)
set_option maxRecDepth 20000 in
theorem gX7_closeYear_X0_endYear : GoodIn wsX7_closeYear (wsV RX7 175 RX0 yX0_endYear wsX0_endYear) := goodIn_app (goodIn_of _ (by decide +kernel)) ggX7_closeYear_X0_endYear
theorem dX7_closeYear_0 : decode cX7_closeYear 0 = .ok (.aload_n 0, 1) := by decide +kernel
theorem dX7_closeYear_1 : decode cX7_closeYear 1 = .ok (.getfield 49, 3) := by decide +kernel
theorem dX7_closeYear_4 : decode cX7_closeYear 4 = .ok (.iconst (-1), 1) := by decide +kernel
theorem dX7_closeYear_5 : decode cX7_closeYear 5 = .ok (.invokevirtual 111, 3) := by decide +kernel
theorem dX7_closeYear_8 : decode cX7_closeYear 8 = .ok (.iconst 0, 1) := by decide +kernel
theorem dX7_closeYear_9 : decode cX7_closeYear 9 = .ok (.istore_n 1, 1) := by decide +kernel
theorem dX7_closeYear_10 : decode cX7_closeYear 10 = .ok (.iconst 0, 1) := by decide +kernel
theorem dX7_closeYear_11 : decode cX7_closeYear 11 = .ok (.istore_n 2, 1) := by decide +kernel
theorem dX7_closeYear_12 : decode cX7_closeYear 12 = .ok (.iload_n 2, 1) := by decide +kernel
theorem dX7_closeYear_13 : decode cX7_closeYear 13 = .ok (.bipush 16, 2) := by decide +kernel
theorem dX7_closeYear_15 : decode cX7_closeYear 15 = .ok (.if_icmp .ge 40, 3) := by decide +kernel
theorem dX7_closeYear_18 : decode cX7_closeYear 18 = .ok (.aload_n 0, 1) := by decide +kernel
theorem dX7_closeYear_19 : decode cX7_closeYear 19 = .ok (.getfield 10, 3) := by decide +kernel
theorem dX7_closeYear_22 : decode cX7_closeYear 22 = .ok (.iload_n 2, 1) := by decide +kernel
theorem dX7_closeYear_23 : decode cX7_closeYear 23 = .ok (.invokevirtual 86, 3) := by decide +kernel
theorem dX7_closeYear_26 : decode cX7_closeYear 26 = .ok (.bipush 7, 2) := by decide +kernel
theorem dX7_closeYear_28 : decode cX7_closeYear 28 = .ok (.if_icmp .ne 21, 3) := by decide +kernel
theorem dX7_closeYear_31 : decode cX7_closeYear 31 = .ok (.iload_n 1, 1) := by decide +kernel
theorem dX7_closeYear_32 : decode cX7_closeYear 32 = .ok (.aload_n 0, 1) := by decide +kernel
theorem dX7_closeYear_33 : decode cX7_closeYear 33 = .ok (.getfield 33, 3) := by decide +kernel
theorem dX7_closeYear_36 : decode cX7_closeYear 36 = .ok (.aload_n 0, 1) := by decide +kernel
theorem dX7_closeYear_37 : decode cX7_closeYear 37 = .ok (.getfield 49, 3) := by decide +kernel
theorem dX7_closeYear_40 : decode cX7_closeYear 40 = .ok (.iload_n 2, 1) := by decide +kernel
theorem dX7_closeYear_41 : decode cX7_closeYear 41 = .ok (.invokevirtual 114, 3) := by decide +kernel
theorem dX7_closeYear_44 : decode cX7_closeYear 44 = .ok (.invokevirtual 172, 3) := by decide +kernel
theorem dX7_closeYear_47 : decode cX7_closeYear 47 = .ok (.iadd, 1) := by decide +kernel
theorem dX7_closeYear_48 : decode cX7_closeYear 48 = .ok (.istore_n 1, 1) := by decide +kernel
theorem dX7_closeYear_49 : decode cX7_closeYear 49 = .ok (.iinc 2 1, 3) := by decide +kernel
theorem dX7_closeYear_52 : decode cX7_closeYear 52 = .ok (.goto (-40), 3) := by decide +kernel
theorem dX7_closeYear_55 : decode cX7_closeYear 55 = .ok (.aload_n 0, 1) := by decide +kernel
theorem dX7_closeYear_56 : decode cX7_closeYear 56 = .ok (.getfield 33, 3) := by decide +kernel
theorem dX7_closeYear_59 : decode cX7_closeYear 59 = .ok (.invokevirtual 175, 3) := by decide +kernel
theorem dX7_closeYear_62 : decode cX7_closeYear 62 = .ok (.iload_n 1, 1) := by decide +kernel
theorem dX7_closeYear_63 : decode cX7_closeYear 63 = .ok (.ireturn, 1) := by decide +kernel
set_option maxRecDepth 20000 in
theorem ggX7_addCredit_X7_isWithin : GoodIn wsX7_addCredit wsX7_isWithin := goodIn_r _ [6] (by decide +kernel) (by decide +kernel)
set_option maxRecDepth 20000 in
theorem gX7_addCredit_X7_isWithin : GoodIn wsX7_addCredit (va_wsS RX7 71 yX7_isWithin wsX7_isWithin) := goodIn_app (goodIn_of _ (by decide +kernel)) ggX7_addCredit_X7_isWithin
set_option maxRecDepth 20000 in
theorem ggX7_addCredit_X7_checkArgument : GoodIn wsX7_addCredit wsX7_checkArgument := goodIn_ca (goodIn_r _ [9, 10, 11] (by decide +kernel) (by decide +kernel)) (goodIn_sub (fun _ h => List.mem_cons_of_mem _ (List.mem_append_left _ (List.mem_append_right _ h))) (by decide +kernel))
set_option maxRecDepth 20000 in
theorem gX7_addCredit_X7_checkArgument : GoodIn wsX7_addCredit (va_wsS RX7 82 yX7_checkArgument wsX7_checkArgument) := goodIn_app (goodIn_of _ (by decide +kernel)) ggX7_addCredit_X7_checkArgument
set_option maxRecDepth 20000 in
theorem ggX7_addCredit_X2_size : GoodIn wsX7_addCredit wsX2_size := goodIn_r _ [16, 17, 39, 40, 41, 42, 43] (by decide +kernel) (by decide +kernel)
set_option maxRecDepth 20000 in
theorem gX7_addCredit_X2_size : GoodIn wsX7_addCredit (wsV RX7 178 RX2 yX2_size wsX2_size) := goodIn_app (goodIn_of _ (by decide +kernel)) ggX7_addCredit_X2_size
set_option maxRecDepth 20000 in
theorem ggX7_addCredit_X7_checkState : GoodIn wsX7_addCredit wsX7_checkState := goodIn_ca (goodIn_r _ [20, 21, 22] (by decide +kernel) (by decide +kernel)) (goodIn_sub (fun _ h => List.mem_cons_of_mem _ (List.mem_append_right _ h)) (by decide +kernel))
set_option maxRecDepth 20000 in
theorem gX7_addCredit_X7_checkState : GoodIn wsX7_addCredit (va_wsS RX7 118 yX7_checkState wsX7_checkState) := goodIn_app (goodIn_of _ (by decide +kernel)) ggX7_addCredit_X7_checkState
set_option maxRecDepth 20000 in
theorem ggX7_addCredit_X2_add : GoodIn wsX7_addCredit wsX2_add := goodIn_r _ [26, 27, 17, 28, 29, 5, 30, 39, 40, 41, 42, 43] (by decide +kernel) (by decide +kernel)
set_option maxRecDepth 20000 in
theorem gX7_addCredit_X2_add : GoodIn wsX7_addCredit (wsV RX7 179 RX2 yX2_add wsX2_add) := goodIn_app (goodIn_of _ (by decide +kernel)) ggX7_addCredit_X2_add
theorem dX7_addCredit_0 : decode cX7_addCredit 0 = .ok (.iload_n 1, 1) := by decide +kernel
theorem dX7_addCredit_1 : decode cX7_addCredit 1 = .ok (.iconst 1, 1) := by decide +kernel
theorem dX7_addCredit_2 : decode cX7_addCredit 2 = .ok (.ldc 103, 2) := by decide +kernel
theorem dX7_addCredit_4 : decode cX7_addCredit 4 = .ok (.invokestatic 71, 3) := by decide +kernel
theorem dX7_addCredit_7 : decode cX7_addCredit 7 = .ok (.ifCond .eq 18, 3) := by decide +kernel
theorem dX7_addCredit_10 : decode cX7_addCredit 10 = .ok (.iload_n 2, 1) := by decide +kernel
theorem dX7_addCredit_11 : decode cX7_addCredit 11 = .ok (.iconst 0, 1) := by decide +kernel
theorem dX7_addCredit_12 : decode cX7_addCredit 12 = .ok (.sipush 1000, 3) := by decide +kernel
theorem dX7_addCredit_15 : decode cX7_addCredit 15 = .ok (.invokestatic 71, 3) := by decide +kernel
theorem dX7_addCredit_18 : decode cX7_addCredit 18 = .ok (.ifCond .eq 7, 3) := by decide +kernel
theorem dX7_addCredit_21 : decode cX7_addCredit 21 = .ok (.iconst 1, 1) := by decide +kernel
theorem dX7_addCredit_22 : decode cX7_addCredit 22 = .ok (.goto 4, 3) := by decide +kernel
theorem dX7_addCredit_25 : decode cX7_addCredit 25 = .ok (.iconst 0, 1) := by decide +kernel
theorem dX7_addCredit_26 : decode cX7_addCredit 26 = .ok (.invokestatic 82, 3) := by decide +kernel
theorem dX7_addCredit_29 : decode cX7_addCredit 29 = .ok (.aload_n 0, 1) := by decide +kernel
theorem dX7_addCredit_30 : decode cX7_addCredit 30 = .ok (.getfield 40, 3) := by decide +kernel
theorem dX7_addCredit_33 : decode cX7_addCredit 33 = .ok (.invokevirtual 178, 3) := by decide +kernel
theorem dX7_addCredit_36 : decode cX7_addCredit 36 = .ok (.iconst 5, 1) := by decide +kernel
theorem dX7_addCredit_37 : decode cX7_addCredit 37 = .ok (.if_icmp .ge 7, 3) := by decide +kernel
theorem dX7_addCredit_40 : decode cX7_addCredit 40 = .ok (.iconst 1, 1) := by decide +kernel
theorem dX7_addCredit_41 : decode cX7_addCredit 41 = .ok (.goto 4, 3) := by decide +kernel
theorem dX7_addCredit_44 : decode cX7_addCredit 44 = .ok (.iconst 0, 1) := by decide +kernel
theorem dX7_addCredit_45 : decode cX7_addCredit 45 = .ok (.invokestatic 118, 3) := by decide +kernel
theorem dX7_addCredit_48 : decode cX7_addCredit 48 = .ok (.aload_n 0, 1) := by decide +kernel
theorem dX7_addCredit_49 : decode cX7_addCredit 49 = .ok (.getfield 40, 3) := by decide +kernel
theorem dX7_addCredit_52 : decode cX7_addCredit 52 = .ok (.iload_n 1, 1) := by decide +kernel
theorem dX7_addCredit_53 : decode cX7_addCredit 53 = .ok (.iload_n 2, 1) := by decide +kernel
theorem dX7_addCredit_54 : decode cX7_addCredit 54 = .ok (.invokevirtual 179, 3) := by decide +kernel
theorem dX7_addCredit_57 : decode cX7_addCredit 57 = .ok (.aload_n 0, 1) := by decide +kernel
theorem dX7_addCredit_58 : decode cX7_addCredit 58 = .ok (.getfield 40, 3) := by decide +kernel
theorem dX7_addCredit_61 : decode cX7_addCredit 61 = .ok (.invokevirtual 178, 3) := by decide +kernel
theorem dX7_addCredit_64 : decode cX7_addCredit 64 = .ok (.iconst 1, 1) := by decide +kernel
theorem dX7_addCredit_65 : decode cX7_addCredit 65 = .ok (.isub, 1) := by decide +kernel
theorem dX7_addCredit_66 : decode cX7_addCredit 66 = .ok (.ireturn, 1) := by decide +kernel
set_option maxRecDepth 20000 in
theorem ggX7_dropCredit_X2_size : GoodIn wsX7_dropCredit wsX2_size := goodIn_r _ [6, 7, 26, 27, 28, 29, 30] (by decide +kernel) (by decide +kernel)
set_option maxRecDepth 20000 in
theorem gX7_dropCredit_X2_size : GoodIn wsX7_dropCredit (wsV RX7 178 RX2 yX2_size wsX2_size) := goodIn_app (goodIn_of _ (by decide +kernel)) ggX7_dropCredit_X2_size
set_option maxRecDepth 20000 in
theorem ggX7_dropCredit_X7_checkState : GoodIn wsX7_dropCredit wsX7_checkState := goodIn_ca (goodIn_r _ [11, 12, 13] (by decide +kernel) (by decide +kernel)) (goodIn_sub (fun _ h => List.mem_cons_of_mem _ (List.mem_append_right _ h)) (by decide +kernel))
set_option maxRecDepth 20000 in
theorem gX7_dropCredit_X7_checkState : GoodIn wsX7_dropCredit (va_wsS RX7 118 yX7_checkState wsX7_checkState) := goodIn_app (goodIn_of _ (by decide +kernel)) ggX7_dropCredit_X7_checkState
set_option maxRecDepth 20000 in
theorem ggX7_dropCredit_X2_dropLast : GoodIn wsX7_dropCredit wsX2_dropLast := goodIn_r _ [17, 7, 26, 27, 28, 29, 30] (by decide +kernel) (by decide +kernel)
set_option maxRecDepth 20000 in
theorem gX7_dropCredit_X2_dropLast : GoodIn wsX7_dropCredit (wsV RX7 180 RX2 yX2_dropLast wsX2_dropLast) := goodIn_app (goodIn_of _ (by decide +kernel)) ggX7_dropCredit_X2_dropLast
theorem dX7_dropCredit_0 : decode cX7_dropCredit 0 = .ok (.aload_n 0, 1) := by decide +kernel
theorem dX7_dropCredit_1 : decode cX7_dropCredit 1 = .ok (.getfield 40, 3) := by decide +kernel
theorem dX7_dropCredit_4 : decode cX7_dropCredit 4 = .ok (.invokevirtual 178, 3) := by decide +kernel
theorem dX7_dropCredit_7 : decode cX7_dropCredit 7 = .ok (.ifCond .le 7, 3) := by decide +kernel
theorem dX7_dropCredit_10 : decode cX7_dropCredit 10 = .ok (.iconst 1, 1) := by decide +kernel
theorem dX7_dropCredit_11 : decode cX7_dropCredit 11 = .ok (.goto 4, 3) := by decide +kernel
theorem dX7_dropCredit_14 : decode cX7_dropCredit 14 = .ok (.iconst 0, 1) := by decide +kernel
theorem dX7_dropCredit_15 : decode cX7_dropCredit 15 = .ok (.invokestatic 118, 3) := by decide +kernel
theorem dX7_dropCredit_18 : decode cX7_dropCredit 18 = .ok (.aload_n 0, 1) := by decide +kernel
theorem dX7_dropCredit_19 : decode cX7_dropCredit 19 = .ok (.getfield 40, 3) := by decide +kernel
theorem dX7_dropCredit_22 : decode cX7_dropCredit 22 = .ok (.invokevirtual 180, 3) := by decide +kernel
theorem dX7_dropCredit_25 : decode cX7_dropCredit 25 = .ok (.aload_n 0, 1) := by decide +kernel
theorem dX7_dropCredit_26 : decode cX7_dropCredit 26 = .ok (.getfield 40, 3) := by decide +kernel
theorem dX7_dropCredit_29 : decode cX7_dropCredit 29 = .ok (.invokevirtual 178, 3) := by decide +kernel
theorem dX7_dropCredit_32 : decode cX7_dropCredit 32 = .ok (.ireturn, 1) := by decide +kernel
set_option maxRecDepth 20000 in
theorem ggX7_creditAt_X7_checkLine : GoodIn wsX7_creditAt wsX7_checkLine := goodIn_ca (goodIn_r _ [6, 7, 8, 5, 9, 10, 11, 12, 13, 14] (by decide +kernel) (by decide +kernel)) (goodIn_sub (fun _ h => List.mem_cons_of_mem _ (List.mem_append_right _ h)) (by decide +kernel))
set_option maxRecDepth 20000 in
theorem gX7_creditAt_X7_checkLine : GoodIn wsX7_creditAt (va_wsS RX7 67 yX7_checkLine wsX7_checkLine) := goodIn_app (goodIn_of _ (by decide +kernel)) ggX7_creditAt_X7_checkLine
set_option maxRecDepth 20000 in
theorem ggX7_creditAt_X2_size : GoodIn wsX7_creditAt wsX2_size := goodIn_r _ [19, 20, 175, 176, 177, 178, 179] (by decide +kernel) (by decide +kernel)
set_option maxRecDepth 20000 in
theorem gX7_creditAt_X2_size : GoodIn wsX7_creditAt (wsV RX7 178 RX2 yX2_size wsX2_size) := goodIn_app (goodIn_of _ (by decide +kernel)) ggX7_creditAt_X2_size
set_option maxRecDepth 20000 in
theorem ggX7_creditAt_X7_checkPlace : GoodIn wsX7_creditAt wsX7_checkPlace := goodIn_ca (goodIn_r _ [12, 13, 14] (by decide +kernel) (by decide +kernel)) (goodIn_sub (fun _ h => List.mem_cons_of_mem _ (List.mem_append_right _ h)) (by decide +kernel))
set_option maxRecDepth 20000 in
theorem gX7_creditAt_X7_checkPlace : GoodIn wsX7_creditAt (va_wsS RX7 134 yX7_checkPlace wsX7_checkPlace) := goodIn_app (goodIn_of _ (by decide +kernel)) ggX7_creditAt_X7_checkPlace
set_option maxRecDepth 20000 in
theorem ggX7_creditAt_X6_workOut : GoodIn wsX7_creditAt wsX6_workOut := goodIn_r _ [25, 26, 27, 28, 29, 30, 31, 32, 33, 34, 35, 36, 5, 37, 38, 39, 40, 41, 42, 43, 44, 45, 46, 47, 48, 49, 50, 51, 52, 53, 54, 55, 56, 57, 58, 59, 60, 24, 61, 62, 63, 64, 65, 66, 67, 68, 69, 70, 71, 72, 73, 74, 75, 76, 77, 78, 79, 80, 81, 82, 83, 84, 85, 86, 87, 88, 89, 90, 91, 92, 93, 94, 95, 96, 97, 98, 99, 100, 101, 102, 103, 104, 105, 106, 107, 108, 109, 110, 111, 112, 113, 114, 115, 116, 117, 118, 119, 120, 121, 122, 123, 124, 125, 126, 127, 128, 129, 130, 131, 132, 133, 134, 135, 136, 180, 181, 182, 183, 184, 185, 186, 187, 188, 189, 190, 191, 192, 193, 194, 195, 196, 197, 198, 199, 200, 201, 202, 203] (by decide +kernel) (by decide +kernel)
set_option maxRecDepth 20000 in
theorem gX7_creditAt_X6_workOut : GoodIn wsX7_creditAt (wsV RX7 111 RX6 yX6_workOut wsX6_workOut) := goodIn_app (goodIn_of _ (by decide +kernel)) ggX7_creditAt_X6_workOut
set_option maxRecDepth 20000 in
theorem ggX7_creditAt_X6_of : GoodIn wsX7_creditAt wsX6_of := goodIn_r _ [70, 29, 36, 5, 37, 180, 181, 182, 183, 184, 185] (by decide +kernel) (by decide +kernel)
set_option maxRecDepth 20000 in
theorem gX7_creditAt_X6_of : GoodIn wsX7_creditAt (wsV RX7 114 RX6 yX6_of wsX6_of) := goodIn_app (goodIn_of _ (by decide +kernel)) ggX7_creditAt_X6_of
set_option maxRecDepth 20000 in
theorem ggX7_creditAt_X2_findBest : GoodIn wsX7_creditAt wsX2_findBest := goodIn_r _ [141, 142, 75, 5, 76, 143, 144, 145, 18, 146, 20, 147, 148, 95, 96, 97, 149, 36, 37, 108, 109, 110, 150, 151, 152, 153, 154, 155, 156, 157, 158, 159, 160, 161, 162, 175, 176, 177, 178, 179] (by decide +kernel) (by decide +kernel)
set_option maxRecDepth 20000 in
theorem gX7_creditAt_X2_findBest : GoodIn wsX7_creditAt (wsV RX7 183 RX2 yX2_findBest wsX2_findBest) := goodIn_app (goodIn_of _ (by decide +kernel)) ggX7_creditAt_X2_findBest
set_option maxRecDepth 20000 in
theorem ggX7_creditAt_X2_bestAt : GoodIn wsX7_creditAt wsX2_bestAt := goodIn_r _ [166, 154, 36, 5, 37, 175, 176, 177, 178, 179] (by decide +kernel) (by decide +kernel)
set_option maxRecDepth 20000 in
theorem gX7_creditAt_X2_bestAt : GoodIn wsX7_creditAt (wsV RX7 186 RX2 yX2_bestAt wsX2_bestAt) := goodIn_app (goodIn_of _ (by decide +kernel)) ggX7_creditAt_X2_bestAt
theorem dX7_creditAt_0 : decode cX7_creditAt 0 = .ok (.iload_n 1, 1) := by decide +kernel
theorem dX7_creditAt_1 : decode cX7_creditAt 1 = .ok (.invokestatic 67, 3) := by decide +kernel
theorem dX7_creditAt_4 : decode cX7_creditAt 4 = .ok (.iload_n 2, 1) := by decide +kernel
theorem dX7_creditAt_5 : decode cX7_creditAt 5 = .ok (.ifCond .lt 18, 3) := by decide +kernel
theorem dX7_creditAt_8 : decode cX7_creditAt 8 = .ok (.iload_n 2, 1) := by decide +kernel
theorem dX7_creditAt_9 : decode cX7_creditAt 9 = .ok (.aload_n 0, 1) := by decide +kernel
theorem dX7_creditAt_10 : decode cX7_creditAt 10 = .ok (.getfield 40, 3) := by decide +kernel
theorem dX7_creditAt_13 : decode cX7_creditAt 13 = .ok (.invokevirtual 178, 3) := by decide +kernel
theorem dX7_creditAt_16 : decode cX7_creditAt 16 = .ok (.if_icmp .ge 7, 3) := by decide +kernel
theorem dX7_creditAt_19 : decode cX7_creditAt 19 = .ok (.iconst 1, 1) := by decide +kernel
theorem dX7_creditAt_20 : decode cX7_creditAt 20 = .ok (.goto 4, 3) := by decide +kernel
theorem dX7_creditAt_23 : decode cX7_creditAt 23 = .ok (.iconst 0, 1) := by decide +kernel
theorem dX7_creditAt_24 : decode cX7_creditAt 24 = .ok (.invokestatic 134, 3) := by decide +kernel
theorem dX7_creditAt_27 : decode cX7_creditAt 27 = .ok (.aload_n 0, 1) := by decide +kernel
theorem dX7_creditAt_28 : decode cX7_creditAt 28 = .ok (.getfield 49, 3) := by decide +kernel
theorem dX7_creditAt_31 : decode cX7_creditAt 31 = .ok (.iconst (-1), 1) := by decide +kernel
theorem dX7_creditAt_32 : decode cX7_creditAt 32 = .ok (.invokevirtual 111, 3) := by decide +kernel
theorem dX7_creditAt_35 : decode cX7_creditAt 35 = .ok (.aload_n 0, 1) := by decide +kernel
theorem dX7_creditAt_36 : decode cX7_creditAt 36 = .ok (.getfield 40, 3) := by decide +kernel
theorem dX7_creditAt_39 : decode cX7_creditAt 39 = .ok (.aload_n 0, 1) := by decide +kernel
theorem dX7_creditAt_40 : decode cX7_creditAt 40 = .ok (.getfield 49, 3) := by decide +kernel
theorem dX7_creditAt_43 : decode cX7_creditAt 43 = .ok (.iload_n 1, 1) := by decide +kernel
theorem dX7_creditAt_44 : decode cX7_creditAt 44 = .ok (.invokevirtual 114, 3) := by decide +kernel
theorem dX7_creditAt_47 : decode cX7_creditAt 47 = .ok (.invokevirtual 183, 3) := by decide +kernel
theorem dX7_creditAt_50 : decode cX7_creditAt 50 = .ok (.pop, 1) := by decide +kernel
theorem dX7_creditAt_51 : decode cX7_creditAt 51 = .ok (.aload_n 0, 1) := by decide +kernel
theorem dX7_creditAt_52 : decode cX7_creditAt 52 = .ok (.getfield 40, 3) := by decide +kernel
theorem dX7_creditAt_55 : decode cX7_creditAt 55 = .ok (.iload_n 2, 1) := by decide +kernel
theorem dX7_creditAt_56 : decode cX7_creditAt 56 = .ok (.invokevirtual 186, 3) := by decide +kernel
theorem dX7_creditAt_59 : decode cX7_creditAt 59 = .ok (.ireturn, 1) := by decide +kernel
set_option maxRecDepth 20000 in
theorem ggX7_afterCredits_X7_checkLine : GoodIn wsX7_afterCredits wsX7_checkLine := goodIn_ca (goodIn_r _ [10, 11, 12, 9, 13, 14, 15, 16, 17, 18] (by decide +kernel) (by decide +kernel)) (goodIn_sub (fun _ h => List.mem_cons_of_mem _ (List.mem_append_right _ h)) (by decide +kernel))
set_option maxRecDepth 20000 in
theorem gX7_afterCredits_X7_checkLine : GoodIn wsX7_afterCredits (va_wsS RX7 67 yX7_checkLine wsX7_checkLine) := goodIn_app (goodIn_of _ (by decide +kernel)) ggX7_afterCredits_X7_checkLine
set_option maxRecDepth 20000 in
theorem ggX7_afterCredits_X6_workOut : GoodIn wsX7_afterCredits wsX6_workOut := goodIn_r _ [23, 24, 25, 26, 27, 28, 29, 30, 31, 32, 33, 34, 9, 35, 36, 37, 38, 39, 40, 41, 42, 43, 44, 45, 46, 47, 48, 49, 50, 51, 52, 53, 54, 55, 56, 57, 58, 22, 59, 60, 61, 62, 63, 64, 65, 66, 67, 68, 69, 70, 71, 72, 73, 74, 75, 76, 77, 78, 79, 80, 81, 82, 83, 84, 85, 86, 87, 88, 89, 90, 91, 92, 4, 5, 6, 93, 94, 95, 96, 97, 98, 99, 100, 101, 102, 103, 104, 105, 106, 107, 108, 109, 110, 111, 112, 113, 114, 115, 116, 117, 118, 119, 120, 121, 122, 123, 124, 125, 126, 127, 128, 129, 130, 131, 148, 149, 150, 151, 152, 153, 154, 155, 156, 157, 158, 159, 160, 161, 162, 163, 164, 165, 166, 167, 168, 169, 170, 171] (by decide +kernel) (by decide +kernel)
set_option maxRecDepth 20000 in
theorem gX7_afterCredits_X6_workOut : GoodIn wsX7_afterCredits (wsV RX7 111 RX6 yX6_workOut wsX6_workOut) := goodIn_app (goodIn_of _ (by decide +kernel)) ggX7_afterCredits_X6_workOut
set_option maxRecDepth 20000 in
theorem ggX7_afterCredits_X6_of : GoodIn wsX7_afterCredits wsX6_of := goodIn_r _ [68, 27, 34, 9, 35, 148, 149, 150, 151, 152, 153] (by decide +kernel) (by decide +kernel)
set_option maxRecDepth 20000 in
theorem gX7_afterCredits_X6_of : GoodIn wsX7_afterCredits (wsV RX7 114 RX6 yX6_of wsX6_of) := goodIn_app (goodIn_of _ (by decide +kernel)) ggX7_afterCredits_X6_of
set_option maxRecDepth 20000 in
theorem ggX7_afterCredits_X2_total : GoodIn wsX7_afterCredits wsX2_total := goodIn_r _ [137, 138, 139, 34, 9, 35, 172, 173, 174, 175, 176] (by decide +kernel) (by decide +kernel)
set_option maxRecDepth 20000 in
theorem gX7_afterCredits_X2_total : GoodIn wsX7_afterCredits (wsV RX7 189 RX2 yX2_total wsX2_total) := goodIn_app (goodIn_of _ (by decide +kernel)) ggX7_afterCredits_X2_total
theorem dX7_afterCredits_0 : decode cX7_afterCredits 0 = .ok (.iload_n 1, 1) := by decide +kernel
theorem dX7_afterCredits_1 : decode cX7_afterCredits 1 = .ok (.invokestatic 67, 3) := by decide +kernel
theorem dX7_afterCredits_4 : decode cX7_afterCredits 4 = .ok (.aload_n 0, 1) := by decide +kernel
theorem dX7_afterCredits_5 : decode cX7_afterCredits 5 = .ok (.getfield 49, 3) := by decide +kernel
theorem dX7_afterCredits_8 : decode cX7_afterCredits 8 = .ok (.iconst (-1), 1) := by decide +kernel
theorem dX7_afterCredits_9 : decode cX7_afterCredits 9 = .ok (.invokevirtual 111, 3) := by decide +kernel
theorem dX7_afterCredits_12 : decode cX7_afterCredits 12 = .ok (.aload_n 0, 1) := by decide +kernel
theorem dX7_afterCredits_13 : decode cX7_afterCredits 13 = .ok (.getfield 49, 3) := by decide +kernel
theorem dX7_afterCredits_16 : decode cX7_afterCredits 16 = .ok (.iload_n 1, 1) := by decide +kernel
theorem dX7_afterCredits_17 : decode cX7_afterCredits 17 = .ok (.invokevirtual 114, 3) := by decide +kernel
theorem dX7_afterCredits_20 : decode cX7_afterCredits 20 = .ok (.istore_n 2, 1) := by decide +kernel
theorem dX7_afterCredits_21 : decode cX7_afterCredits 21 = .ok (.iload_n 2, 1) := by decide +kernel
theorem dX7_afterCredits_22 : decode cX7_afterCredits 22 = .ok (.iload_n 2, 1) := by decide +kernel
theorem dX7_afterCredits_23 : decode cX7_afterCredits 23 = .ok (.aload_n 0, 1) := by decide +kernel
theorem dX7_afterCredits_24 : decode cX7_afterCredits 24 = .ok (.getfield 40, 3) := by decide +kernel
theorem dX7_afterCredits_27 : decode cX7_afterCredits 27 = .ok (.invokevirtual 189, 3) := by decide +kernel
theorem dX7_afterCredits_30 : decode cX7_afterCredits 30 = .ok (.invokestatic 190, 3) := by decide +kernel
theorem dX7_afterCredits_33 : decode cX7_afterCredits 33 = .ok (.isub, 1) := by decide +kernel
theorem dX7_afterCredits_34 : decode cX7_afterCredits 34 = .ok (.ireturn, 1) := by decide +kernel
set_option maxRecDepth 20000 in
theorem ggX7_bestSum_X7_checkLine : GoodIn wsX7_bestSum wsX7_checkLine := goodIn_ca (goodIn_r _ [6, 7, 8, 5, 9, 10, 11, 12, 13, 14] (by decide +kernel) (by decide +kernel)) (goodIn_sub (fun _ h => List.mem_cons_of_mem _ (List.mem_append_right _ h)) (by decide +kernel))
set_option maxRecDepth 20000 in
theorem gX7_bestSum_X7_checkLine : GoodIn wsX7_bestSum (va_wsS RX7 67 yX7_checkLine wsX7_checkLine) := goodIn_app (goodIn_of _ (by decide +kernel)) ggX7_bestSum_X7_checkLine
set_option maxRecDepth 20000 in
theorem ggX7_bestSum_X6_workOut : GoodIn wsX7_bestSum wsX6_workOut := goodIn_r _ [19, 20, 21, 22, 23, 24, 25, 26, 27, 28, 29, 30, 5, 31, 32, 33, 34, 35, 36, 37, 38, 39, 40, 41, 42, 43, 44, 45, 46, 47, 48, 49, 50, 51, 52, 53, 54, 18, 55, 56, 57, 58, 59, 60, 61, 62, 63, 64, 65, 66, 67, 68, 69, 70, 71, 72, 73, 74, 75, 76, 77, 78, 79, 80, 81, 82, 83, 84, 85, 86, 87, 88, 89, 90, 91, 92, 93, 94, 95, 96, 97, 98, 99, 100, 101, 102, 103, 104, 105, 106, 107, 108, 109, 110, 111, 112, 113, 114, 115, 116, 117, 118, 119, 120, 121, 122, 123, 124, 125, 126, 127, 128, 129, 130, 167, 168, 169, 170, 171, 172, 173, 174, 175, 176, 177, 178, 179, 180, 181, 182, 183, 184, 185, 186, 187, 188, 189, 190] (by decide +kernel) (by decide +kernel)
set_option maxRecDepth 20000 in
theorem gX7_bestSum_X6_workOut : GoodIn wsX7_bestSum (wsV RX7 111 RX6 yX6_workOut wsX6_workOut) := goodIn_app (goodIn_of _ (by decide +kernel)) ggX7_bestSum_X6_workOut
set_option maxRecDepth 20000 in
theorem ggX7_bestSum_X6_of : GoodIn wsX7_bestSum wsX6_of := goodIn_r _ [64, 23, 30, 5, 31, 167, 168, 169, 170, 171, 172] (by decide +kernel) (by decide +kernel)
set_option maxRecDepth 20000 in
theorem gX7_bestSum_X6_of : GoodIn wsX7_bestSum (wsV RX7 114 RX6 yX6_of wsX6_of) := goodIn_app (goodIn_of _ (by decide +kernel)) ggX7_bestSum_X6_of
set_option maxRecDepth 20000 in
theorem ggX7_bestSum_X2_findBest : GoodIn wsX7_bestSum wsX2_findBest := goodIn_r _ [136, 137, 69, 5, 70, 138, 139, 140, 135, 141, 142, 143, 144, 89, 90, 91, 145, 30, 31, 102, 103, 104, 146, 147, 148, 149, 150, 151, 152, 153, 154, 155, 156, 157, 158, 191, 192, 193, 194, 195] (by decide +kernel) (by decide +kernel)
set_option maxRecDepth 20000 in
theorem gX7_bestSum_X2_findBest : GoodIn wsX7_bestSum (wsV RX7 183 RX2 yX2_findBest wsX2_findBest) := goodIn_app (goodIn_of _ (by decide +kernel)) ggX7_bestSum_X2_findBest
theorem dX7_bestSum_0 : decode cX7_bestSum 0 = .ok (.iload_n 1, 1) := by decide +kernel
theorem dX7_bestSum_1 : decode cX7_bestSum 1 = .ok (.invokestatic 67, 3) := by decide +kernel
theorem dX7_bestSum_4 : decode cX7_bestSum 4 = .ok (.aload_n 0, 1) := by decide +kernel
theorem dX7_bestSum_5 : decode cX7_bestSum 5 = .ok (.getfield 49, 3) := by decide +kernel
theorem dX7_bestSum_8 : decode cX7_bestSum 8 = .ok (.iconst (-1), 1) := by decide +kernel
theorem dX7_bestSum_9 : decode cX7_bestSum 9 = .ok (.invokevirtual 111, 3) := by decide +kernel
theorem dX7_bestSum_12 : decode cX7_bestSum 12 = .ok (.aload_n 0, 1) := by decide +kernel
theorem dX7_bestSum_13 : decode cX7_bestSum 13 = .ok (.getfield 40, 3) := by decide +kernel
theorem dX7_bestSum_16 : decode cX7_bestSum 16 = .ok (.aload_n 0, 1) := by decide +kernel
theorem dX7_bestSum_17 : decode cX7_bestSum 17 = .ok (.getfield 49, 3) := by decide +kernel
theorem dX7_bestSum_20 : decode cX7_bestSum 20 = .ok (.iload_n 1, 1) := by decide +kernel
theorem dX7_bestSum_21 : decode cX7_bestSum 21 = .ok (.invokevirtual 114, 3) := by decide +kernel
theorem dX7_bestSum_24 : decode cX7_bestSum 24 = .ok (.invokevirtual 183, 3) := by decide +kernel
theorem dX7_bestSum_27 : decode cX7_bestSum 27 = .ok (.ireturn, 1) := by decide +kernel
set_option maxRecDepth 20000 in
theorem ggX7_checkLine_X7_isWithin : GoodIn wsX7_checkLine wsX7_isWithin := goodIn_r _ [4] (by decide +kernel) (by decide +kernel)
set_option maxRecDepth 20000 in
theorem gX7_checkLine_X7_isWithin : GoodIn wsX7_checkLine (va_wsS RX7 71 yX7_isWithin wsX7_isWithin) := goodIn_app (goodIn_of _ (by decide +kernel)) ggX7_checkLine_X7_isWithin
set_option maxRecDepth 20000 in
theorem ggX7_checkLine_X7_checkPlace : GoodIn wsX7_checkLine wsX7_checkPlace := goodIn_ca (goodIn_r _ [7, 8, 9] (by decide +kernel) (by decide +kernel)) (goodIn_sub (fun _ h => List.mem_cons_of_mem _ (List.mem_append_right _ h)) (by decide +kernel))
set_option maxRecDepth 20000 in
theorem gX7_checkLine_X7_checkPlace : GoodIn wsX7_checkLine (va_wsS RX7 134 yX7_checkPlace wsX7_checkPlace) := goodIn_app (goodIn_of _ (by decide +kernel)) ggX7_checkLine_X7_checkPlace
theorem dX7_checkLine_0 : decode cX7_checkLine 0 = .ok (.iload_n 0, 1) := by decide +kernel
theorem dX7_checkLine_1 : decode cX7_checkLine 1 = .ok (.iconst 0, 1) := by decide +kernel
theorem dX7_checkLine_2 : decode cX7_checkLine 2 = .ok (.bipush 15, 2) := by decide +kernel
theorem dX7_checkLine_4 : decode cX7_checkLine 4 = .ok (.invokestatic 71, 3) := by decide +kernel
theorem dX7_checkLine_7 : decode cX7_checkLine 7 = .ok (.invokestatic 134, 3) := by decide +kernel
theorem dX7_checkLine_10 : decode cX7_checkLine 10 = .ok (.return_, 1) := by decide +kernel
theorem dX7_checkPlace_0 : decode cX7_checkPlace 0 = .ok (.iload_n 0, 1) := by decide +kernel
theorem dX7_checkPlace_1 : decode cX7_checkPlace 1 = .ok (.ifCond .ne 11, 3) := by decide +kernel
theorem dX7_checkPlace_4 : decode cX7_checkPlace 4 = .ok (.new 196, 3) := by decide +kernel
theorem dX7_checkPlace_7 : decode cX7_checkPlace 7 = .ok (.dup, 1) := by decide +kernel
theorem dX7_checkPlace_8 : decode cX7_checkPlace 8 = .ok (.invokespecial 198, 3) := by decide +kernel
theorem dX7_checkPlace_11 : decode cX7_checkPlace 11 = .ok (.athrow, 1) := by decide +kernel
theorem dX7_checkPlace_12 : decode cX7_checkPlace 12 = .ok (.return_, 1) := by decide +kernel
theorem dX7_checkArgument_0 : decode cX7_checkArgument 0 = .ok (.iload_n 0, 1) := by decide +kernel
theorem dX7_checkArgument_1 : decode cX7_checkArgument 1 = .ok (.ifCond .ne 11, 3) := by decide +kernel
theorem dX7_checkArgument_4 : decode cX7_checkArgument 4 = .ok (.new 199, 3) := by decide +kernel
theorem dX7_checkArgument_7 : decode cX7_checkArgument 7 = .ok (.dup, 1) := by decide +kernel
theorem dX7_checkArgument_8 : decode cX7_checkArgument 8 = .ok (.invokespecial 201, 3) := by decide +kernel
theorem dX7_checkArgument_11 : decode cX7_checkArgument 11 = .ok (.athrow, 1) := by decide +kernel
theorem dX7_checkArgument_12 : decode cX7_checkArgument 12 = .ok (.return_, 1) := by decide +kernel
theorem dX7_checkState_0 : decode cX7_checkState 0 = .ok (.iload_n 0, 1) := by decide +kernel
theorem dX7_checkState_1 : decode cX7_checkState 1 = .ok (.ifCond .ne 11, 3) := by decide +kernel
theorem dX7_checkState_4 : decode cX7_checkState 4 = .ok (.new 100, 3) := by decide +kernel
theorem dX7_checkState_7 : decode cX7_checkState 7 = .ok (.dup, 1) := by decide +kernel
theorem dX7_checkState_8 : decode cX7_checkState 8 = .ok (.invokespecial 102, 3) := by decide +kernel
theorem dX7_checkState_11 : decode cX7_checkState 11 = .ok (.athrow, 1) := by decide +kernel
theorem dX7_checkState_12 : decode cX7_checkState 12 = .ok (.return_, 1) := by decide +kernel
theorem dX7_isWithin_0 : decode cX7_isWithin 0 = .ok (.iload_n 0, 1) := by decide +kernel
theorem dX7_isWithin_1 : decode cX7_isWithin 1 = .ok (.iload_n 1, 1) := by decide +kernel
theorem dX7_isWithin_2 : decode cX7_isWithin 2 = .ok (.if_icmp .lt 12, 3) := by decide +kernel
theorem dX7_isWithin_5 : decode cX7_isWithin 5 = .ok (.iload_n 0, 1) := by decide +kernel
theorem dX7_isWithin_6 : decode cX7_isWithin 6 = .ok (.iload_n 2, 1) := by decide +kernel
theorem dX7_isWithin_7 : decode cX7_isWithin 7 = .ok (.if_icmp .gt 7, 3) := by decide +kernel
theorem dX7_isWithin_10 : decode cX7_isWithin 10 = .ok (.iconst 1, 1) := by decide +kernel
theorem dX7_isWithin_11 : decode cX7_isWithin 11 = .ok (.goto 4, 3) := by decide +kernel
theorem dX7_isWithin_14 : decode cX7_isWithin 14 = .ok (.iconst 0, 1) := by decide +kernel
theorem dX7_isWithin_15 : decode cX7_isWithin 15 = .ok (.ireturn, 1) := by decide +kernel
theorem dX7_takesFirst_0 : decode cX7_takesFirst 0 = .ok (.iload_n 0, 1) := by decide +kernel
theorem dX7_takesFirst_1 : decode cX7_takesFirst 1 = .ok (.ifCond .eq 7, 3) := by decide +kernel
theorem dX7_takesFirst_4 : decode cX7_takesFirst 4 = .ok (.iconst 1, 1) := by decide +kernel
theorem dX7_takesFirst_5 : decode cX7_takesFirst 5 = .ok (.goto 4, 3) := by decide +kernel
theorem dX7_takesFirst_8 : decode cX7_takesFirst 8 = .ok (.iconst 0, 1) := by decide +kernel
theorem dX7_takesFirst_9 : decode cX7_takesFirst 9 = .ok (.ireturn, 1) := by decide +kernel
theorem dX7_takesSecond_0 : decode cX7_takesSecond 0 = .ok (.iload_n 0, 1) := by decide +kernel
theorem dX7_takesSecond_1 : decode cX7_takesSecond 1 = .ok (.iconst 1, 1) := by decide +kernel
theorem dX7_takesSecond_2 : decode cX7_takesSecond 2 = .ok (.if_icmp .eq 24, 3) := by decide +kernel
theorem dX7_takesSecond_5 : decode cX7_takesSecond 5 = .ok (.iload_n 0, 1) := by decide +kernel
theorem dX7_takesSecond_6 : decode cX7_takesSecond 6 = .ok (.iconst 2, 1) := by decide +kernel
theorem dX7_takesSecond_7 : decode cX7_takesSecond 7 = .ok (.if_icmp .eq 19, 3) := by decide +kernel
theorem dX7_takesSecond_10 : decode cX7_takesSecond 10 = .ok (.iload_n 0, 1) := by decide +kernel
theorem dX7_takesSecond_11 : decode cX7_takesSecond 11 = .ok (.iconst 4, 1) := by decide +kernel
theorem dX7_takesSecond_12 : decode cX7_takesSecond 12 = .ok (.if_icmp .eq 14, 3) := by decide +kernel
theorem dX7_takesSecond_15 : decode cX7_takesSecond 15 = .ok (.iload_n 0, 1) := by decide +kernel
theorem dX7_takesSecond_16 : decode cX7_takesSecond 16 = .ok (.iconst 5, 1) := by decide +kernel
theorem dX7_takesSecond_17 : decode cX7_takesSecond 17 = .ok (.if_icmp .eq 9, 3) := by decide +kernel
theorem dX7_takesSecond_20 : decode cX7_takesSecond 20 = .ok (.iload_n 0, 1) := by decide +kernel
theorem dX7_takesSecond_21 : decode cX7_takesSecond 21 = .ok (.bipush 8, 2) := by decide +kernel
theorem dX7_takesSecond_23 : decode cX7_takesSecond 23 = .ok (.if_icmp .ne 7, 3) := by decide +kernel
theorem dX7_takesSecond_26 : decode cX7_takesSecond 26 = .ok (.iconst 1, 1) := by decide +kernel
theorem dX7_takesSecond_27 : decode cX7_takesSecond 27 = .ok (.goto 4, 3) := by decide +kernel
theorem dX7_takesSecond_30 : decode cX7_takesSecond 30 = .ok (.iconst 0, 1) := by decide +kernel
theorem dX7_takesSecond_31 : decode cX7_takesSecond 31 = .ok (.ireturn, 1) := by decide +kernel
theorem dX7_bit_0 : decode cX7_bit 0 = .ok (.iconst 1, 1) := by decide +kernel
theorem dX7_bit_1 : decode cX7_bit 1 = .ok (.iload_n 0, 1) := by decide +kernel
theorem dX7_bit_2 : decode cX7_bit 2 = .ok (.ishl, 1) := by decide +kernel
theorem dX7_bit_3 : decode cX7_bit 3 = .ok (.ireturn, 1) := by decide +kernel
set_option maxRecDepth 20000 in
theorem ggX7_has_X7_bit : GoodIn wsX7_has wsX7_bit := goodIn_r _ [4] (by decide +kernel) (by decide +kernel)
set_option maxRecDepth 20000 in
theorem gX7_has_X7_bit : GoodIn wsX7_has (va_wsS RX7 202 yX7_bit wsX7_bit) := goodIn_app (goodIn_of _ (by decide +kernel)) ggX7_has_X7_bit
theorem dX7_has_0 : decode cX7_has 0 = .ok (.iload_n 0, 1) := by decide +kernel
theorem dX7_has_1 : decode cX7_has 1 = .ok (.iload_n 1, 1) := by decide +kernel
theorem dX7_has_2 : decode cX7_has 2 = .ok (.invokestatic 202, 3) := by decide +kernel
theorem dX7_has_5 : decode cX7_has 5 = .ok (.iand, 1) := by decide +kernel
theorem dX7_has_6 : decode cX7_has 6 = .ok (.ifCond .eq 7, 3) := by decide +kernel
theorem dX7_has_9 : decode cX7_has 9 = .ok (.iconst 1, 1) := by decide +kernel
theorem dX7_has_10 : decode cX7_has 10 = .ok (.goto 4, 3) := by decide +kernel
theorem dX7_has_13 : decode cX7_has 13 = .ok (.iconst 0, 1) := by decide +kernel
theorem dX7_has_14 : decode cX7_has 14 = .ok (.ireturn, 1) := by decide +kernel
theorem dX7_thousandths_0 : decode cX7_thousandths 0 = .ok (.iload_n 0, 1) := by decide +kernel
theorem dX7_thousandths_1 : decode cX7_thousandths 1 = .ok (.i2l, 1) := by decide +kernel
theorem dX7_thousandths_2 : decode cX7_thousandths 2 = .ok (.iload_n 1, 1) := by decide +kernel
theorem dX7_thousandths_3 : decode cX7_thousandths 3 = .ok (.i2l, 1) := by decide +kernel
theorem dX7_thousandths_4 : decode cX7_thousandths 4 = .ok (.lmul, 1) := by decide +kernel
theorem dX7_thousandths_5 : decode cX7_thousandths 5 = .ok (.ldc2_w 205, 3) := by decide +kernel
theorem dX7_thousandths_8 : decode cX7_thousandths 8 = .ok (.ldiv, 1) := by decide +kernel
theorem dX7_thousandths_9 : decode cX7_thousandths 9 = .ok (.l2i, 1) := by decide +kernel
theorem dX7_thousandths_10 : decode cX7_thousandths 10 = .ok (.ireturn, 1) := by decide +kernel
theorem dX7_at_0 : decode cX7_at 0 = .ok (.iload_n 1, 1) := by decide +kernel
theorem dX7_at_1 : decode cX7_at 1 = .ok (.ifCond .lt 15, 3) := by decide +kernel
theorem dX7_at_4 : decode cX7_at 4 = .ok (.iload_n 1, 1) := by decide +kernel
theorem dX7_at_5 : decode cX7_at 5 = .ok (.aload_n 0, 1) := by decide +kernel
theorem dX7_at_6 : decode cX7_at 6 = .ok (.arraylength, 1) := by decide +kernel
theorem dX7_at_7 : decode cX7_at 7 = .ok (.if_icmp .ge 9, 3) := by decide +kernel
theorem dX7_at_10 : decode cX7_at 10 = .ok (.aload_n 0, 1) := by decide +kernel
theorem dX7_at_11 : decode cX7_at 11 = .ok (.iload_n 1, 1) := by decide +kernel
theorem dX7_at_12 : decode cX7_at 12 = .ok (.iaload, 1) := by decide +kernel
theorem dX7_at_13 : decode cX7_at 13 = .ok (.goto 4, 3) := by decide +kernel
theorem dX7_at_16 : decode cX7_at 16 = .ok (.iconst 0, 1) := by decide +kernel
theorem dX7_at_17 : decode cX7_at 17 = .ok (.ireturn, 1) := by decide +kernel
theorem dX7_put_0 : decode cX7_put 0 = .ok (.iload_n 1, 1) := by decide +kernel
theorem dX7_put_1 : decode cX7_put 1 = .ok (.ifCond .lt 13, 3) := by decide +kernel
theorem dX7_put_4 : decode cX7_put 4 = .ok (.iload_n 1, 1) := by decide +kernel
theorem dX7_put_5 : decode cX7_put 5 = .ok (.aload_n 0, 1) := by decide +kernel
theorem dX7_put_6 : decode cX7_put 6 = .ok (.arraylength, 1) := by decide +kernel
theorem dX7_put_7 : decode cX7_put 7 = .ok (.if_icmp .ge 7, 3) := by decide +kernel
theorem dX7_put_10 : decode cX7_put 10 = .ok (.aload_n 0, 1) := by decide +kernel
theorem dX7_put_11 : decode cX7_put 11 = .ok (.iload_n 1, 1) := by decide +kernel
theorem dX7_put_12 : decode cX7_put 12 = .ok (.iload_n 2, 1) := by decide +kernel
theorem dX7_put_13 : decode cX7_put 13 = .ok (.iastore, 1) := by decide +kernel
theorem dX7_put_14 : decode cX7_put 14 = .ok (.return_, 1) := by decide +kernel
