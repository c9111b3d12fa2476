theorem dX8_solves_38 : decode cX8_solves 38 = .ok (.iconst 0, 1) := by decide +kernel
theorem dX8_solves_39 : decode cX8_solves 39 = .ok (.iastore, 1) := by decide +kernel
theorem dX8_solves_40 : decode cX8_solves 40 = .ok (.iinc 3 1, 3) := by decide +kernel
theorem dX8_solves_43 : decode cX8_solves 43 = .ok (.goto (-41), 3) := by decide +kernel
theorem dX8_solves_46 : decode cX8_solves 46 = .ok (.aload_n 0, 1) := by decide +kernel
theorem dX8_solves_47 : decode cX8_solves 47 = .ok (.iconst 0, 1) := by decide +kernel
theorem dX8_solves_48 : decode cX8_solves 48 = .ok (.invokevirtual 126, 3) := by decide +kernel
theorem dX8_solves_51 : decode cX8_solves 51 = .ok (.iconst 0, 1) := by decide +kernel
theorem dX8_solves_52 : decode cX8_solves 52 = .ok (.istore_n 3, 1) := by decide +kernel
theorem dX8_solves_53 : decode cX8_solves 53 = .ok (.iload_n 3, 1) := by decide +kernel
theorem dX8_solves_54 : decode cX8_solves 54 = .ok (.bipush 16, 2) := by decide +kernel
theorem dX8_solves_56 : decode cX8_solves 56 = .ok (.if_icmp .ge 83, 3) := by decide +kernel
theorem dX8_solves_59 : decode cX8_solves 59 = .ok (.iconst 0, 1) := by decide +kernel
theorem dX8_solves_60 : decode cX8_solves 60 = .ok (.istore 4, 2) := by decide +kernel
theorem dX8_solves_62 : decode cX8_solves 62 = .ok (.iload 4, 2) := by decide +kernel
theorem dX8_solves_64 : decode cX8_solves 64 = .ok (.bipush 16, 2) := by decide +kernel
theorem dX8_solves_66 : decode cX8_solves 66 = .ok (.if_icmp .ge 67, 3) := by decide +kernel
theorem dX8_solves_69 : decode cX8_solves 69 = .ok (.aload_n 0, 1) := by decide +kernel
theorem dX8_solves_70 : decode cX8_solves 70 = .ok (.getfield 7, 3) := by decide +kernel
theorem dX8_solves_73 : decode cX8_solves 73 = .ok (.iload 4, 2) := by decide +kernel
theorem dX8_solves_75 : decode cX8_solves 75 = .ok (.iaload, 1) := by decide +kernel
theorem dX8_solves_76 : decode cX8_solves 76 = .ok (.bipush 8, 2) := by decide +kernel
theorem dX8_solves_78 : decode cX8_solves 78 = .ok (.if_icmp .ne 49, 3) := by decide +kernel
theorem dX8_solves_81 : decode cX8_solves 81 = .ok (.aload_n 0, 1) := by decide +kernel
theorem dX8_solves_82 : decode cX8_solves 82 = .ok (.getfield 43, 3) := by decide +kernel
theorem dX8_solves_85 : decode cX8_solves 85 = .ok (.iload 4, 2) := by decide +kernel
theorem dX8_solves_87 : decode cX8_solves 87 = .ok (.baload, 1) := by decide +kernel
theorem dX8_solves_88 : decode cX8_solves 88 = .ok (.ifCond .ne 39, 3) := by decide +kernel
theorem dX8_solves_91 : decode cX8_solves 91 = .ok (.aload_n 0, 1) := by decide +kernel
theorem dX8_solves_92 : decode cX8_solves 92 = .ok (.getfield 43, 3) := by decide +kernel
theorem dX8_solves_95 : decode cX8_solves 95 = .ok (.aload_n 0, 1) := by decide +kernel
theorem dX8_solves_96 : decode cX8_solves 96 = .ok (.getfield 13, 3) := by decide +kernel
theorem dX8_solves_99 : decode cX8_solves 99 = .ok (.iload 4, 2) := by decide +kernel
theorem dX8_solves_101 : decode cX8_solves 101 = .ok (.iaload, 1) := by decide +kernel
theorem dX8_solves_102 : decode cX8_solves 102 = .ok (.baload, 1) := by decide +kernel
theorem dX8_solves_103 : decode cX8_solves 103 = .ok (.ifCond .eq 24, 3) := by decide +kernel
theorem dX8_solves_106 : decode cX8_solves 106 = .ok (.aload_n 0, 1) := by decide +kernel
theorem dX8_solves_107 : decode cX8_solves 107 = .ok (.iload 4, 2) := by decide +kernel
theorem dX8_solves_109 : decode cX8_solves 109 = .ok (.iconst 0, 1) := by decide +kernel
theorem dX8_solves_110 : decode cX8_solves 110 = .ok (.invokevirtual 129, 3) := by decide +kernel
theorem dX8_solves_113 : decode cX8_solves 113 = .ok (.ifCond .eq 14, 3) := by decide +kernel
theorem dX8_solves_116 : decode cX8_solves 116 = .ok (.aload_n 0, 1) := by decide +kernel
theorem dX8_solves_117 : decode cX8_solves 117 = .ok (.iload 4, 2) := by decide +kernel
theorem dX8_solves_119 : decode cX8_solves 119 = .ok (.invokevirtual 132, 3) := by decide +kernel
theorem dX8_solves_122 : decode cX8_solves 122 = .ok (.aload_n 0, 1) := by decide +kernel
theorem dX8_solves_123 : decode cX8_solves 123 = .ok (.iconst 0, 1) := by decide +kernel
theorem dX8_solves_124 : decode cX8_solves 124 = .ok (.invokevirtual 126, 3) := by decide +kernel
theorem dX8_solves_127 : decode cX8_solves 127 = .ok (.iinc 4 1, 3) := by decide +kernel
theorem dX8_solves_130 : decode cX8_solves 130 = .ok (.goto (-68), 3) := by decide +kernel
theorem dX8_solves_133 : decode cX8_solves 133 = .ok (.iinc 3 1, 3) := by decide +kernel
theorem dX8_solves_136 : decode cX8_solves 136 = .ok (.goto (-83), 3) := by decide +kernel
theorem dX8_solves_139 : decode cX8_solves 139 = .ok (.return_, 1) := by decide +kernel
set_option maxRecDepth 20000 in
theorem ggX8_value_X8_isLine : GoodIn wsX8_value wsX8_isLine := goodIn_r _ [6, 7, 8, 5, 9] (by decide +kernel) (by decide +kernel)
set_option maxRecDepth 20000 in
theorem gX8_value_X8_isLine : GoodIn wsX8_value (va_wsS RX8 98 yX8_isLine wsX8_isLine) := goodIn_app (goodIn_of _ (by decide +kernel)) ggX8_value_X8_isLine
set_option maxRecDepth 20000 in
theorem ggX8_value_X8_solves : GoodIn wsX8_value wsX8_solves := goodIn_r _ [13, 14, 2, 15, 16, 17, 18, 19, 5, 20, 21, 22, 23, 24, 25, 26, 27, 28, 29, 30, 31, 32, 33, 34, 35, 36, 37, 38, 39, 40, 41, 42, 43, 44, 45, 46, 47, 48, 49, 50, 51, 52, 53, 54, 55, 56, 57, 58, 59, 60, 61, 62, 63, 64, 65, 66, 67, 68, 69, 70, 71, 72, 73, 74, 75, 76, 77, 78, 79, 80, 81] (by decide +kernel) (by decide +kernel)
set_option maxRecDepth 20000 in
theorem gX8_value_X8_solves : GoodIn wsX8_value (wsV RX8 135 RX8 yX8_solves wsX8_solves) := goodIn_app (goodIn_of _ (by decide +kernel)) ggX8_value_X8_solves
theorem dX8_value_0 : decode cX8_value 0 = .ok (.aload_n 0, 1) := by decide +kernel
theorem dX8_value_1 : decode cX8_value 1 = .ok (.iload_n 1, 1) := by decide +kernel
theorem dX8_value_2 : decode cX8_value 2 = .ok (.invokestatic 98, 3) := by decide +kernel
theorem dX8_value_5 : decode cX8_value 5 = .ok (.ifCond .eq 7, 3) := by decide +kernel
theorem dX8_value_8 : decode cX8_value 8 = .ok (.iconst 0, 1) := by decide +kernel
theorem dX8_value_9 : decode cX8_value 9 = .ok (.goto 4, 3) := by decide +kernel
theorem dX8_value_12 : decode cX8_value 12 = .ok (.iconst 1, 1) := by decide +kernel
theorem dX8_value_13 : decode cX8_value 13 = .ok (.putfield 65, 3) := by decide +kernel
theorem dX8_value_16 : decode cX8_value 16 = .ok (.aload_n 0, 1) := by decide +kernel
theorem dX8_value_17 : decode cX8_value 17 = .ok (.getfield 65, 3) := by decide +kernel
theorem dX8_value_20 : decode cX8_value 20 = .ok (.ifCond .le 5, 3) := by decide +kernel
theorem dX8_value_23 : decode cX8_value 23 = .ok (.iconst 0, 1) := by decide +kernel
theorem dX8_value_24 : decode cX8_value 24 = .ok (.ireturn, 1) := by decide +kernel
theorem dX8_value_25 : decode cX8_value 25 = .ok (.aload_n 0, 1) := by decide +kernel
theorem dX8_value_26 : decode cX8_value 26 = .ok (.iconst (-1), 1) := by decide +kernel
theorem dX8_value_27 : decode cX8_value 27 = .ok (.iconst 0, 1) := by decide +kernel
theorem dX8_value_28 : decode cX8_value 28 = .ok (.invokevirtual 135, 3) := by decide +kernel
theorem dX8_value_31 : decode cX8_value 31 = .ok (.aload_n 0, 1) := by decide +kernel
theorem dX8_value_32 : decode cX8_value 32 = .ok (.getfield 40, 3) := by decide +kernel
theorem dX8_value_35 : decode cX8_value 35 = .ok (.iload_n 1, 1) := by decide +kernel
theorem dX8_value_36 : decode cX8_value 36 = .ok (.iaload, 1) := by decide +kernel
theorem dX8_value_37 : decode cX8_value 37 = .ok (.ireturn, 1) := by decide +kernel
set_option maxRecDepth 20000 in
theorem ggX8_boundFor_X8_isLine : GoodIn wsX8_boundFor wsX8_isLine := goodIn_r _ [9, 10, 11, 8, 12] (by decide +kernel) (by decide +kernel)
set_option maxRecDepth 20000 in
theorem gX8_boundFor_X8_isLine : GoodIn wsX8_boundFor (va_wsS RX8 98 yX8_isLine wsX8_isLine) := goodIn_app (goodIn_of _ (by decide +kernel)) ggX8_boundFor_X8_isLine
set_option maxRecDepth 20000 in
theorem ggX8_boundFor_X8_isIn : GoodIn wsX8_boundFor wsX8_isIn := goodIn_r _ [12] (by decide +kernel) (by decide +kernel)
set_option maxRecDepth 20000 in
theorem gX8_boundFor_X8_isIn : GoodIn wsX8_boundFor (va_wsS RX8 69 yX8_isIn wsX8_isIn) := goodIn_app (goodIn_of _ (by decide +kernel)) ggX8_boundFor_X8_isIn
set_option maxRecDepth 20000 in
theorem ggX8_boundFor_X8_solves : GoodIn wsX8_boundFor wsX8_solves := goodIn_r _ [16, 17, 4, 2, 18, 19, 20, 21, 8, 22, 5, 23, 24, 25, 26, 27, 28, 29, 30, 31, 32, 33, 34, 35, 1, 36, 37, 38, 39, 40, 41, 42, 43, 44, 45, 46, 47, 48, 49, 50, 51, 52, 53, 54, 55, 56, 57, 58, 59, 60, 61, 62, 63, 64, 65, 66, 67, 68, 69, 70, 71, 72, 73, 74, 75, 76, 77, 78, 79, 80, 81] (by decide +kernel) (by decide +kernel)
set_option maxRecDepth 20000 in
theorem gX8_boundFor_X8_solves : GoodIn wsX8_boundFor (wsV RX8 135 RX8 yX8_solves wsX8_solves) := goodIn_app (goodIn_of _ (by decide +kernel)) ggX8_boundFor_X8_solves
theorem dX8_boundFor_0 : decode cX8_boundFor 0 = .ok (.aload_n 0, 1) := by decide +kernel
theorem dX8_boundFor_1 : decode cX8_boundFor 1 = .ok (.iload_n 1, 1) := by decide +kernel
theorem dX8_boundFor_2 : decode cX8_boundFor 2 = .ok (.invokestatic 98, 3) := by decide +kernel
theorem dX8_boundFor_5 : decode cX8_boundFor 5 = .ok (.ifCond .ne 7, 3) := by decide +kernel
theorem dX8_boundFor_8 : decode cX8_boundFor 8 = .ok (.iconst 1, 1) := by decide +kernel
theorem dX8_boundFor_9 : decode cX8_boundFor 9 = .ok (.goto 33, 3) := by decide +kernel
theorem dX8_boundFor_12 : decode cX8_boundFor 12 = .ok (.iload_n 2, 1) := by decide +kernel
theorem dX8_boundFor_13 : decode cX8_boundFor 13 = .ok (.iconst 0, 1) := by decide +kernel
theorem dX8_boundFor_14 : decode cX8_boundFor 14 = .ok (.ldc 109, 2) := by decide +kernel
theorem dX8_boundFor_16 : decode cX8_boundFor 16 = .ok (.invokestatic 69, 3) := by decide +kernel
theorem dX8_boundFor_19 : decode cX8_boundFor 19 = .ok (.ifCond .ne 7, 3) := by decide +kernel
theorem dX8_boundFor_22 : decode cX8_boundFor 22 = .ok (.iconst 2, 1) := by decide +kernel
theorem dX8_boundFor_23 : decode cX8_boundFor 23 = .ok (.goto 19, 3) := by decide +kernel
theorem dX8_boundFor_26 : decode cX8_boundFor 26 = .ok (.aload_n 0, 1) := by decide +kernel
theorem dX8_boundFor_27 : decode cX8_boundFor 27 = .ok (.getfield 7, 3) := by decide +kernel
theorem dX8_boundFor_30 : decode cX8_boundFor 30 = .ok (.iload_n 1, 1) := by decide +kernel
theorem dX8_boundFor_31 : decode cX8_boundFor 31 = .ok (.iaload, 1) := by decide +kernel
theorem dX8_boundFor_32 : decode cX8_boundFor 32 = .ok (.bipush 8, 2) := by decide +kernel
theorem dX8_boundFor_34 : decode cX8_boundFor 34 = .ok (.if_icmp .eq 7, 3) := by decide +kernel
theorem dX8_boundFor_37 : decode cX8_boundFor 37 = .ok (.iconst 3, 1) := by decide +kernel
theorem dX8_boundFor_38 : decode cX8_boundFor 38 = .ok (.goto 4, 3) := by decide +kernel
theorem dX8_boundFor_41 : decode cX8_boundFor 41 = .ok (.iconst 0, 1) := by decide +kernel
theorem dX8_boundFor_42 : decode cX8_boundFor 42 = .ok (.putfield 65, 3) := by decide +kernel
theorem dX8_boundFor_45 : decode cX8_boundFor 45 = .ok (.aload_n 0, 1) := by decide +kernel
theorem dX8_boundFor_46 : decode cX8_boundFor 46 = .ok (.getfield 65, 3) := by decide +kernel
theorem dX8_boundFor_49 : decode cX8_boundFor 49 = .ok (.ifCond .le 5, 3) := by decide +kernel
theorem dX8_boundFor_52 : decode cX8_boundFor 52 = .ok (.iconst 0, 1) := by decide +kernel
theorem dX8_boundFor_53 : decode cX8_boundFor 53 = .ok (.ireturn, 1) := by decide +kernel
theorem dX8_boundFor_54 : decode cX8_boundFor 54 = .ok (.aload_n 0, 1) := by decide +kernel
theorem dX8_boundFor_55 : decode cX8_boundFor 55 = .ok (.iload_n 1, 1) := by decide +kernel
theorem dX8_boundFor_56 : decode cX8_boundFor 56 = .ok (.iload_n 2, 1) := by decide +kernel
theorem dX8_boundFor_57 : decode cX8_boundFor 57 = .ok (.invokevirtual 135, 3) := by decide +kernel
theorem dX8_boundFor_60 : decode cX8_boundFor 60 = .ok (.aload_n 0, 1) := by decide +kernel
theorem dX8_boundFor_61 : decode cX8_boundFor 61 = .ok (.getfield 40, 3) := by decide +kernel
theorem dX8_boundFor_64 : decode cX8_boundFor 64 = .ok (.aload_n 0, 1) := by decide +kernel
theorem dX8_boundFor_65 : decode cX8_boundFor 65 = .ok (.getfield 16, 3) := by decide +kernel
theorem dX8_boundFor_68 : decode cX8_boundFor 68 = .ok (.iload_n 1, 1) := by decide +kernel
theorem dX8_boundFor_69 : decode cX8_boundFor 69 = .ok (.iaload, 1) := by decide +kernel
theorem dX8_boundFor_70 : decode cX8_boundFor 70 = .ok (.iaload, 1) := by decide +kernel
theorem dX8_boundFor_71 : decode cX8_boundFor 71 = .ok (.ireturn, 1) := by decide +kernel
set_option maxRecDepth 20000 in
theorem ggX8_dependsOn_X8_isLine : GoodIn wsX8_dependsOn wsX8_isLine := goodIn_r _ [5, 6, 7, 4, 8] (by decide +kernel) (by decide +kernel)
set_option maxRecDepth 20000 in
theorem gX8_dependsOn_X8_isLine : GoodIn wsX8_dependsOn (va_wsS RX8 98 yX8_isLine wsX8_isLine) := goodIn_app (goodIn_of _ (by decide +kernel)) ggX8_dependsOn_X8_isLine
set_option maxRecDepth 20000 in
theorem ggX8_dependsOn_X8_laysNeeds : GoodIn wsX8_dependsOn wsX8_laysNeeds := goodIn_r _ [12, 13, 14, 15, 16, 17, 18, 4, 19, 20, 21, 22, 23, 24, 29, 30, 31, 32, 33, 34, 35, 36, 37, 38, 39, 40, 41, 42, 43, 44, 45, 46, 47, 48, 49, 50, 51, 52] (by decide +kernel) (by decide +kernel)
set_option maxRecDepth 20000 in
theorem gX8_dependsOn_X8_laysNeeds : GoodIn wsX8_dependsOn (wsV RX8 88 RX8 yX8_laysNeeds wsX8_laysNeeds) := goodIn_app (goodIn_of _ (by decide +kernel)) ggX8_dependsOn_X8_laysNeeds
set_option maxRecDepth 20000 in
theorem ggX8_dependsOn_X8_depends : GoodIn wsX8_dependsOn wsX8_depends := goodIn_r _ [28, 13, 29, 30, 31, 32, 33, 34, 35, 36, 37, 38, 39, 40, 41, 42, 43, 44, 45, 46, 47, 48, 49, 50, 51, 52] (by decide +kernel) (by decide +kernel)
set_option maxRecDepth 20000 in
theorem gX8_dependsOn_X8_depends : GoodIn wsX8_dependsOn (wsV RX8 80 RX8 yX8_depends wsX8_depends) := goodIn_app (goodIn_of _ (by decide +kernel)) ggX8_dependsOn_X8_depends
theorem dX8_dependsOn_0 : decode cX8_dependsOn 0 = .ok (.aload_n 0, 1) := by decide +kernel
theorem dX8_dependsOn_1 : decode cX8_dependsOn 1 = .ok (.iload_n 1, 1) := by decide +kernel
theorem dX8_dependsOn_2 : decode cX8_dependsOn 2 = .ok (.invokestatic 98, 3) := by decide +kernel
theorem dX8_dependsOn_5 : decode cX8_dependsOn 5 = .ok (.ifCond .eq 14, 3) := by decide +kernel
theorem dX8_dependsOn_8 : decode cX8_dependsOn 8 = .ok (.iload_n 2, 1) := by decide +kernel
theorem dX8_dependsOn_9 : decode cX8_dependsOn 9 = .ok (.invokestatic 98, 3) := by decide +kernel
theorem dX8_dependsOn_12 : decode cX8_dependsOn 12 = .ok (.ifCond .eq 7, 3) := by decide +kernel
theorem dX8_dependsOn_15 : decode cX8_dependsOn 15 = .ok (.iconst 0, 1) := by decide +kernel
theorem dX8_dependsOn_16 : decode cX8_dependsOn 16 = .ok (.goto 4, 3) := by decide +kernel
theorem dX8_dependsOn_19 : decode cX8_dependsOn 19 = .ok (.iconst 1, 1) := by decide +kernel
theorem dX8_dependsOn_20 : decode cX8_dependsOn 20 = .ok (.putfield 65, 3) := by decide +kernel
theorem dX8_dependsOn_23 : decode cX8_dependsOn 23 = .ok (.aload_n 0, 1) := by decide +kernel
theorem dX8_dependsOn_24 : decode cX8_dependsOn 24 = .ok (.getfield 65, 3) := by decide +kernel
theorem dX8_dependsOn_27 : decode cX8_dependsOn 27 = .ok (.ifCond .le 5, 3) := by decide +kernel
theorem dX8_dependsOn_30 : decode cX8_dependsOn 30 = .ok (.iconst 0, 1) := by decide +kernel
theorem dX8_dependsOn_31 : decode cX8_dependsOn 31 = .ok (.ireturn, 1) := by decide +kernel
theorem dX8_dependsOn_32 : decode cX8_dependsOn 32 = .ok (.aload_n 0, 1) := by decide +kernel
theorem dX8_dependsOn_33 : decode cX8_dependsOn 33 = .ok (.iconst (-1), 1) := by decide +kernel
theorem dX8_dependsOn_34 : decode cX8_dependsOn 34 = .ok (.invokevirtual 88, 3) := by decide +kernel
theorem dX8_dependsOn_37 : decode cX8_dependsOn 37 = .ok (.aload_n 0, 1) := by decide +kernel
theorem dX8_dependsOn_38 : decode cX8_dependsOn 38 = .ok (.iload_n 1, 1) := by decide +kernel
theorem dX8_dependsOn_39 : decode cX8_dependsOn 39 = .ok (.iload_n 2, 1) := by decide +kernel
theorem dX8_dependsOn_40 : decode cX8_dependsOn 40 = .ok (.invokevirtual 80, 3) := by decide +kernel
theorem dX8_dependsOn_43 : decode cX8_dependsOn 43 = .ok (.ireturn, 1) := by decide +kernel
set_option maxRecDepth 20000 in
theorem ggX8_influence_X8_isLine : GoodIn wsX8_influence wsX8_isLine := goodIn_r _ [9, 10, 11, 8, 12] (by decide +kernel) (by decide +kernel)
set_option maxRecDepth 20000 in
theorem gX8_influence_X8_isLine : GoodIn wsX8_influence (va_wsS RX8 98 yX8_isLine wsX8_isLine) := goodIn_app (goodIn_of _ (by decide +kernel)) ggX8_influence_X8_isLine
set_option maxRecDepth 20000 in
theorem ggX8_influence_X8_solves : GoodIn wsX8_influence wsX8_solves := goodIn_r _ [16, 17, 4, 2, 18, 19, 20, 21, 8, 22, 23, 24, 25, 26, 27, 28, 29, 30, 31, 32, 33, 34, 35, 5, 36, 37, 38, 39, 40, 41, 42, 43, 44, 45, 46, 47, 48, 49, 50, 51, 52, 53, 54, 55, 56, 57, 58, 59, 60, 61, 62, 63, 64, 65, 66, 67, 68, 69, 70, 71, 72, 73, 74, 75, 76, 77, 78, 79, 80, 81, 82] (by decide +kernel) (by decide +kernel)
set_option maxRecDepth 20000 in
theorem gX8_influence_X8_solves : GoodIn wsX8_influence (wsV RX8 135 RX8 yX8_solves wsX8_solves) := goodIn_app (goodIn_of _ (by decide +kernel)) ggX8_influence_X8_solves
theorem dX8_influence_0 : decode cX8_influence 0 = .ok (.aload_n 0, 1) := by decide +kernel
theorem dX8_influence_1 : decode cX8_influence 1 = .ok (.iload_n 1, 1) := by decide +kernel
theorem dX8_influence_2 : decode cX8_influence 2 = .ok (.invokestatic 98, 3) := by decide +kernel
theorem dX8_influence_5 : decode cX8_influence 5 = .ok (.ifCond .eq 7, 3) := by decide +kernel
theorem dX8_influence_8 : decode cX8_influence 8 = .ok (.iconst 0, 1) := by decide +kernel
theorem dX8_influence_9 : decode cX8_influence 9 = .ok (.goto 4, 3) := by decide +kernel
theorem dX8_influence_12 : decode cX8_influence 12 = .ok (.iconst 1, 1) := by decide +kernel
theorem dX8_influence_13 : decode cX8_influence 13 = .ok (.putfield 65, 3) := by decide +kernel
theorem dX8_influence_16 : decode cX8_influence 16 = .ok (.aload_n 0, 1) := by decide +kernel
theorem dX8_influence_17 : decode cX8_influence 17 = .ok (.getfield 65, 3) := by decide +kernel
theorem dX8_influence_20 : decode cX8_influence 20 = .ok (.ifCond .gt 12, 3) := by decide +kernel
theorem dX8_influence_23 : decode cX8_influence 23 = .ok (.aload_n 0, 1) := by decide +kernel
theorem dX8_influence_24 : decode cX8_influence 24 = .ok (.getfield 7, 3) := by decide +kernel
theorem dX8_influence_27 : decode cX8_influence 27 = .ok (.iload_n 1, 1) := by decide +kernel
theorem dX8_influence_28 : decode cX8_influence 28 = .ok (.iaload, 1) := by decide +kernel
theorem dX8_influence_29 : decode cX8_influence 29 = .ok (.ifCond .eq 5, 3) := by decide +kernel
theorem dX8_influence_32 : decode cX8_influence 32 = .ok (.iconst 0, 1) := by decide +kernel
theorem dX8_influence_33 : decode cX8_influence 33 = .ok (.ireturn, 1) := by decide +kernel
theorem dX8_influence_34 : decode cX8_influence 34 = .ok (.aload_n 0, 1) := by decide +kernel
theorem dX8_influence_35 : decode cX8_influence 35 = .ok (.iconst (-1), 1) := by decide +kernel
theorem dX8_influence_36 : decode cX8_influence 36 = .ok (.iconst 0, 1) := by decide +kernel
theorem dX8_influence_37 : decode cX8_influence 37 = .ok (.invokevirtual 135, 3) := by decide +kernel
theorem dX8_influence_40 : decode cX8_influence 40 = .ok (.iconst 0, 1) := by decide +kernel
theorem dX8_influence_41 : decode cX8_influence 41 = .ok (.istore_n 2, 1) := by decide +kernel
theorem dX8_influence_42 : decode cX8_influence 42 = .ok (.iload_n 2, 1) := by decide +kernel
theorem dX8_influence_43 : decode cX8_influence 43 = .ok (.bipush 16, 2) := by decide +kernel
theorem dX8_influence_45 : decode cX8_influence 45 = .ok (.if_icmp .ge 21, 3) := by decide +kernel
theorem dX8_influence_48 : decode cX8_influence 48 = .ok (.aload_n 0, 1) := by decide +kernel
theorem dX8_influence_49 : decode cX8_influence 49 = .ok (.getfield 56, 3) := by decide +kernel
theorem dX8_influence_52 : decode cX8_influence 52 = .ok (.iload_n 2, 1) := by decide +kernel
theorem dX8_influence_53 : decode cX8_influence 53 = .ok (.aload_n 0, 1) := by decide +kernel
theorem dX8_influence_54 : decode cX8_influence 54 = .ok (.getfield 40, 3) := by decide +kernel
theorem dX8_influence_57 : decode cX8_influence 57 = .ok (.iload_n 2, 1) := by decide +kernel
theorem dX8_influence_58 : decode cX8_influence 58 = .ok (.iaload, 1) := by decide +kernel
theorem dX8_influence_59 : decode cX8_influence 59 = .ok (.iastore, 1) := by decide +kernel
theorem dX8_influence_60 : decode cX8_influence 60 = .ok (.iinc 2 1, 3) := by decide +kernel
theorem dX8_influence_63 : decode cX8_influence 63 = .ok (.goto (-21), 3) := by decide +kernel
theorem dX8_influence_66 : decode cX8_influence 66 = .ok (.aload_n 0, 1) := by decide +kernel
theorem dX8_influence_67 : decode cX8_influence 67 = .ok (.getfield 19, 3) := by decide +kernel
theorem dX8_influence_70 : decode cX8_influence 70 = .ok (.iload_n 1, 1) := by decide +kernel
theorem dX8_influence_71 : decode cX8_influence 71 = .ok (.dup2, 1) := by decide +kernel
theorem dX8_influence_72 : decode cX8_influence 72 = .ok (.iaload, 1) := by decide +kernel
theorem dX8_influence_73 : decode cX8_influence 73 = .ok (.iconst 1, 1) := by decide +kernel
theorem dX8_influence_74 : decode cX8_influence 74 = .ok (.iadd, 1) := by decide +kernel
theorem dX8_influence_75 : decode cX8_influence 75 = .ok (.iastore, 1) := by decide +kernel
theorem dX8_influence_76 : decode cX8_influence 76 = .ok (.aload_n 0, 1) := by decide +kernel
theorem dX8_influence_77 : decode cX8_influence 77 = .ok (.iconst (-1), 1) := by decide +kernel
theorem dX8_influence_78 : decode cX8_influence 78 = .ok (.iconst 0, 1) := by decide +kernel
theorem dX8_influence_79 : decode cX8_influence 79 = .ok (.invokevirtual 135, 3) := by decide +kernel
theorem dX8_influence_82 : decode cX8_influence 82 = .ok (.aload_n 0, 1) := by decide +kernel
theorem dX8_influence_83 : decode cX8_influence 83 = .ok (.getfield 19, 3) := by decide +kernel
theorem dX8_influence_86 : decode cX8_influence 86 = .ok (.iload_n 1, 1) := by decide +kernel
theorem dX8_influence_87 : decode cX8_influence 87 = .ok (.dup2, 1) := by decide +kernel
theorem dX8_influence_88 : decode cX8_influence 88 = .ok (.iaload, 1) := by decide +kernel
theorem dX8_influence_89 : decode cX8_influence 89 = .ok (.iconst 1, 1) := by decide +kernel
theorem dX8_influence_90 : decode cX8_influence 90 = .ok (.isub, 1) := by decide +kernel
theorem dX8_influence_91 : decode cX8_influence 91 = .ok (.iastore, 1) := by decide +kernel
theorem dX8_influence_92 : decode cX8_influence 92 = .ok (.iconst 0, 1) := by decide +kernel
theorem dX8_influence_93 : decode cX8_influence 93 = .ok (.istore_n 2, 1) := by decide +kernel
theorem dX8_influence_94 : decode cX8_influence 94 = .ok (.iconst 0, 1) := by decide +kernel
theorem dX8_influence_95 : decode cX8_influence 95 = .ok (.istore_n 3, 1) := by decide +kernel
theorem dX8_influence_96 : decode cX8_influence 96 = .ok (.iload_n 3, 1) := by decide +kernel
theorem dX8_influence_97 : decode cX8_influence 97 = .ok (.bipush 16, 2) := by decide +kernel
theorem dX8_influence_99 : decode cX8_influence 99 = .ok (.if_icmp .ge 32, 3) := by decide +kernel
theorem dX8_influence_102 : decode cX8_influence 102 = .ok (.iload_n 2, 1) := by decide +kernel
theorem dX8_influence_103 : decode cX8_influence 103 = .ok (.aload_n 0, 1) := by decide +kernel
theorem dX8_influence_104 : decode cX8_influence 104 = .ok (.getfield 40, 3) := by decide +kernel
theorem dX8_influence_107 : decode cX8_influence 107 = .ok (.iload_n 3, 1) := by decide +kernel
theorem dX8_influence_108 : decode cX8_influence 108 = .ok (.iaload, 1) := by decide +kernel
theorem dX8_influence_109 : decode cX8_influence 109 = .ok (.aload_n 0, 1) := by decide +kernel
theorem dX8_influence_110 : decode cX8_influence 110 = .ok (.getfield 56, 3) := by decide +kernel
theorem dX8_influence_113 : decode cX8_influence 113 = .ok (.iload_n 3, 1) := by decide +kernel
theorem dX8_influence_114 : decode cX8_influence 114 = .ok (.iaload, 1) := by decide +kernel
theorem dX8_influence_115 : decode cX8_influence 115 = .ok (.if_icmp .eq 7, 3) := by decide +kernel
theorem dX8_influence_118 : decode cX8_influence 118 = .ok (.iconst 1, 1) := by decide +kernel
theorem dX8_influence_119 : decode cX8_influence 119 = .ok (.goto 4, 3) := by decide +kernel
theorem dX8_influence_122 : decode cX8_influence 122 = .ok (.iconst 0, 1) := by decide +kernel
theorem dX8_influence_123 : decode cX8_influence 123 = .ok (.iadd, 1) := by decide +kernel
theorem dX8_influence_124 : decode cX8_influence 124 = .ok (.istore_n 2, 1) := by decide +kernel
theorem dX8_influence_125 : decode cX8_influence 125 = .ok (.iinc 3 1, 3) := by decide +kernel
theorem dX8_influence_128 : decode cX8_influence 128 = .ok (.goto (-32), 3) := by decide +kernel
theorem dX8_influence_131 : decode cX8_influence 131 = .ok (.iload_n 2, 1) := by decide +kernel
theorem dX8_influence_132 : decode cX8_influence 132 = .ok (.ireturn, 1) := by decide +kernel
set_option maxRecDepth 20000 in
theorem ggX8_why_X8_isLine : GoodIn wsX8_why wsX8_isLine := goodIn_r _ [10, 11, 12, 9, 13] (by decide +kernel) (by decide +kernel)
set_option maxRecDepth 20000 in
theorem gX8_why_X8_isLine : GoodIn wsX8_why (va_wsS RX8 98 yX8_isLine wsX8_isLine) := goodIn_app (goodIn_of _ (by decide +kernel)) ggX8_why_X8_isLine
set_option maxRecDepth 20000 in
theorem ggX8_why_X8_solves : GoodIn wsX8_why wsX8_solves := goodIn_r _ [17, 18, 4, 3, 5, 19, 20, 21, 9, 22, 6, 23, 24, 25, 26, 27, 28, 29, 30, 31, 32, 33, 34, 35, 36, 37, 38, 39, 40, 41, 42, 43, 44, 45, 46, 47, 48, 49, 50, 51, 52, 53, 54, 55, 56, 57, 58, 59, 60, 61, 62, 63, 64, 65, 66, 67, 68, 69, 70, 71, 72, 73, 74, 75, 76, 77, 78, 79, 80, 81, 82] (by decide +kernel) (by decide +kernel)
set_option maxRecDepth 20000 in
theorem gX8_why_X8_solves : GoodIn wsX8_why (wsV RX8 135 RX8 yX8_solves wsX8_solves) := goodIn_app (goodIn_of _ (by decide +kernel)) ggX8_why_X8_solves
theorem dX8_why_0 : decode cX8_why 0 = .ok (.aload_n 0, 1) := by decide +kernel
theorem dX8_why_1 : decode cX8_why 1 = .ok (.iload_n 1, 1) := by decide +kernel
theorem dX8_why_2 : decode cX8_why 2 = .ok (.invokestatic 98, 3) := by decide +kernel
theorem dX8_why_5 : decode cX8_why 5 = .ok (.ifCond .eq 11, 3) := by decide +kernel
theorem dX8_why_8 : decode cX8_why 8 = .ok (.iload_n 2, 1) := by decide +kernel
theorem dX8_why_9 : decode cX8_why 9 = .ok (.ifCond .lt 7, 3) := by decide +kernel
theorem dX8_why_12 : decode cX8_why 12 = .ok (.iconst 0, 1) := by decide +kernel
theorem dX8_why_13 : decode cX8_why 13 = .ok (.goto 4, 3) := by decide +kernel
theorem dX8_why_16 : decode cX8_why 16 = .ok (.iconst 1, 1) := by decide +kernel
theorem dX8_why_17 : decode cX8_why 17 = .ok (.putfield 65, 3) := by decide +kernel
theorem dX8_why_20 : decode cX8_why 20 = .ok (.aload_n 0, 1) := by decide +kernel
theorem dX8_why_21 : decode cX8_why 21 = .ok (.getfield 65, 3) := by decide +kernel
theorem dX8_why_24 : decode cX8_why 24 = .ok (.ifCond .le 5, 3) := by decide +kernel
theorem dX8_why_27 : decode cX8_why 27 = .ok (.iconst 0, 1) := by decide +kernel
theorem dX8_why_28 : decode cX8_why 28 = .ok (.ireturn, 1) := by decide +kernel
theorem dX8_why_29 : decode cX8_why 29 = .ok (.aload_n 0, 1) := by decide +kernel
theorem dX8_why_30 : decode cX8_why 30 = .ok (.iconst (-1), 1) := by decide +kernel
theorem dX8_why_31 : decode cX8_why 31 = .ok (.iconst 0, 1) := by decide +kernel
theorem dX8_why_32 : decode cX8_why 32 = .ok (.invokevirtual 135, 3) := by decide +kernel
theorem dX8_why_35 : decode cX8_why 35 = .ok (.aload_n 0, 1) := by decide +kernel
theorem dX8_why_36 : decode cX8_why 36 = .ok (.getfield 53, 3) := by decide +kernel
theorem dX8_why_39 : decode cX8_why 39 = .ok (.iconst 0, 1) := by decide +kernel
theorem dX8_why_40 : decode cX8_why 40 = .ok (.iload_n 1, 1) := by decide +kernel
theorem dX8_why_41 : decode cX8_why 41 = .ok (.iastore, 1) := by decide +kernel
theorem dX8_why_42 : decode cX8_why 42 = .ok (.iconst 1, 1) := by decide +kernel
theorem dX8_why_43 : decode cX8_why 43 = .ok (.istore_n 3, 1) := by decide +kernel
theorem dX8_why_44 : decode cX8_why 44 = .ok (.iconst 1, 1) := by decide +kernel
theorem dX8_why_45 : decode cX8_why 45 = .ok (.iload_n 1, 1) := by decide +kernel
theorem dX8_why_46 : decode cX8_why 46 = .ok (.ishl, 1) := by decide +kernel
theorem dX8_why_47 : decode cX8_why 47 = .ok (.istore 4, 2) := by decide +kernel
theorem dX8_why_49 : decode cX8_why 49 = .ok (.iconst 0, 1) := by decide +kernel
theorem dX8_why_50 : decode cX8_why 50 = .ok (.istore 5, 2) := by decide +kernel
theorem dX8_why_52 : decode cX8_why 52 = .ok (.iload 5, 2) := by decide +kernel
theorem dX8_why_54 : decode cX8_why 54 = .ok (.iload_n 3, 1) := by decide +kernel
theorem dX8_why_55 : decode cX8_why 55 = .ok (.if_icmp .ge 221, 3) := by decide +kernel
theorem dX8_why_58 : decode cX8_why 58 = .ok (.aload_n 0, 1) := by decide +kernel
theorem dX8_why_59 : decode cX8_why 59 = .ok (.getfield 53, 3) := by decide +kernel
theorem dX8_why_62 : decode cX8_why 62 = .ok (.iload 5, 2) := by decide +kernel
theorem dX8_why_64 : decode cX8_why 64 = .ok (.iaload, 1) := by decide +kernel
theorem dX8_why_65 : decode cX8_why 65 = .ok (.istore 6, 2) := by decide +kernel
theorem dX8_why_67 : decode cX8_why 67 = .ok (.aload_n 0, 1) := by decide +kernel
theorem dX8_why_68 : decode cX8_why 68 = .ok (.getfield 7, 3) := by decide +kernel
theorem dX8_why_71 : decode cX8_why 71 = .ok (.iload 6, 2) := by decide +kernel
theorem dX8_why_73 : decode cX8_why 73 = .ok (.iaload, 1) := by decide +kernel
theorem dX8_why_74 : decode cX8_why 74 = .ok (.istore 7, 2) := by decide +kernel
theorem dX8_why_76 : decode cX8_why 76 = .ok (.iload 7, 2) := by decide +kernel
theorem dX8_why_78 : decode cX8_why 78 = .ok (.iconst 4, 1) := by decide +kernel
theorem dX8_why_79 : decode cX8_why 79 = .ok (.if_icmp .eq 16, 3) := by decide +kernel
theorem dX8_why_82 : decode cX8_why 82 = .ok (.iload 7, 2) := by decide +kernel
theorem dX8_why_84 : decode cX8_why 84 = .ok (.iconst 5, 1) := by decide +kernel
theorem dX8_why_85 : decode cX8_why 85 = .ok (.if_icmp .eq 10, 3) := by decide +kernel
theorem dX8_why_88 : decode cX8_why 88 = .ok (.iload 7, 2) := by decide +kernel
theorem dX8_why_90 : decode cX8_why 90 = .ok (.bipush 8, 2) := by decide +kernel
theorem dX8_why_92 : decode cX8_why 92 = .ok (.if_icmp .ne 7, 3) := by decide +kernel
theorem dX8_why_95 : decode cX8_why 95 = .ok (.iconst 1, 1) := by decide +kernel
theorem dX8_why_96 : decode cX8_why 96 = .ok (.goto 4, 3) := by decide +kernel
theorem dX8_why_99 : decode cX8_why 99 = .ok (.iconst 0, 1) := by decide +kernel
theorem dX8_why_100 : decode cX8_why 100 = .ok (.istore 8, 2) := by decide +kernel
theorem dX8_why_102 : decode cX8_why 102 = .ok (.iload 7, 2) := by decide +kernel
theorem dX8_why_104 : decode cX8_why 104 = .ok (.ifCond .eq 34, 3) := by decide +kernel
theorem dX8_why_107 : decode cX8_why 107 = .ok (.iload 8, 2) := by decide +kernel
theorem dX8_why_109 : decode cX8_why 109 = .ok (.ifCond .eq 25, 3) := by decide +kernel
theorem dX8_why_112 : decode cX8_why 112 = .ok (.aload_n 0, 1) := by decide +kernel
theorem dX8_why_113 : decode cX8_why 113 = .ok (.getfield 40, 3) := by decide +kernel
theorem dX8_why_116 : decode cX8_why 116 = .ok (.aload_n 0, 1) := by decide +kernel
theorem dX8_why_117 : decode cX8_why 117 = .ok (.getfield 13, 3) := by decide +kernel
theorem dX8_why_120 : decode cX8_why 120 = .ok (.iload 6, 2) := by decide +kernel
theorem dX8_why_122 : decode cX8_why 122 = .ok (.iaload, 1) := by decide +kernel
theorem dX8_why_123 : decode cX8_why 123 = .ok (.iaload, 1) := by decide +kernel
theorem dX8_why_124 : decode cX8_why 124 = .ok (.aload_n 0, 1) := by decide +kernel
theorem dX8_why_125 : decode cX8_why 125 = .ok (.getfield 40, 3) := by decide +kernel
theorem dX8_why_128 : decode cX8_why 128 = .ok (.iload 6, 2) := by decide +kernel
theorem dX8_why_130 : decode cX8_why 130 = .ok (.iaload, 1) := by decide +kernel
theorem dX8_why_131 : decode cX8_why 131 = .ok (.if_icmp .ne 7, 3) := by decide +kernel
theorem dX8_why_134 : decode cX8_why 134 = .ok (.iconst 1, 1) := by decide +kernel
theorem dX8_why_135 : decode cX8_why 135 = .ok (.goto 4, 3) := by decide +kernel
theorem dX8_why_138 : decode cX8_why 138 = .ok (.iconst 0, 1) := by decide +kernel
theorem dX8_why_139 : decode cX8_why 139 = .ok (.istore 9, 2) := by decide +kernel
theorem dX8_why_141 : decode cX8_why 141 = .ok (.iload 7, 2) := by decide +kernel
theorem dX8_why_143 : decode cX8_why 143 = .ok (.iconst 1, 1) := by decide +kernel
theorem dX8_why_144 : decode cX8_why 144 = .ok (.if_icmp .eq 19, 3) := by decide +kernel
theorem dX8_why_147 : decode cX8_why 147 = .ok (.iload 7, 2) := by decide +kernel
theorem dX8_why_149 : decode cX8_why 149 = .ok (.iconst 2, 1) := by decide +kernel
theorem dX8_why_150 : decode cX8_why 150 = .ok (.if_icmp .eq 13, 3) := by decide +kernel
theorem dX8_why_153 : decode cX8_why 153 = .ok (.iload 8, 2) := by decide +kernel
theorem dX8_why_155 : decode cX8_why 155 = .ok (.ifCond .eq 12, 3) := by decide +kernel
theorem dX8_why_158 : decode cX8_why 158 = .ok (.iload 9, 2) := by decide +kernel
theorem dX8_why_160 : decode cX8_why 160 = .ok (.ifCond .ne 7, 3) := by decide +kernel
theorem dX8_why_163 : decode cX8_why 163 = .ok (.iconst 1, 1) := by decide +kernel
theorem dX8_why_164 : decode cX8_why 164 = .ok (.goto 4, 3) := by decide +kernel
theorem dX8_why_167 : decode cX8_why 167 = .ok (.iconst 0, 1) := by decide +kernel
theorem dX8_why_168 : decode cX8_why 168 = .ok (.istore 10, 2) := by decide +kernel
theorem dX8_why_170 : decode cX8_why 170 = .ok (.iload 9, 2) := by decide +kernel
theorem dX8_why_172 : decode cX8_why 172 = .ok (.ifCond .eq 48, 3) := by decide +kernel
theorem dX8_why_175 : decode cX8_why 175 = .ok (.iload 4, 2) := by decide +kernel
theorem dX8_why_177 : decode cX8_why 177 = .ok (.aload_n 0, 1) := by decide +kernel
theorem dX8_why_178 : decode cX8_why 178 = .ok (.getfield 13, 3) := by decide +kernel
theorem dX8_why_181 : decode cX8_why 181 = .ok (.iload 6, 2) := by decide +kernel
theorem dX8_why_183 : decode cX8_why 183 = .ok (.iaload, 1) := by decide +kernel
theorem dX8_why_184 : decode cX8_why 184 = .ok (.ishr, 1) := by decide +kernel
theorem dX8_why_185 : decode cX8_why 185 = .ok (.iconst 1, 1) := by decide +kernel
theorem dX8_why_186 : decode cX8_why 186 = .ok (.iand, 1) := by decide +kernel
theorem dX8_why_187 : decode cX8_why 187 = .ok (.ifCond .ne 33, 3) := by decide +kernel
theorem dX8_why_190 : decode cX8_why 190 = .ok (.aload_n 0, 1) := by decide +kernel
theorem dX8_why_191 : decode cX8_why 191 = .ok (.getfield 53, 3) := by decide +kernel
theorem dX8_why_194 : decode cX8_why 194 = .ok (.iload_n 3, 1) := by decide +kernel
theorem dX8_why_195 : decode cX8_why 195 = .ok (.aload_n 0, 1) := by decide +kernel
theorem dX8_why_196 : decode cX8_why 196 = .ok (.getfield 13, 3) := by decide +kernel
theorem dX8_why_199 : decode cX8_why 199 = .ok (.iload 6, 2) := by decide +kernel
theorem dX8_why_201 : decode cX8_why 201 = .ok (.iaload, 1) := by decide +kernel
theorem dX8_why_202 : decode cX8_why 202 = .ok (.iastore, 1) := by decide +kernel
theorem dX8_why_203 : decode cX8_why 203 = .ok (.iload 4, 2) := by decide +kernel
theorem dX8_why_205 : decode cX8_why 205 = .ok (.iconst 1, 1) := by decide +kernel
theorem dX8_why_206 : decode cX8_why 206 = .ok (.aload_n 0, 1) := by decide +kernel
theorem dX8_why_207 : decode cX8_why 207 = .ok (.getfield 13, 3) := by decide +kernel
theorem dX8_why_210 : decode cX8_why 210 = .ok (.iload 6, 2) := by decide +kernel
theorem dX8_why_212 : decode cX8_why 212 = .ok (.iaload, 1) := by decide +kernel
theorem dX8_why_213 : decode cX8_why 213 = .ok (.ishl, 1) := by decide +kernel
theorem dX8_why_214 : decode cX8_why 214 = .ok (.ior, 1) := by decide +kernel
theorem dX8_why_215 : decode cX8_why 215 = .ok (.istore 4, 2) := by decide +kernel
theorem dX8_why_217 : decode cX8_why 217 = .ok (.iinc 3 1, 3) := by decide +kernel
theorem dX8_why_220 : decode cX8_why 220 = .ok (.iload 10, 2) := by decide +kernel
theorem dX8_why_222 : decode cX8_why 222 = .ok (.ifCond .eq 48, 3) := by decide +kernel
theorem dX8_why_225 : decode cX8_why 225 = .ok (.iload 4, 2) := by decide +kernel
theorem dX8_why_227 : decode cX8_why 227 = .ok (.aload_n 0, 1) := by decide +kernel
theorem dX8_why_228 : decode cX8_why 228 = .ok (.getfield 16, 3) := by decide +kernel
theorem dX8_why_231 : decode cX8_why 231 = .ok (.iload 6, 2) := by decide +kernel
theorem dX8_why_233 : decode cX8_why 233 = .ok (.iaload, 1) := by decide +kernel
theorem dX8_why_234 : decode cX8_why 234 = .ok (.ishr, 1) := by decide +kernel
theorem dX8_why_235 : decode cX8_why 235 = .ok (.iconst 1, 1) := by decide +kernel
theorem dX8_why_236 : decode cX8_why 236 = .ok (.iand, 1) := by decide +kernel
theorem dX8_why_237 : decode cX8_why 237 = .ok (.ifCond .ne 33, 3) := by decide +kernel
theorem dX8_why_240 : decode cX8_why 240 = .ok (.aload_n 0, 1) := by decide +kernel
theorem dX8_why_241 : decode cX8_why 241 = .ok (.getfield 53, 3) := by decide +kernel
theorem dX8_why_244 : decode cX8_why 244 = .ok (.iload_n 3, 1) := by decide +kernel
theorem dX8_why_245 : decode cX8_why 245 = .ok (.aload_n 0, 1) := by decide +kernel
theorem dX8_why_246 : decode cX8_why 246 = .ok (.getfield 16, 3) := by decide +kernel
theorem dX8_why_249 : decode cX8_why 249 = .ok (.iload 6, 2) := by decide +kernel
theorem dX8_why_251 : decode cX8_why 251 = .ok (.iaload, 1) := by decide +kernel
theorem dX8_why_252 : decode cX8_why 252 = .ok (.iastore, 1) := by decide +kernel
theorem dX8_why_253 : decode cX8_why 253 = .ok (.iload 4, 2) := by decide +kernel
theorem dX8_why_255 : decode cX8_why 255 = .ok (.iconst 1, 1) := by decide +kernel
theorem dX8_why_256 : decode cX8_why 256 = .ok (.aload_n 0, 1) := by decide +kernel
theorem dX8_why_257 : decode cX8_why 257 = .ok (.getfield 16, 3) := by decide +kernel
theorem dX8_why_260 : decode cX8_why 260 = .ok (.iload 6, 2) := by decide +kernel
theorem dX8_why_262 : decode cX8_why 262 = .ok (.iaload, 1) := by decide +kernel
theorem dX8_why_263 : decode cX8_why 263 = .ok (.ishl, 1) := by decide +kernel
theorem dX8_why_264 : decode cX8_why 264 = .ok (.ior, 1) := by decide +kernel
theorem dX8_why_265 : decode cX8_why 265 = .ok (.istore 4, 2) := by decide +kernel
theorem dX8_why_267 : decode cX8_why 267 = .ok (.iinc 3 1, 3) := by decide +kernel
theorem dX8_why_270 : decode cX8_why 270 = .ok (.iinc 5 1, 3) := by decide +kernel
theorem dX8_why_273 : decode cX8_why 273 = .ok (.goto (-221), 3) := by decide +kernel
theorem dX8_why_276 : decode cX8_why 276 = .ok (.iload_n 2, 1) := by decide +kernel
theorem dX8_why_277 : decode cX8_why 277 = .ok (.iload_n 3, 1) := by decide +kernel
theorem dX8_why_278 : decode cX8_why 278 = .ok (.if_icmp .ge 12, 3) := by decide +kernel
theorem dX8_why_281 : decode cX8_why 281 = .ok (.aload_n 0, 1) := by decide +kernel
theorem dX8_why_282 : decode cX8_why 282 = .ok (.getfield 53, 3) := by decide +kernel
theorem dX8_why_285 : decode cX8_why 285 = .ok (.iload_n 2, 1) := by decide +kernel
theorem dX8_why_286 : decode cX8_why 286 = .ok (.iaload, 1) := by decide +kernel
theorem dX8_why_287 : decode cX8_why 287 = .ok (.goto 4, 3) := by decide +kernel
theorem dX8_why_290 : decode cX8_why 290 = .ok (.iconst (-1), 1) := by decide +kernel
theorem dX8_why_291 : decode cX8_why 291 = .ok (.ireturn, 1) := by decide +kernel
set_option maxRecDepth 20000 in
theorem ggX8_bracket_X8_isIn : GoodIn wsX8_bracket wsX8_isIn := goodIn_r _ [9] (by decide +kernel) (by decide +kernel)
set_option maxRecDepth 20000 in
theorem gX8_bracket_X8_isIn : GoodIn wsX8_bracket (va_wsS RX8 69 yX8_isIn wsX8_isIn) := goodIn_app (goodIn_of _ (by decide +kernel)) ggX8_bracket_X8_isIn
theorem dX8_bracket_0 : decode cX8_bracket 0 = .ok (.aload_n 0, 1) := by decide +kernel
theorem dX8_bracket_1 : decode cX8_bracket 1 = .ok (.iload_n 1, 1) := by decide +kernel
theorem dX8_bracket_2 : decode cX8_bracket 2 = .ok (.iconst 0, 1) := by decide +kernel
theorem dX8_bracket_3 : decode cX8_bracket 3 = .ok (.ldc 105, 2) := by decide +kernel
theorem dX8_bracket_5 : decode cX8_bracket 5 = .ok (.invokestatic 69, 3) := by decide +kernel
theorem dX8_bracket_8 : decode cX8_bracket 8 = .ok (.ifCond .eq 18, 3) := by decide +kernel
theorem dX8_bracket_11 : decode cX8_bracket 11 = .ok (.iload_n 2, 1) := by decide +kernel
theorem dX8_bracket_12 : decode cX8_bracket 12 = .ok (.iconst 0, 1) := by decide +kernel
theorem dX8_bracket_13 : decode cX8_bracket 13 = .ok (.sipush 1000, 3) := by decide +kernel
theorem dX8_bracket_16 : decode cX8_bracket 16 = .ok (.invokestatic 69, 3) := by decide +kernel
theorem dX8_bracket_19 : decode cX8_bracket 19 = .ok (.ifCond .eq 7, 3) := by decide +kernel
theorem dX8_bracket_22 : decode cX8_bracket 22 = .ok (.iconst 0, 1) := by decide +kernel
theorem dX8_bracket_23 : decode cX8_bracket 23 = .ok (.goto 4, 3) := by decide +kernel
theorem dX8_bracket_26 : decode cX8_bracket 26 = .ok (.iconst 1, 1) := by decide +kernel
theorem dX8_bracket_27 : decode cX8_bracket 27 = .ok (.putfield 65, 3) := by decide +kernel
theorem dX8_bracket_30 : decode cX8_bracket 30 = .ok (.aload_n 0, 1) := by decide +kernel
theorem dX8_bracket_31 : decode cX8_bracket 31 = .ok (.getfield 65, 3) := by decide +kernel
theorem dX8_bracket_34 : decode cX8_bracket 34 = .ok (.ifCond .le 5, 3) := by decide +kernel
theorem dX8_bracket_37 : decode cX8_bracket 37 = .ok (.iconst 0, 1) := by decide +kernel
theorem dX8_bracket_38 : decode cX8_bracket 38 = .ok (.ireturn, 1) := by decide +kernel
theorem dX8_bracket_39 : decode cX8_bracket 39 = .ok (.aload_n 0, 1) := by decide +kernel
theorem dX8_bracket_40 : decode cX8_bracket 40 = .ok (.getfield 106, 3) := by decide +kernel
theorem dX8_bracket_43 : decode cX8_bracket 43 = .ok (.istore_n 3, 1) := by decide +kernel
theorem dX8_bracket_44 : decode cX8_bracket 44 = .ok (.iconst 0, 1) := by decide +kernel
theorem dX8_bracket_45 : decode cX8_bracket 45 = .ok (.istore 4, 2) := by decide +kernel
theorem dX8_bracket_47 : decode cX8_bracket 47 = .ok (.iload 4, 2) := by decide +kernel
theorem dX8_bracket_49 : decode cX8_bracket 49 = .ok (.aload_n 0, 1) := by decide +kernel
theorem dX8_bracket_50 : decode cX8_bracket 50 = .ok (.getfield 106, 3) := by decide +kernel
theorem dX8_bracket_53 : decode cX8_bracket 53 = .ok (.if_icmp .ge 27, 3) := by decide +kernel
theorem dX8_bracket_56 : decode cX8_bracket 56 = .ok (.aload_n 0, 1) := by decide +kernel
theorem dX8_bracket_57 : decode cX8_bracket 57 = .ok (.getfield 22, 3) := by decide +kernel
theorem dX8_bracket_60 : decode cX8_bracket 60 = .ok (.iload 4, 2) := by decide +kernel
theorem dX8_bracket_62 : decode cX8_bracket 62 = .ok (.iaload, 1) := by decide +kernel
theorem dX8_bracket_63 : decode cX8_bracket 63 = .ok (.iload_n 1, 1) := by decide +kernel
theorem dX8_bracket_64 : decode cX8_bracket 64 = .ok (.if_icmp .ne 8, 3) := by decide +kernel
theorem dX8_bracket_67 : decode cX8_bracket 67 = .ok (.iload 4, 2) := by decide +kernel
theorem dX8_bracket_69 : decode cX8_bracket 69 = .ok (.goto 4, 3) := by decide +kernel
theorem dX8_bracket_72 : decode cX8_bracket 72 = .ok (.iload_n 3, 1) := by decide +kernel
theorem dX8_bracket_73 : decode cX8_bracket 73 = .ok (.istore_n 3, 1) := by decide +kernel
theorem dX8_bracket_74 : decode cX8_bracket 74 = .ok (.iinc 4 1, 3) := by decide +kernel
theorem dX8_bracket_77 : decode cX8_bracket 77 = .ok (.goto (-30), 3) := by decide +kernel
theorem dX8_bracket_80 : decode cX8_bracket 80 = .ok (.aload_n 0, 1) := by decide +kernel
theorem dX8_bracket_81 : decode cX8_bracket 81 = .ok (.iload_n 3, 1) := by decide +kernel
theorem dX8_bracket_82 : decode cX8_bracket 82 = .ok (.iconst 5, 1) := by decide +kernel
theorem dX8_bracket_83 : decode cX8_bracket 83 = .ok (.if_icmp .ne 7, 3) := by decide +kernel
theorem dX8_bracket_86 : decode cX8_bracket 86 = .ok (.iconst 2, 1) := by decide +kernel
theorem dX8_bracket_87 : decode cX8_bracket 87 = .ok (.goto 4, 3) := by decide +kernel
theorem dX8_bracket_90 : decode cX8_bracket 90 = .ok (.iconst 0, 1) := by decide +kernel
theorem dX8_bracket_91 : decode cX8_bracket 91 = .ok (.putfield 65, 3) := by decide +kernel
theorem dX8_bracket_94 : decode cX8_bracket 94 = .ok (.aload_n 0, 1) := by decide +kernel
theorem dX8_bracket_95 : decode cX8_bracket 95 = .ok (.getfield 65, 3) := by decide +kernel
theorem dX8_bracket_98 : decode cX8_bracket 98 = .ok (.ifCond .le 5, 3) := by decide +kernel
theorem dX8_bracket_101 : decode cX8_bracket 101 = .ok (.iconst 0, 1) := by decide +kernel
theorem dX8_bracket_102 : decode cX8_bracket 102 = .ok (.ireturn, 1) := by decide +kernel
theorem dX8_bracket_103 : decode cX8_bracket 103 = .ok (.aload_n 0, 1) := by decide +kernel
theorem dX8_bracket_104 : decode cX8_bracket 104 = .ok (.getfield 22, 3) := by decide +kernel
theorem dX8_bracket_107 : decode cX8_bracket 107 = .ok (.iload_n 3, 1) := by decide +kernel
theorem dX8_bracket_108 : decode cX8_bracket 108 = .ok (.iload_n 1, 1) := by decide +kernel
theorem dX8_bracket_109 : decode cX8_bracket 109 = .ok (.iastore, 1) := by decide +kernel
theorem dX8_bracket_110 : decode cX8_bracket 110 = .ok (.aload_n 0, 1) := by decide +kernel
theorem dX8_bracket_111 : decode cX8_bracket 111 = .ok (.getfield 25, 3) := by decide +kernel
theorem dX8_bracket_114 : decode cX8_bracket 114 = .ok (.iload_n 3, 1) := by decide +kernel
theorem dX8_bracket_115 : decode cX8_bracket 115 = .ok (.iload_n 2, 1) := by decide +kernel
theorem dX8_bracket_116 : decode cX8_bracket 116 = .ok (.iastore, 1) := by decide +kernel
theorem dX8_bracket_117 : decode cX8_bracket 117 = .ok (.aload_n 0, 1) := by decide +kernel
theorem dX8_bracket_118 : decode cX8_bracket 118 = .ok (.dup, 1) := by decide +kernel
theorem dX8_bracket_119 : decode cX8_bracket 119 = .ok (.getfield 106, 3) := by decide +kernel
theorem dX8_bracket_122 : decode cX8_bracket 122 = .ok (.iload_n 3, 1) := by decide +kernel
theorem dX8_bracket_123 : decode cX8_bracket 123 = .ok (.aload_n 0, 1) := by decide +kernel
theorem dX8_bracket_124 : decode cX8_bracket 124 = .ok (.getfield 106, 3) := by decide +kernel
theorem dX8_bracket_127 : decode cX8_bracket 127 = .ok (.if_icmp .ne 7, 3) := by decide +kernel
theorem dX8_bracket_130 : decode cX8_bracket 130 = .ok (.iconst 1, 1) := by decide +kernel
theorem dX8_bracket_131 : decode cX8_bracket 131 = .ok (.goto 4, 3) := by decide +kernel
theorem dX8_bracket_134 : decode cX8_bracket 134 = .ok (.iconst 0, 1) := by decide +kernel
theorem dX8_bracket_135 : decode cX8_bracket 135 = .ok (.iadd, 1) := by decide +kernel
theorem dX8_bracket_136 : decode cX8_bracket 136 = .ok (.putfield 106, 3) := by decide +kernel
theorem dX8_bracket_139 : decode cX8_bracket 139 = .ok (.aload_n 0, 1) := by decide +kernel
theorem dX8_bracket_140 : decode cX8_bracket 140 = .ok (.getfield 106, 3) := by decide +kernel
theorem dX8_bracket_143 : decode cX8_bracket 143 = .ok (.ireturn, 1) := by decide +kernel
theorem dX8_dropBrackets_0 : decode cX8_dropBrackets 0 = .ok (.aload_n 0, 1) := by decide +kernel
theorem dX8_dropBrackets_1 : decode cX8_dropBrackets 1 = .ok (.iconst 0, 1) := by decide +kernel
theorem dX8_dropBrackets_2 : decode cX8_dropBrackets 2 = .ok (.putfield 65, 3) := by decide +kernel
theorem dX8_dropBrackets_5 : decode cX8_dropBrackets 5 = .ok (.aload_n 0, 1) := by decide +kernel
theorem dX8_dropBrackets_6 : decode cX8_dropBrackets 6 = .ok (.getfield 106, 3) := by decide +kernel
theorem dX8_dropBrackets_9 : decode cX8_dropBrackets 9 = .ok (.istore_n 1, 1) := by decide +kernel
theorem dX8_dropBrackets_10 : decode cX8_dropBrackets 10 = .ok (.aload_n 0, 1) := by decide +kernel
theorem dX8_dropBrackets_11 : decode cX8_dropBrackets 11 = .ok (.iconst 0, 1) := by decide +kernel
theorem dX8_dropBrackets_12 : decode cX8_dropBrackets 12 = .ok (.putfield 106, 3) := by decide +kernel
theorem dX8_dropBrackets_15 : decode cX8_dropBrackets 15 = .ok (.iload_n 1, 1) := by decide +kernel
theorem dX8_dropBrackets_16 : decode cX8_dropBrackets 16 = .ok (.ireturn, 1) := by decide +kernel
set_option maxRecDepth 20000 in
theorem ggX8_taxOn_X8_isIn : GoodIn wsX8_taxOn wsX8_isIn := goodIn_r _ [6] (by decide +kernel) (by decide +kernel)
set_option maxRecDepth 20000 in
theorem gX8_taxOn_X8_isIn : GoodIn wsX8_taxOn (va_wsS RX8 69 yX8_isIn wsX8_isIn) := goodIn_app (goodIn_of _ (by decide +kernel)) ggX8_taxOn_X8_isIn
set_option maxRecDepth 20000 in
theorem ggX8_taxOn_X8_taxed : GoodIn wsX8_taxOn wsX8_taxed := goodIn_r _ [10, 11, 1, 12, 13, 14, 15, 16, 17, 18, 19, 20, 21, 22, 23, 24, 25, 26, 27, 28, 29, 30, 31, 32, 33, 34, 35, 36, 37, 38] (by decide +kernel) (by decide +kernel)
set_option maxRecDepth 20000 in
theorem gX8_taxOn_X8_taxed : GoodIn wsX8_taxOn (wsV RX8 115 RX8 yX8_taxed wsX8_taxed) := goodIn_app (goodIn_of _ (by decide +kernel)) ggX8_taxOn_X8_taxed
theorem dX8_taxOn_0 : decode cX8_taxOn 0 = .ok (.aload_n 0, 1) := by decide +kernel
theorem dX8_taxOn_1 : decode cX8_taxOn 1 = .ok (.iload_n 1, 1) := by decide +kernel
theorem dX8_taxOn_2 : decode cX8_taxOn 2 = .ok (.iconst 0, 1) := by decide +kernel
theorem dX8_taxOn_3 : decode cX8_taxOn 3 = .ok (.ldc 109, 2) := by decide +kernel
theorem dX8_taxOn_5 : decode cX8_taxOn 5 = .ok (.invokestatic 69, 3) := by decide +kernel
theorem dX8_taxOn_8 : decode cX8_taxOn 8 = .ok (.ifCond .eq 7, 3) := by decide +kernel
theorem dX8_taxOn_11 : decode cX8_taxOn 11 = .ok (.iconst 0, 1) := by decide +kernel
theorem dX8_taxOn_12 : decode cX8_taxOn 12 = .ok (.goto 4, 3) := by decide +kernel
theorem dX8_taxOn_15 : decode cX8_taxOn 15 = .ok (.iconst 1, 1) := by decide +kernel
theorem dX8_taxOn_16 : decode cX8_taxOn 16 = .ok (.putfield 65, 3) := by decide +kernel
theorem dX8_taxOn_19 : decode cX8_taxOn 19 = .ok (.aload_n 0, 1) := by decide +kernel
theorem dX8_taxOn_20 : decode cX8_taxOn 20 = .ok (.getfield 65, 3) := by decide +kernel
theorem dX8_taxOn_23 : decode cX8_taxOn 23 = .ok (.ifCond .le 7, 3) := by decide +kernel
theorem dX8_taxOn_26 : decode cX8_taxOn 26 = .ok (.iconst 0, 1) := by decide +kernel
theorem dX8_taxOn_27 : decode cX8_taxOn 27 = .ok (.goto 8, 3) := by decide +kernel
theorem dX8_taxOn_30 : decode cX8_taxOn 30 = .ok (.aload_n 0, 1) := by decide +kernel
theorem dX8_taxOn_31 : decode cX8_taxOn 31 = .ok (.iload_n 1, 1) := by decide +kernel
theorem dX8_taxOn_32 : decode cX8_taxOn 32 = .ok (.invokevirtual 115, 3) := by decide +kernel
theorem dX8_taxOn_35 : decode cX8_taxOn 35 = .ok (.ireturn, 1) := by decide +kernel
set_option maxRecDepth 20000 in
theorem ggX8_carry_X8_isIn : GoodIn wsX8_carry wsX8_isIn := goodIn_r _ [10] (by decide +kernel) (by decide +kernel)
set_option maxRecDepth 20000 in
theorem gX8_carry_X8_isIn : GoodIn wsX8_carry (va_wsS RX8 69 yX8_isIn wsX8_isIn) := goodIn_app (goodIn_of _ (by decide +kernel)) ggX8_carry_X8_isIn
set_option maxRecDepth 20000 in
theorem ggX8_carry_X8_all : GoodIn wsX8_carry wsX8_all := goodIn_r _ [14, 4, 6, 15, 16, 17, 18, 19, 20, 21, 22, 23, 24, 25, 26, 27, 28, 29, 30, 31, 32, 33, 34, 35, 36, 37, 38] (by decide +kernel) (by decide +kernel)
set_option maxRecDepth 20000 in
theorem gX8_carry_X8_all : GoodIn wsX8_carry (wsV RX8 118 RX8 yX8_all wsX8_all) := goodIn_app (goodIn_of _ (by decide +kernel)) ggX8_carry_X8_all
theorem dX8_carry_0 : decode cX8_carry 0 = .ok (.aload_n 0, 1) := by decide +kernel
theorem dX8_carry_1 : decode cX8_carry 1 = .ok (.iload_n 1, 1) := by decide +kernel
theorem dX8_carry_2 : decode cX8_carry 2 = .ok (.iconst 1, 1) := by decide +kernel
theorem dX8_carry_3 : decode cX8_carry 3 = .ok (.ldc 105, 2) := by decide +kernel
theorem dX8_carry_5 : decode cX8_carry 5 = .ok (.invokestatic 69, 3) := by decide +kernel
theorem dX8_carry_8 : decode cX8_carry 8 = .ok (.ifCond .eq 26, 3) := by decide +kernel
theorem dX8_carry_11 : decode cX8_carry 11 = .ok (.iload_n 2, 1) := by decide +kernel
theorem dX8_carry_12 : decode cX8_carry 12 = .ok (.aload_n 0, 1) := by decide +kernel
theorem dX8_carry_13 : decode cX8_carry 13 = .ok (.getfield 139, 3) := by decide +kernel
theorem dX8_carry_16 : decode cX8_carry 16 = .ok (.if_icmp .lt 18, 3) := by decide +kernel
theorem dX8_carry_19 : decode cX8_carry 19 = .ok (.iload_n 2, 1) := by decide +kernel
theorem dX8_carry_20 : decode cX8_carry 20 = .ok (.aload_n 0, 1) := by decide +kernel
theorem dX8_carry_21 : decode cX8_carry 21 = .ok (.getfield 139, 3) := by decide +kernel
theorem dX8_carry_24 : decode cX8_carry 24 = .ok (.isub, 1) := by decide +kernel
theorem dX8_carry_25 : decode cX8_carry 25 = .ok (.bipush 20, 2) := by decide +kernel
theorem dX8_carry_27 : decode cX8_carry 27 = .ok (.if_icmp .gt 7, 3) := by decide +kernel
theorem dX8_carry_30 : decode cX8_carry 30 = .ok (.iconst 0, 1) := by decide +kernel
theorem dX8_carry_31 : decode cX8_carry 31 = .ok (.goto 4, 3) := by decide +kernel
theorem dX8_carry_34 : decode cX8_carry 34 = .ok (.iconst 1, 1) := by decide +kernel
theorem dX8_carry_35 : decode cX8_carry 35 = .ok (.putfield 65, 3) := by decide +kernel
theorem dX8_carry_38 : decode cX8_carry 38 = .ok (.aload_n 0, 1) := by decide +kernel
theorem dX8_carry_39 : decode cX8_carry 39 = .ok (.getfield 65, 3) := by decide +kernel
theorem dX8_carry_42 : decode cX8_carry 42 = .ok (.ifCond .le 5, 3) := by decide +kernel
theorem dX8_carry_45 : decode cX8_carry 45 = .ok (.iconst 0, 1) := by decide +kernel
theorem dX8_carry_46 : decode cX8_carry 46 = .ok (.ireturn, 1) := by decide +kernel
theorem dX8_carry_47 : decode cX8_carry 47 = .ok (.aload_n 0, 1) := by decide +kernel
theorem dX8_carry_48 : decode cX8_carry 48 = .ok (.aload_n 0, 1) := by decide +kernel
theorem dX8_carry_49 : decode cX8_carry 49 = .ok (.getfield 112, 3) := by decide +kernel
theorem dX8_carry_52 : decode cX8_carry 52 = .ok (.bipush 8, 2) := by decide +kernel
theorem dX8_carry_54 : decode cX8_carry 54 = .ok (.if_icmp .ne 7, 3) := by decide +kernel
theorem dX8_carry_57 : decode cX8_carry 57 = .ok (.iconst 2, 1) := by decide +kernel
theorem dX8_carry_58 : decode cX8_carry 58 = .ok (.goto 4, 3) := by decide +kernel
theorem dX8_carry_61 : decode cX8_carry 61 = .ok (.iconst 0, 1) := by decide +kernel
theorem dX8_carry_62 : decode cX8_carry 62 = .ok (.putfield 65, 3) := by decide +kernel
theorem dX8_carry_65 : decode cX8_carry 65 = .ok (.aload_n 0, 1) := by decide +kernel
theorem dX8_carry_66 : decode cX8_carry 66 = .ok (.getfield 65, 3) := by decide +kernel
theorem dX8_carry_69 : decode cX8_carry 69 = .ok (.ifCond .le 5, 3) := by decide +kernel
theorem dX8_carry_72 : decode cX8_carry 72 = .ok (.iconst 0, 1) := by decide +kernel
theorem dX8_carry_73 : decode cX8_carry 73 = .ok (.ireturn, 1) := by decide +kernel
theorem dX8_carry_74 : decode cX8_carry 74 = .ok (.aload_n 0, 1) := by decide +kernel
theorem dX8_carry_75 : decode cX8_carry 75 = .ok (.getfield 112, 3) := by decide +kernel
theorem dX8_carry_78 : decode cX8_carry 78 = .ok (.istore_n 3, 1) := by decide +kernel
theorem dX8_carry_79 : decode cX8_carry 79 = .ok (.iload_n 3, 1) := by decide +kernel
theorem dX8_carry_80 : decode cX8_carry 80 = .ok (.ifCond .le 49, 3) := by decide +kernel
theorem dX8_carry_83 : decode cX8_carry 83 = .ok (.aload_n 0, 1) := by decide +kernel
theorem dX8_carry_84 : decode cX8_carry 84 = .ok (.getfield 31, 3) := by decide +kernel
theorem dX8_carry_87 : decode cX8_carry 87 = .ok (.iload_n 3, 1) := by decide +kernel
theorem dX8_carry_88 : decode cX8_carry 88 = .ok (.iconst 1, 1) := by decide +kernel
theorem dX8_carry_89 : decode cX8_carry 89 = .ok (.isub, 1) := by decide +kernel
theorem dX8_carry_90 : decode cX8_carry 90 = .ok (.iaload, 1) := by decide +kernel
theorem dX8_carry_91 : decode cX8_carry 91 = .ok (.iload_n 2, 1) := by decide +kernel
theorem dX8_carry_92 : decode cX8_carry 92 = .ok (.if_icmp .le 37, 3) := by decide +kernel
theorem dX8_carry_95 : decode cX8_carry 95 = .ok (.aload_n 0, 1) := by decide +kernel
theorem dX8_carry_96 : decode cX8_carry 96 = .ok (.getfield 28, 3) := by decide +kernel
theorem dX8_carry_99 : decode cX8_carry 99 = .ok (.iload_n 3, 1) := by decide +kernel
theorem dX8_carry_100 : decode cX8_carry 100 = .ok (.aload_n 0, 1) := by decide +kernel
theorem dX8_carry_101 : decode cX8_carry 101 = .ok (.getfield 28, 3) := by decide +kernel
theorem dX8_carry_104 : decode cX8_carry 104 = .ok (.iload_n 3, 1) := by decide +kernel
theorem dX8_carry_105 : decode cX8_carry 105 = .ok (.iconst 1, 1) := by decide +kernel
theorem dX8_carry_106 : decode cX8_carry 106 = .ok (.isub, 1) := by decide +kernel
theorem dX8_carry_107 : decode cX8_carry 107 = .ok (.iaload, 1) := by decide +kernel
theorem dX8_carry_108 : decode cX8_carry 108 = .ok (.iastore, 1) := by decide +kernel
theorem dX8_carry_109 : decode cX8_carry 109 = .ok (.aload_n 0, 1) := by decide +kernel
theorem dX8_carry_110 : decode cX8_carry 110 = .ok (.getfield 31, 3) := by decide +kernel
theorem dX8_carry_113 : decode cX8_carry 113 = .ok (.iload_n 3, 1) := by decide +kernel
theorem dX8_carry_114 : decode cX8_carry 114 = .ok (.aload_n 0, 1) := by decide +kernel
theorem dX8_carry_115 : decode cX8_carry 115 = .ok (.getfield 31, 3) := by decide +kernel
theorem dX8_carry_118 : decode cX8_carry 118 = .ok (.iload_n 3, 1) := by decide +kernel
theorem dX8_carry_119 : decode cX8_carry 119 = .ok (.iconst 1, 1) := by decide +kernel
theorem dX8_carry_120 : decode cX8_carry 120 = .ok (.isub, 1) := by decide +kernel
theorem dX8_carry_121 : decode cX8_carry 121 = .ok (.iaload, 1) := by decide +kernel
theorem dX8_carry_122 : decode cX8_carry 122 = .ok (.iastore, 1) := by decide +kernel
theorem dX8_carry_123 : decode cX8_carry 123 = .ok (.iinc 3 (-1), 3) := by decide +kernel
theorem dX8_carry_126 : decode cX8_carry 126 = .ok (.goto (-47), 3) := by decide +kernel
theorem dX8_carry_129 : decode cX8_carry 129 = .ok (.aload_n 0, 1) := by decide +kernel
theorem dX8_carry_130 : decode cX8_carry 130 = .ok (.getfield 28, 3) := by decide +kernel
theorem dX8_carry_133 : decode cX8_carry 133 = .ok (.iload_n 3, 1) := by decide +kernel
theorem dX8_carry_134 : decode cX8_carry 134 = .ok (.iload_n 1, 1) := by decide +kernel
theorem dX8_carry_135 : decode cX8_carry 135 = .ok (.iastore, 1) := by decide +kernel
theorem dX8_carry_136 : decode cX8_carry 136 = .ok (.aload_n 0, 1) := by decide +kernel
theorem dX8_carry_137 : decode cX8_carry 137 = .ok (.getfield 31, 3) := by decide +kernel
theorem dX8_carry_140 : decode cX8_carry 140 = .ok (.iload_n 3, 1) := by decide +kernel
theorem dX8_carry_141 : decode cX8_carry 141 = .ok (.iload_n 2, 1) := by decide +kernel
theorem dX8_carry_142 : decode cX8_carry 142 = .ok (.iastore, 1) := by decide +kernel
theorem dX8_carry_143 : decode cX8_carry 143 = .ok (.aload_n 0, 1) := by decide +kernel
theorem dX8_carry_144 : decode cX8_carry 144 = .ok (.dup, 1) := by decide +kernel
theorem dX8_carry_145 : decode cX8_carry 145 = .ok (.getfield 112, 3) := by decide +kernel
theorem dX8_carry_148 : decode cX8_carry 148 = .ok (.iconst 1, 1) := by decide +kernel
theorem dX8_carry_149 : decode cX8_carry 149 = .ok (.iadd, 1) := by decide +kernel
theorem dX8_carry_150 : decode cX8_carry 150 = .ok (.putfield 112, 3) := by decide +kernel
theorem dX8_carry_153 : decode cX8_carry 153 = .ok (.aload_n 0, 1) := by decide +kernel
theorem dX8_carry_154 : decode cX8_carry 154 = .ok (.invokevirtual 118, 3) := by decide +kernel
theorem dX8_carry_157 : decode cX8_carry 157 = .ok (.ireturn, 1) := by decide +kernel
set_option maxRecDepth 20000 in
theorem ggX8_carried_X8_all : GoodIn wsX8_carried wsX8_all := goodIn_r _ [6, 7, 8, 9, 10, 11, 12, 13, 14, 15, 16, 17, 18, 19, 20, 21, 22, 23, 24, 25, 26, 27, 28, 29, 30, 31, 32] (by decide +kernel) (by decide +kernel)
set_option maxRecDepth 20000 in
theorem gX8_carried_X8_all : GoodIn wsX8_carried (wsV RX8 118 RX8 yX8_all wsX8_all) := goodIn_app (goodIn_of _ (by decide +kernel)) ggX8_carried_X8_all
theorem dX8_carried_0 : decode cX8_carried 0 = .ok (.aload_n 0, 1) := by decide +kernel
theorem dX8_carried_1 : decode cX8_carried 1 = .ok (.iconst 0, 1) := by decide +kernel
theorem dX8_carried_2 : decode cX8_carried 2 = .ok (.putfield 65, 3) := by decide +kernel
theorem dX8_carried_5 : decode cX8_carried 5 = .ok (.aload_n 0, 1) := by decide +kernel
theorem dX8_carried_6 : decode cX8_carried 6 = .ok (.invokevirtual 118, 3) := by decide +kernel
theorem dX8_carried_9 : decode cX8_carried 9 = .ok (.ireturn, 1) := by decide +kernel
set_option maxRecDepth 20000 in
theorem ggX8_carriedAt_X8_isIn : GoodIn wsX8_carriedAt wsX8_isIn := goodIn_r _ [7] (by decide +kernel) (by decide +kernel)
set_option maxRecDepth 20000 in
theorem gX8_carriedAt_X8_isIn : GoodIn wsX8_carriedAt (va_wsS RX8 69 yX8_isIn wsX8_isIn) := goodIn_app (goodIn_of _ (by decide +kernel)) ggX8_carriedAt_X8_isIn
theorem dX8_carriedAt_0 : decode cX8_carriedAt 0 = .ok (.aload_n 0, 1) := by decide +kernel
theorem dX8_carriedAt_1 : decode cX8_carriedAt 1 = .ok (.iload_n 1, 1) := by decide +kernel
theorem dX8_carriedAt_2 : decode cX8_carriedAt 2 = .ok (.iconst 0, 1) := by decide +kernel
theorem dX8_carriedAt_3 : decode cX8_carriedAt 3 = .ok (.aload_n 0, 1) := by decide +kernel
theorem dX8_carriedAt_4 : decode cX8_carriedAt 4 = .ok (.getfield 112, 3) := by decide +kernel
theorem dX8_carriedAt_7 : decode cX8_carriedAt 7 = .ok (.iconst 1, 1) := by decide +kernel
theorem dX8_carriedAt_8 : decode cX8_carriedAt 8 = .ok (.isub, 1) := by decide +kernel
theorem dX8_carriedAt_9 : decode cX8_carriedAt 9 = .ok (.invokestatic 69, 3) := by decide +kernel
theorem dX8_carriedAt_12 : decode cX8_carriedAt 12 = .ok (.ifCond .eq 7, 3) := by decide +kernel
theorem dX8_carriedAt_15 : decode cX8_carriedAt 15 = .ok (.iconst 0, 1) := by decide +kernel
theorem dX8_carriedAt_16 : decode cX8_carriedAt 16 = .ok (.goto 4, 3) := by decide +kernel
theorem dX8_carriedAt_19 : decode cX8_carriedAt 19 = .ok (.iconst 1, 1) := by decide +kernel
theorem dX8_carriedAt_20 : decode cX8_carriedAt 20 = .ok (.putfield 65, 3) := by decide +kernel
theorem dX8_carriedAt_23 : decode cX8_carriedAt 23 = .ok (.aload_n 0, 1) := by decide +kernel
theorem dX8_carriedAt_24 : decode cX8_carriedAt 24 = .ok (.getfield 65, 3) := by decide +kernel
theorem dX8_carriedAt_27 : decode cX8_carriedAt 27 = .ok (.ifCond .le 7, 3) := by decide +kernel
theorem dX8_carriedAt_30 : decode cX8_carriedAt 30 = .ok (.iconst 0, 1) := by decide +kernel
theorem dX8_carriedAt_31 : decode cX8_carriedAt 31 = .ok (.goto 9, 3) := by decide +kernel
theorem dX8_carriedAt_34 : decode cX8_carriedAt 34 = .ok (.aload_n 0, 1) := by decide +kernel
theorem dX8_carriedAt_35 : decode cX8_carriedAt 35 = .ok (.getfield 28, 3) := by decide +kernel
theorem dX8_carriedAt_38 : decode cX8_carriedAt 38 = .ok (.iload_n 1, 1) := by decide +kernel
theorem dX8_carriedAt_39 : decode cX8_carriedAt 39 = .ok (.iaload, 1) := by decide +kernel
theorem dX8_carriedAt_40 : decode cX8_carriedAt 40 = .ok (.ireturn, 1) := by decide +kernel
theorem dX8_year_0 : decode cX8_year 0 = .ok (.aload_n 0, 1) := by decide +kernel
theorem dX8_year_1 : decode cX8_year 1 = .ok (.iconst 0, 1) := by decide +kernel
theorem dX8_year_2 : decode cX8_year 2 = .ok (.putfield 65, 3) := by decide +kernel
theorem dX8_year_5 : decode cX8_year 5 = .ok (.aload_n 0, 1) := by decide +kernel
theorem dX8_year_6 : decode cX8_year 6 = .ok (.getfield 139, 3) := by decide +kernel
theorem dX8_year_9 : decode cX8_year 9 = .ok (.ireturn, 1) := by decide +kernel
theorem dX8_spends_0 : decode cX8_spends 0 = .ok (.iload_n 1, 1) := by decide +kernel
theorem dX8_spends_1 : decode cX8_spends 1 = .ok (.istore_n 2, 1) := by decide +kernel
theorem dX8_spends_2 : decode cX8_spends 2 = .ok (.iconst 0, 1) := by decide +kernel
theorem dX8_spends_3 : decode cX8_spends 3 = .ok (.istore_n 3, 1) := by decide +kernel
theorem dX8_spends_4 : decode cX8_spends 4 = .ok (.iload_n 3, 1) := by decide +kernel
theorem dX8_spends_5 : decode cX8_spends 5 = .ok (.aload_n 0, 1) := by decide +kernel
theorem dX8_spends_6 : decode cX8_spends 6 = .ok (.getfield 112, 3) := by decide +kernel
theorem dX8_spends_9 : decode cX8_spends 9 = .ok (.if_icmp .ge 47, 3) := by decide +kernel
theorem dX8_spends_12 : decode cX8_spends 12 = .ok (.aload_n 0, 1) := by decide +kernel
theorem dX8_spends_13 : decode cX8_spends 13 = .ok (.getfield 28, 3) := by decide +kernel
theorem dX8_spends_16 : decode cX8_spends 16 = .ok (.iload_n 3, 1) := by decide +kernel
theorem dX8_spends_17 : decode cX8_spends 17 = .ok (.iaload, 1) := by decide +kernel
theorem dX8_spends_18 : decode cX8_spends 18 = .ok (.iload_n 2, 1) := by decide +kernel
theorem dX8_spends_19 : decode cX8_spends 19 = .ok (.if_icmp .ge 12, 3) := by decide +kernel
theorem dX8_spends_22 : decode cX8_spends 22 = .ok (.aload_n 0, 1) := by decide +kernel
theorem dX8_spends_23 : decode cX8_spends 23 = .ok (.getfield 28, 3) := by decide +kernel
theorem dX8_spends_26 : decode cX8_spends 26 = .ok (.iload_n 3, 1) := by decide +kernel
theorem dX8_spends_27 : decode cX8_spends 27 = .ok (.iaload, 1) := by decide +kernel
theorem dX8_spends_28 : decode cX8_spends 28 = .ok (.goto 4, 3) := by decide +kernel
theorem dX8_spends_31 : decode cX8_spends 31 = .ok (.iload_n 2, 1) := by decide +kernel
theorem dX8_spends_32 : decode cX8_spends 32 = .ok (.istore 4, 2) := by decide +kernel
theorem dX8_spends_34 : decode cX8_spends 34 = .ok (.aload_n 0, 1) := by decide +kernel
theorem dX8_spends_35 : decode cX8_spends 35 = .ok (.getfield 28, 3) := by decide +kernel
theorem dX8_spends_38 : decode cX8_spends 38 = .ok (.iload_n 3, 1) := by decide +kernel
theorem dX8_spends_39 : decode cX8_spends 39 = .ok (.dup2, 1) := by decide +kernel
theorem dX8_spends_40 : decode cX8_spends 40 = .ok (.iaload, 1) := by decide +kernel
theorem dX8_spends_41 : decode cX8_spends 41 = .ok (.iload 4, 2) := by decide +kernel
theorem dX8_spends_43 : decode cX8_spends 43 = .ok (.isub, 1) := by decide +kernel
theorem dX8_spends_44 : decode cX8_spends 44 = .ok (.iastore, 1) := by decide +kernel
theorem dX8_spends_45 : decode cX8_spends 45 = .ok (.iload_n 2, 1) := by decide +kernel
theorem dX8_spends_46 : decode cX8_spends 46 = .ok (.iload 4, 2) := by decide +kernel
theorem dX8_spends_48 : decode cX8_spends 48 = .ok (.isub, 1) := by decide +kernel
theorem dX8_spends_49 : decode cX8_spends 49 = .ok (.istore_n 2, 1) := by decide +kernel
theorem dX8_spends_50 : decode cX8_spends 50 = .ok (.iinc 3 1, 3) := by decide +kernel
theorem dX8_spends_53 : decode cX8_spends 53 = .ok (.goto (-49), 3) := by decide +kernel
theorem dX8_spends_56 : decode cX8_spends 56 = .ok (.iload_n 1, 1) := by decide +kernel
theorem dX8_spends_57 : decode cX8_spends 57 = .ok (.iload_n 2, 1) := by decide +kernel
theorem dX8_spends_58 : decode cX8_spends 58 = .ok (.isub, 1) := by decide +kernel
theorem dX8_spends_59 : decode cX8_spends 59 = .ok (.ireturn, 1) := by decide +kernel
set_option maxRecDepth 20000 in
theorem ggX8_closeYear_X8_solves : GoodIn wsX8_closeYear wsX8_solves := goodIn_r _ [12, 13, 3, 2, 14, 15, 16, 17, 11, 18, 19, 20, 21, 22, 23, 24, 25, 26, 27, 28, 29, 30, 31, 32, 33, 34, 35, 36, 37, 38, 39, 40, 41, 42, 43, 44, 45, 4, 5, 46, 47, 48, 49, 50, 51, 52, 53, 58, 59, 60, 61, 62, 63, 64, 65, 66, 67, 68, 69, 70, 71, 72, 73, 74, 75, 76, 77, 78, 79, 80, 81] (by decide +kernel) (by decide +kernel)
set_option maxRecDepth 20000 in
theorem gX8_closeYear_X8_solves : GoodIn wsX8_closeYear (wsV RX8 135 RX8 yX8_solves wsX8_solves) := goodIn_app (goodIn_of _ (by decide +kernel)) ggX8_closeYear_X8_solves
set_option maxRecDepth 20000 in
theorem ggX8_closeYear_X8_spends : GoodIn wsX8_closeYear wsX8_spends := goodIn_r _ [57, 4, 5, 58, 59, 60, 61, 62, 63, 64, 65, 66, 67, 68, 69, 70, 71, 72, 73, 74, 75, 76, 77, 78, 79, 80, 81] (by decide +kernel) (by decide +kernel)
set_option maxRecDepth 20000 in
theorem gX8_closeYear_X8_spends : GoodIn wsX8_closeYear (wsV RX8 142 RX8 yX8_spends wsX8_spends) := goodIn_app (goodIn_of _ (by decide +kernel)) ggX8_closeYear_X8_spends
theorem dX8_closeYear_0 : decode cX8_closeYear 0 = .ok (.aload_n 0, 1) := by decide +kernel
theorem dX8_closeYear_1 : decode cX8_closeYear 1 = .ok (.iconst 0, 1) := by decide +kernel
theorem dX8_closeYear_2 : decode cX8_closeYear 2 = .ok (.putfield 65, 3) := by decide +kernel
theorem dX8_closeYear_5 : decode cX8_closeYear 5 = .ok (.aload_n 0, 1) := by decide +kernel
theorem dX8_closeYear_6 : decode cX8_closeYear 6 = .ok (.iconst (-1), 1) := by decide +kernel
theorem dX8_closeYear_7 : decode cX8_closeYear 7 = .ok (.iconst 0, 1) := by decide +kernel
theorem dX8_closeYear_8 : decode cX8_closeYear 8 = .ok (.invokevirtual 135, 3) := by decide +kernel
theorem dX8_closeYear_11 : decode cX8_closeYear 11 = .ok (.iconst 0, 1) := by decide +kernel
theorem dX8_closeYear_12 : decode cX8_closeYear 12 = .ok (.istore_n 1, 1) := by decide +kernel
theorem dX8_closeYear_13 : decode cX8_closeYear 13 = .ok (.iconst 0, 1) := by decide +kernel
theorem dX8_closeYear_14 : decode cX8_closeYear 14 = .ok (.istore_n 2, 1) := by decide +kernel
theorem dX8_closeYear_15 : decode cX8_closeYear 15 = .ok (.iload_n 2, 1) := by decide +kernel
theorem dX8_closeYear_16 : decode cX8_closeYear 16 = .ok (.bipush 16, 2) := by decide +kernel
theorem dX8_closeYear_18 : decode cX8_closeYear 18 = .ok (.if_icmp .ge 37, 3) := by decide +kernel
theorem dX8_closeYear_21 : decode cX8_closeYear 21 = .ok (.iload_n 1, 1) := by decide +kernel
theorem dX8_closeYear_22 : decode cX8_closeYear 22 = .ok (.aload_n 0, 1) := by decide +kernel
theorem dX8_closeYear_23 : decode cX8_closeYear 23 = .ok (.getfield 7, 3) := by decide +kernel
theorem dX8_closeYear_26 : decode cX8_closeYear 26 = .ok (.iload_n 2, 1) := by decide +kernel
theorem dX8_closeYear_27 : decode cX8_closeYear 27 = .ok (.iaload, 1) := by decide +kernel
theorem dX8_closeYear_28 : decode cX8_closeYear 28 = .ok (.bipush 7, 2) := by decide +kernel
theorem dX8_closeYear_30 : decode cX8_closeYear 30 = .ok (.if_icmp .ne 16, 3) := by decide +kernel
theorem dX8_closeYear_33 : decode cX8_closeYear 33 = .ok (.aload_n 0, 1) := by decide +kernel
theorem dX8_closeYear_34 : decode cX8_closeYear 34 = .ok (.aload_n 0, 1) := by decide +kernel
theorem dX8_closeYear_35 : decode cX8_closeYear 35 = .ok (.getfield 40, 3) := by decide +kernel
theorem dX8_closeYear_38 : decode cX8_closeYear 38 = .ok (.iload_n 2, 1) := by decide +kernel
theorem dX8_closeYear_39 : decode cX8_closeYear 39 = .ok (.iaload, 1) := by decide +kernel
theorem dX8_closeYear_40 : decode cX8_closeYear 40 = .ok (.invokevirtual 142, 3) := by decide +kernel
theorem dX8_closeYear_43 : decode cX8_closeYear 43 = .ok (.goto 4, 3) := by decide +kernel
theorem dX8_closeYear_46 : decode cX8_closeYear 46 = .ok (.iconst 0, 1) := by decide +kernel
theorem dX8_closeYear_47 : decode cX8_closeYear 47 = .ok (.iadd, 1) := by decide +kernel
theorem dX8_closeYear_48 : decode cX8_closeYear 48 = .ok (.istore_n 1, 1) := by decide +kernel
theorem dX8_closeYear_49 : decode cX8_closeYear 49 = .ok (.iinc 2 1, 3) := by decide +kernel
theorem dX8_closeYear_52 : decode cX8_closeYear 52 = .ok (.goto (-37), 3) := by decide +kernel
theorem dX8_closeYear_55 : decode cX8_closeYear 55 = .ok (.iconst 0, 1) := by decide +kernel
theorem dX8_closeYear_56 : decode cX8_closeYear 56 = .ok (.istore_n 2, 1) := by decide +kernel
theorem dX8_closeYear_57 : decode cX8_closeYear 57 = .ok (.iconst 0, 1) := by decide +kernel
theorem dX8_closeYear_58 : decode cX8_closeYear 58 = .ok (.istore_n 3, 1) := by decide +kernel
theorem dX8_closeYear_59 : decode cX8_closeYear 59 = .ok (.iload_n 3, 1) := by decide +kernel
theorem dX8_closeYear_60 : decode cX8_closeYear 60 = .ok (.aload_n 0, 1) := by decide +kernel
theorem dX8_closeYear_61 : decode cX8_closeYear 61 = .ok (.getfield 112, 3) := by decide +kernel
theorem dX8_closeYear_64 : decode cX8_closeYear 64 = .ok (.if_icmp .ge 58, 3) := by decide +kernel
theorem dX8_closeYear_67 : decode cX8_closeYear 67 = .ok (.aload_n 0, 1) := by decide +kernel
theorem dX8_closeYear_68 : decode cX8_closeYear 68 = .ok (.getfield 28, 3) := by decide +kernel
theorem dX8_closeYear_71 : decode cX8_closeYear 71 = .ok (.iload_n 3, 1) := by decide +kernel
theorem dX8_closeYear_72 : decode cX8_closeYear 72 = .ok (.iaload, 1) := by decide +kernel
theorem dX8_closeYear_73 : decode cX8_closeYear 73 = .ok (.ifCond .le 43, 3) := by decide +kernel
theorem dX8_closeYear_76 : decode cX8_closeYear 76 = .ok (.aload_n 0, 1) := by decide +kernel
theorem dX8_closeYear_77 : decode cX8_closeYear 77 = .ok (.getfield 31, 3) := by decide +kernel
theorem dX8_closeYear_80 : decode cX8_closeYear 80 = .ok (.iload_n 3, 1) := by decide +kernel
theorem dX8_closeYear_81 : decode cX8_closeYear 81 = .ok (.iaload, 1) := by decide +kernel
theorem dX8_closeYear_82 : decode cX8_closeYear 82 = .ok (.aload_n 0, 1) := by decide +kernel
theorem dX8_closeYear_83 : decode cX8_closeYear 83 = .ok (.getfield 139, 3) := by decide +kernel
theorem dX8_closeYear_86 : decode cX8_closeYear 86 = .ok (.if_icmp .le 30, 3) := by decide +kernel
theorem dX8_closeYear_89 : decode cX8_closeYear 89 = .ok (.aload_n 0, 1) := by decide +kernel
theorem dX8_closeYear_90 : decode cX8_closeYear 90 = .ok (.getfield 28, 3) := by decide +kernel
theorem dX8_closeYear_93 : decode cX8_closeYear 93 = .ok (.iload_n 2, 1) := by decide +kernel
theorem dX8_closeYear_94 : decode cX8_closeYear 94 = .ok (.aload_n 0, 1) := by decide +kernel
theorem dX8_closeYear_95 : decode cX8_closeYear 95 = .ok (.getfield 28, 3) := by decide +kernel
theorem dX8_closeYear_98 : decode cX8_closeYear 98 = .ok (.iload_n 3, 1) := by decide +kernel
theorem dX8_closeYear_99 : decode cX8_closeYear 99 = .ok (.iaload, 1) := by decide +kernel
theorem dX8_closeYear_100 : decode cX8_closeYear 100 = .ok (.iastore, 1) := by decide +kernel
theorem dX8_closeYear_101 : decode cX8_closeYear 101 = .ok (.aload_n 0, 1) := by decide +kernel
theorem dX8_closeYear_102 : decode cX8_closeYear 102 = .ok (.getfield 31, 3) := by decide +kernel
theorem dX8_closeYear_105 : decode cX8_closeYear 105 = .ok (.iload_n 2, 1) := by decide +kernel
theorem dX8_closeYear_106 : decode cX8_closeYear 106 = .ok (.aload_n 0, 1) := by decide +kernel
theorem dX8_closeYear_107 : decode cX8_closeYear 107 = .ok (.getfield 31, 3) := by decide +kernel
theorem dX8_closeYear_110 : decode cX8_closeYear 110 = .ok (.iload_n 3, 1) := by decide +kernel
theorem dX8_closeYear_111 : decode cX8_closeYear 111 = .ok (.iaload, 1) := by decide +kernel
theorem dX8_closeYear_112 : decode cX8_closeYear 112 = .ok (.iastore, 1) := by decide +kernel
theorem dX8_closeYear_113 : decode cX8_closeYear 113 = .ok (.iinc 2 1, 3) := by decide +kernel
theorem dX8_closeYear_116 : decode cX8_closeYear 116 = .ok (.iinc 3 1, 3) := by decide +kernel
theorem dX8_closeYear_119 : decode cX8_closeYear 119 = .ok (.goto (-60), 3) := by decide +kernel
theorem dX8_closeYear_122 : decode cX8_closeYear 122 = .ok (.aload_n 0, 1) := by decide +kernel
theorem dX8_closeYear_123 : decode cX8_closeYear 123 = .ok (.iload_n 2, 1) := by decide +kernel
theorem dX8_closeYear_124 : decode cX8_closeYear 124 = .ok (.putfield 112, 3) := by decide +kernel
theorem dX8_closeYear_127 : decode cX8_closeYear 127 = .ok (.aload_n 0, 1) := by decide +kernel
theorem dX8_closeYear_128 : decode cX8_closeYear 128 = .ok (.dup, 1) := by decide +kernel
theorem dX8_closeYear_129 : decode cX8_closeYear 129 = .ok (.getfield 139, 3) := by decide +kernel
theorem dX8_closeYear_132 : decode cX8_closeYear 132 = .ok (.iconst 1, 1) := by decide +kernel
theorem dX8_closeYear_133 : decode cX8_closeYear 133 = .ok (.iadd, 1) := by decide +kernel
theorem dX8_closeYear_134 : decode cX8_closeYear 134 = .ok (.putfield 139, 3) := by decide +kernel
theorem dX8_closeYear_137 : decode cX8_closeYear 137 = .ok (.iload_n 1, 1) := by decide +kernel
theorem dX8_closeYear_138 : decode cX8_closeYear 138 = .ok (.ireturn, 1) := by decide +kernel
set_option maxRecDepth 20000 in
theorem ggX8_addCredit_X8_isIn : GoodIn wsX8_addCredit wsX8_isIn := goodIn_r _ [9] (by decide +kernel) (by decide +kernel)
set_option maxRecDepth 20000 in
theorem gX8_addCredit_X8_isIn : GoodIn wsX8_addCredit (va_wsS RX8 69 yX8_isIn wsX8_isIn) := goodIn_app (goodIn_of _ (by decide +kernel)) ggX8_addCredit_X8_isIn
theorem dX8_addCredit_0 : decode cX8_addCredit 0 = .ok (.aload_n 0, 1) := by decide +kernel
theorem dX8_addCredit_1 : decode cX8_addCredit 1 = .ok (.iload_n 1, 1) := by decide +kernel
theorem dX8_addCredit_2 : decode cX8_addCredit 2 = .ok (.iconst 1, 1) := by decide +kernel
theorem dX8_addCredit_3 : decode cX8_addCredit 3 = .ok (.ldc 105, 2) := by decide +kernel
theorem dX8_addCredit_5 : decode cX8_addCredit 5 = .ok (.invokestatic 69, 3) := by decide +kernel
theorem dX8_addCredit_8 : decode cX8_addCredit 8 = .ok (.ifCond .eq 14, 3) := by decide +kernel
theorem dX8_addCredit_11 : decode cX8_addCredit 11 = .ok (.iload_n 2, 1) := by decide +kernel
theorem dX8_addCredit_12 : decode cX8_addCredit 12 = .ok (.iconst 0, 1) := by decide +kernel
theorem dX8_addCredit_13 : decode cX8_addCredit 13 = .ok (.sipush 1000, 3) := by decide +kernel
theorem dX8_addCredit_16 : decode cX8_addCredit 16 = .ok (.invokestatic 69, 3) := by decide +kernel
theorem dX8_addCredit_19 : decode cX8_addCredit 19 = .ok (.ifCond .ne 7, 3) := by decide +kernel
theorem dX8_addCredit_22 : decode cX8_addCredit 22 = .ok (.iconst 1, 1) := by decide +kernel
theorem dX8_addCredit_23 : decode cX8_addCredit 23 = .ok (.goto 16, 3) := by decide +kernel
theorem dX8_addCredit_26 : decode cX8_addCredit 26 = .ok (.aload_n 0, 1) := by decide +kernel
theorem dX8_addCredit_27 : decode cX8_addCredit 27 = .ok (.getfield 145, 3) := by decide +kernel
theorem dX8_addCredit_30 : decode cX8_addCredit 30 = .ok (.iconst 5, 1) := by decide +kernel
theorem dX8_addCredit_31 : decode cX8_addCredit 31 = .ok (.if_icmp .ne 7, 3) := by decide +kernel
theorem dX8_addCredit_34 : decode cX8_addCredit 34 = .ok (.iconst 2, 1) := by decide +kernel
theorem dX8_addCredit_35 : decode cX8_addCredit 35 = .ok (.goto 4, 3) := by decide +kernel
theorem dX8_addCredit_38 : decode cX8_addCredit 38 = .ok (.iconst 0, 1) := by decide +kernel
theorem dX8_addCredit_39 : decode cX8_addCredit 39 = .ok (.putfield 65, 3) := by decide +kernel
theorem dX8_addCredit_42 : decode cX8_addCredit 42 = .ok (.aload_n 0, 1) := by decide +kernel
theorem dX8_addCredit_43 : decode cX8_addCredit 43 = .ok (.getfield 65, 3) := by decide +kernel
theorem dX8_addCredit_46 : decode cX8_addCredit 46 = .ok (.ifCond .le 5, 3) := by decide +kernel
theorem dX8_addCredit_49 : decode cX8_addCredit 49 = .ok (.iconst 0, 1) := by decide +kernel
theorem dX8_addCredit_50 : decode cX8_addCredit 50 = .ok (.ireturn, 1) := by decide +kernel
theorem dX8_addCredit_51 : decode cX8_addCredit 51 = .ok (.aload_n 0, 1) := by decide +kernel
theorem dX8_addCredit_52 : decode cX8_addCredit 52 = .ok (.getfield 34, 3) := by decide +kernel
theorem dX8_addCredit_55 : decode cX8_addCredit 55 = .ok (.aload_n 0, 1) := by decide +kernel
theorem dX8_addCredit_56 : decode cX8_addCredit 56 = .ok (.getfield 145, 3) := by decide +kernel
theorem dX8_addCredit_59 : decode cX8_addCredit 59 = .ok (.iload_n 1, 1) := by decide +kernel
theorem dX8_addCredit_60 : decode cX8_addCredit 60 = .ok (.iastore, 1) := by decide +kernel
theorem dX8_addCredit_61 : decode cX8_addCredit 61 = .ok (.aload_n 0, 1) := by decide +kernel
theorem dX8_addCredit_62 : decode cX8_addCredit 62 = .ok (.getfield 37, 3) := by decide +kernel
theorem dX8_addCredit_65 : decode cX8_addCredit 65 = .ok (.aload_n 0, 1) := by decide +kernel
theorem dX8_addCredit_66 : decode cX8_addCredit 66 = .ok (.getfield 145, 3) := by decide +kernel
theorem dX8_addCredit_69 : decode cX8_addCredit 69 = .ok (.iload_n 2, 1) := by decide +kernel
theorem dX8_addCredit_70 : decode cX8_addCredit 70 = .ok (.iastore, 1) := by decide +kernel
theorem dX8_addCredit_71 : decode cX8_addCredit 71 = .ok (.aload_n 0, 1) := by decide +kernel
theorem dX8_addCredit_72 : decode cX8_addCredit 72 = .ok (.dup, 1) := by decide +kernel
theorem dX8_addCredit_73 : decode cX8_addCredit 73 = .ok (.getfield 145, 3) := by decide +kernel
theorem dX8_addCredit_76 : decode cX8_addCredit 76 = .ok (.iconst 1, 1) := by decide +kernel
theorem dX8_addCredit_77 : decode cX8_addCredit 77 = .ok (.iadd, 1) := by decide +kernel
theorem dX8_addCredit_78 : decode cX8_addCredit 78 = .ok (.putfield 145, 3) := by decide +kernel
theorem dX8_addCredit_81 : decode cX8_addCredit 81 = .ok (.aload_n 0, 1) := by decide +kernel
theorem dX8_addCredit_82 : decode cX8_addCredit 82 = .ok (.getfield 145, 3) := by decide +kernel
theorem dX8_addCredit_85 : decode cX8_addCredit 85 = .ok (.iconst 1, 1) := by decide +kernel
theorem dX8_addCredit_86 : decode cX8_addCredit 86 = .ok (.isub, 1) := by decide +kernel
theorem dX8_addCredit_87 : decode cX8_addCredit 87 = .ok (.ireturn, 1) := by decide +kernel
theorem dX8_dropCredit_0 : decode cX8_dropCredit 0 = .ok (.aload_n 0, 1) := by decide +kernel
theorem dX8_dropCredit_1 : decode cX8_dropCredit 1 = .ok (.aload_n 0, 1) := by decide +kernel
theorem dX8_dropCredit_2 : decode cX8_dropCredit 2 = .ok (.getfield 145, 3) := by decide +kernel
theorem dX8_dropCredit_5 : decode cX8_dropCredit 5 = .ok (.ifCond .ne 7, 3) := by decide +kernel
theorem dX8_dropCredit_8 : decode cX8_dropCredit 8 = .ok (.iconst 1, 1) := by decide +kernel
theorem dX8_dropCredit_9 : decode cX8_dropCredit 9 = .ok (.goto 4, 3) := by decide +kernel
theorem dX8_dropCredit_12 : decode cX8_dropCredit 12 = .ok (.iconst 0, 1) := by decide +kernel
theorem dX8_dropCredit_13 : decode cX8_dropCredit 13 = .ok (.putfield 65, 3) := by decide +kernel
theorem dX8_dropCredit_16 : decode cX8_dropCredit 16 = .ok (.aload_n 0, 1) := by decide +kernel
theorem dX8_dropCredit_17 : decode cX8_dropCredit 17 = .ok (.getfield 65, 3) := by decide +kernel
theorem dX8_dropCredit_20 : decode cX8_dropCredit 20 = .ok (.ifCond .le 5, 3) := by decide +kernel
theorem dX8_dropCredit_23 : decode cX8_dropCredit 23 = .ok (.iconst 0, 1) := by decide +kernel
theorem dX8_dropCredit_24 : decode cX8_dropCredit 24 = .ok (.ireturn, 1) := by decide +kernel
theorem dX8_dropCredit_25 : decode cX8_dropCredit 25 = .ok (.aload_n 0, 1) := by decide +kernel
theorem dX8_dropCredit_26 : decode cX8_dropCredit 26 = .ok (.dup, 1) := by decide +kernel
theorem dX8_dropCredit_27 : decode cX8_dropCredit 27 = .ok (.getfield 145, 3) := by decide +kernel
theorem dX8_dropCredit_30 : decode cX8_dropCredit 30 = .ok (.iconst 1, 1) := by decide +kernel
theorem dX8_dropCredit_31 : decode cX8_dropCredit 31 = .ok (.isub, 1) := by decide +kernel
theorem dX8_dropCredit_32 : decode cX8_dropCredit 32 = .ok (.putfield 145, 3) := by decide +kernel
theorem dX8_dropCredit_35 : decode cX8_dropCredit 35 = .ok (.aload_n 0, 1) := by decide +kernel
theorem dX8_dropCredit_36 : decode cX8_dropCredit 36 = .ok (.getfield 145, 3) := by decide +kernel
theorem dX8_dropCredit_39 : decode cX8_dropCredit 39 = .ok (.ireturn, 1) := by decide +kernel
theorem dX8_comes_0 : decode cX8_comes 0 = .ok (.iload_n 1, 1) := by decide +kernel
theorem dX8_comes_1 : decode cX8_comes 1 = .ok (.istore_n 2, 1) := by decide +kernel
theorem dX8_comes_2 : decode cX8_comes 2 = .ok (.iconst 0, 1) := by decide +kernel
theorem dX8_comes_3 : decode cX8_comes 3 = .ok (.istore_n 3, 1) := by decide +kernel
theorem dX8_comes_4 : decode cX8_comes 4 = .ok (.iconst 0, 1) := by decide +kernel
theorem dX8_comes_5 : decode cX8_comes 5 = .ok (.istore 4, 2) := by decide +kernel
theorem dX8_comes_7 : decode cX8_comes 7 = .ok (.iload 4, 2) := by decide +kernel
theorem dX8_comes_9 : decode cX8_comes 9 = .ok (.aload_n 0, 1) := by decide +kernel
theorem dX8_comes_10 : decode cX8_comes 10 = .ok (.getfield 145, 3) := by decide +kernel
theorem dX8_comes_13 : decode cX8_comes 13 = .ok (.if_icmp .ge 73, 3) := by decide +kernel
theorem dX8_comes_16 : decode cX8_comes 16 = .ok (.aload_n 0, 1) := by decide +kernel
theorem dX8_comes_17 : decode cX8_comes 17 = .ok (.getfield 34, 3) := by decide +kernel
theorem dX8_comes_20 : decode cX8_comes 20 = .ok (.aload_n 0, 1) := by decide +kernel
theorem dX8_comes_21 : decode cX8_comes 21 = .ok (.getfield 59, 3) := by decide +kernel
theorem dX8_comes_24 : decode cX8_comes 24 = .ok (.iload 4, 2) := by decide +kernel
theorem dX8_comes_26 : decode cX8_comes 26 = .ok (.iaload, 1) := by decide +kernel
theorem dX8_comes_27 : decode cX8_comes 27 = .ok (.iaload, 1) := by decide +kernel
theorem dX8_comes_28 : decode cX8_comes 28 = .ok (.istore 5, 2) := by decide +kernel
theorem dX8_comes_30 : decode cX8_comes 30 = .ok (.iload 5, 2) := by decide +kernel
theorem dX8_comes_32 : decode cX8_comes 32 = .ok (.iload_n 2, 1) := by decide +kernel
theorem dX8_comes_33 : decode cX8_comes 33 = .ok (.if_icmp .ge 8, 3) := by decide +kernel
theorem dX8_comes_36 : decode cX8_comes 36 = .ok (.iload 5, 2) := by decide +kernel
theorem dX8_comes_38 : decode cX8_comes 38 = .ok (.goto 4, 3) := by decide +kernel
theorem dX8_comes_41 : decode cX8_comes 41 = .ok (.iload_n 2, 1) := by decide +kernel
theorem dX8_comes_42 : decode cX8_comes 42 = .ok (.istore 6, 2) := by decide +kernel
theorem dX8_comes_44 : decode cX8_comes 44 = .ok (.iload_n 2, 1) := by decide +kernel
theorem dX8_comes_45 : decode cX8_comes 45 = .ok (.iload 6, 2) := by decide +kernel
theorem dX8_comes_47 : decode cX8_comes 47 = .ok (.isub, 1) := by decide +kernel
theorem dX8_comes_48 : decode cX8_comes 48 = .ok (.istore_n 2, 1) := by decide +kernel
theorem dX8_comes_49 : decode cX8_comes 49 = .ok (.iload_n 3, 1) := by decide +kernel
theorem dX8_comes_50 : decode cX8_comes 50 = .ok (.iload 6, 2) := by decide +kernel
theorem dX8_comes_52 : decode cX8_comes 52 = .ok (.iload 5, 2) := by decide +kernel
theorem dX8_comes_54 : decode cX8_comes 54 = .ok (.iload 6, 2) := by decide +kernel
theorem dX8_comes_56 : decode cX8_comes 56 = .ok (.isub, 1) := by decide +kernel
theorem dX8_comes_57 : decode cX8_comes 57 = .ok (.i2l, 1) := by decide +kernel
theorem dX8_comes_58 : decode cX8_comes 58 = .ok (.aload_n 0, 1) := by decide +kernel
theorem dX8_comes_59 : decode cX8_comes 59 = .ok (.getfield 37, 3) := by decide +kernel
theorem dX8_comes_62 : decode cX8_comes 62 = .ok (.aload_n 0, 1) := by decide +kernel
theorem dX8_comes_63 : decode cX8_comes 63 = .ok (.getfield 59, 3) := by decide +kernel
theorem dX8_comes_66 : decode cX8_comes 66 = .ok (.iload 4, 2) := by decide +kernel
theorem dX8_comes_68 : decode cX8_comes 68 = .ok (.iaload, 1) := by decide +kernel
theorem dX8_comes_69 : decode cX8_comes 69 = .ok (.iaload, 1) := by decide +kernel
theorem dX8_comes_70 : decode cX8_comes 70 = .ok (.i2l, 1) := by decide +kernel
theorem dX8_comes_71 : decode cX8_comes 71 = .ok (.lmul, 1) := by decide +kernel
theorem dX8_comes_72 : decode cX8_comes 72 = .ok (.ldc2_w 110, 3) := by decide +kernel
theorem dX8_comes_75 : decode cX8_comes 75 = .ok (.ldiv, 1) := by decide +kernel
theorem dX8_comes_76 : decode cX8_comes 76 = .ok (.l2i, 1) := by decide +kernel
theorem dX8_comes_77 : decode cX8_comes 77 = .ok (.iadd, 1) := by decide +kernel
theorem dX8_comes_78 : decode cX8_comes 78 = .ok (.iadd, 1) := by decide +kernel
theorem dX8_comes_79 : decode cX8_comes 79 = .ok (.istore_n 3, 1) := by decide +kernel
theorem dX8_comes_80 : decode cX8_comes 80 = .ok (.iinc 4 1, 3) := by decide +kernel
theorem dX8_comes_83 : decode cX8_comes 83 = .ok (.goto (-76), 3) := by decide +kernel
theorem dX8_comes_86 : decode cX8_comes 86 = .ok (.iload_n 3, 1) := by decide +kernel
theorem dX8_comes_87 : decode cX8_comes 87 = .ok (.ireturn, 1) := by decide +kernel
theorem dX8_laysOrder_0 : decode cX8_laysOrder 0 = .ok (.iload_n 1, 1) := by decide +kernel
theorem dX8_laysOrder_1 : decode cX8_laysOrder 1 = .ok (.istore_n 2, 1) := by decide +kernel
theorem dX8_laysOrder_2 : decode cX8_laysOrder 2 = .ok (.iconst 0, 1) := by decide +kernel
theorem dX8_laysOrder_3 : decode cX8_laysOrder 3 = .ok (.istore_n 3, 1) := by decide +kernel
theorem dX8_laysOrder_4 : decode cX8_laysOrder 4 = .ok (.aload_n 0, 1) := by decide +kernel
theorem dX8_laysOrder_5 : decode cX8_laysOrder 5 = .ok (.getfield 145, 3) := by decide +kernel
theorem dX8_laysOrder_8 : decode cX8_laysOrder 8 = .ok (.iconst 1, 1) := by decide +kernel
theorem dX8_laysOrder_9 : decode cX8_laysOrder 9 = .ok (.isub, 1) := by decide +kernel
theorem dX8_laysOrder_10 : decode cX8_laysOrder 10 = .ok (.istore 4, 2) := by decide +kernel
theorem dX8_laysOrder_12 : decode cX8_laysOrder 12 = .ok (.iload 4, 2) := by decide +kernel
theorem dX8_laysOrder_14 : decode cX8_laysOrder 14 = .ok (.ifCond .lt 41, 3) := by decide +kernel
theorem dX8_laysOrder_17 : decode cX8_laysOrder 17 = .ok (.aload_n 0, 1) := by decide +kernel
theorem dX8_laysOrder_18 : decode cX8_laysOrder 18 = .ok (.getfield 59, 3) := by decide +kernel
theorem dX8_laysOrder_21 : decode cX8_laysOrder 21 = .ok (.iload 4, 2) := by decide +kernel
theorem dX8_laysOrder_23 : decode cX8_laysOrder 23 = .ok (.iload_n 2, 1) := by decide +kernel
theorem dX8_laysOrder_24 : decode cX8_laysOrder 24 = .ok (.aload_n 0, 1) := by decide +kernel
theorem dX8_laysOrder_25 : decode cX8_laysOrder 25 = .ok (.getfield 145, 3) := by decide +kernel
theorem dX8_laysOrder_28 : decode cX8_laysOrder 28 = .ok (.irem, 1) := by decide +kernel
theorem dX8_laysOrder_29 : decode cX8_laysOrder 29 = .ok (.iastore, 1) := by decide +kernel
theorem dX8_laysOrder_30 : decode cX8_laysOrder 30 = .ok (.iload_n 2, 1) := by decide +kernel
theorem dX8_laysOrder_31 : decode cX8_laysOrder 31 = .ok (.aload_n 0, 1) := by decide +kernel
theorem dX8_laysOrder_32 : decode cX8_laysOrder 32 = .ok (.getfield 145, 3) := by decide +kernel
theorem dX8_laysOrder_35 : decode cX8_laysOrder 35 = .ok (.idiv, 1) := by decide +kernel
theorem dX8_laysOrder_36 : decode cX8_laysOrder 36 = .ok (.istore_n 2, 1) := by decide +kernel
theorem dX8_laysOrder_37 : decode cX8_laysOrder 37 = .ok (.iload_n 3, 1) := by decide +kernel
theorem dX8_laysOrder_38 : decode cX8_laysOrder 38 = .ok (.iconst 1, 1) := by decide +kernel
theorem dX8_laysOrder_39 : decode cX8_laysOrder 39 = .ok (.aload_n 0, 1) := by decide +kernel
theorem dX8_laysOrder_40 : decode cX8_laysOrder 40 = .ok (.getfield 59, 3) := by decide +kernel
theorem dX8_laysOrder_43 : decode cX8_laysOrder 43 = .ok (.iload 4, 2) := by decide +kernel
theorem dX8_laysOrder_45 : decode cX8_laysOrder 45 = .ok (.iaload, 1) := by decide +kernel
theorem dX8_laysOrder_46 : decode cX8_laysOrder 46 = .ok (.ishl, 1) := by decide +kernel
theorem dX8_laysOrder_47 : decode cX8_laysOrder 47 = .ok (.ior, 1) := by decide +kernel
theorem dX8_laysOrder_48 : decode cX8_laysOrder 48 = .ok (.istore_n 3, 1) := by decide +kernel
theorem dX8_laysOrder_49 : decode cX8_laysOrder 49 = .ok (.iinc 4 (-1), 3) := by decide +kernel
theorem dX8_laysOrder_52 : decode cX8_laysOrder 52 = .ok (.goto (-40), 3) := by decide +kernel
theorem dX8_laysOrder_55 : decode cX8_laysOrder 55 = .ok (.iload_n 3, 1) := by decide +kernel
theorem dX8_laysOrder_56 : decode cX8_laysOrder 56 = .ok (.iconst 1, 1) := by decide +kernel
theorem dX8_laysOrder_57 : decode cX8_laysOrder 57 = .ok (.aload_n 0, 1) := by decide +kernel
theorem dX8_laysOrder_58 : decode cX8_laysOrder 58 = .ok (.getfield 145, 3) := by decide +kernel
theorem dX8_laysOrder_61 : decode cX8_laysOrder 61 = .ok (.ishl, 1) := by decide +kernel
theorem dX8_laysOrder_62 : decode cX8_laysOrder 62 = .ok (.iconst 1, 1) := by decide +kernel
theorem dX8_laysOrder_63 : decode cX8_laysOrder 63 = .ok (.isub, 1) := by decide +kernel
theorem dX8_laysOrder_64 : decode cX8_laysOrder 64 = .ok (.if_icmp .ne 7, 3) := by decide +kernel
theorem dX8_laysOrder_67 : decode cX8_laysOrder 67 = .ok (.iconst 1, 1) := by decide +kernel
theorem dX8_laysOrder_68 : decode cX8_laysOrder 68 = .ok (.goto 4, 3) := by decide +kernel
theorem dX8_laysOrder_71 : decode cX8_laysOrder 71 = .ok (.iconst 0, 1) := by decide +kernel
theorem dX8_laysOrder_72 : decode cX8_laysOrder 72 = .ok (.ireturn, 1) := by decide +kernel
set_option maxRecDepth 20000 in
theorem ggX8_orders_X8_laysOrder : GoodIn wsX8_orders wsX8_laysOrder := goodIn_r _ [9, 1, 4, 17, 18, 19, 20, 21, 22, 23, 24, 25, 26, 27, 28, 29, 30, 31, 32, 33, 34, 35, 36, 37, 38, 39, 40] (by decide +kernel) (by decide +kernel)
set_option maxRecDepth 20000 in
theorem gX8_orders_X8_laysOrder : GoodIn wsX8_orders (wsV RX8 151 RX8 yX8_laysOrder wsX8_laysOrder) := goodIn_app (goodIn_of _ (by decide +kernel)) ggX8_orders_X8_laysOrder
set_option maxRecDepth 20000 in
theorem ggX8_orders_X8_comes : GoodIn wsX8_orders wsX8_comes := goodIn_r _ [13, 1, 14, 4, 15, 16, 17, 18, 19, 20, 21, 22, 23, 24, 25, 26, 27, 28, 29, 30, 31, 32, 33, 34, 35, 36, 37, 38, 39, 40] (by decide +kernel) (by decide +kernel)
set_option maxRecDepth 20000 in
theorem gX8_orders_X8_comes : GoodIn wsX8_orders (wsV RX8 154 RX8 yX8_comes wsX8_comes) := goodIn_app (goodIn_of _ (by decide +kernel)) ggX8_orders_X8_comes
theorem dX8_orders_0 : decode cX8_orders 0 = .ok (.iconst 1, 1) := by decide +kernel
theorem dX8_orders_1 : decode cX8_orders 1 = .ok (.istore_n 2, 1) := by decide +kernel
theorem dX8_orders_2 : decode cX8_orders 2 = .ok (.iconst 0, 1) := by decide +kernel
theorem dX8_orders_3 : decode cX8_orders 3 = .ok (.istore_n 3, 1) := by decide +kernel
theorem dX8_orders_4 : decode cX8_orders 4 = .ok (.iload_n 3, 1) := by decide +kernel
theorem dX8_orders_5 : decode cX8_orders 5 = .ok (.aload_n 0, 1) := by decide +kernel
theorem dX8_orders_6 : decode cX8_orders 6 = .ok (.getfield 145, 3) := by decide +kernel
theorem dX8_orders_9 : decode cX8_orders 9 = .ok (.if_icmp .ge 16, 3) := by decide +kernel
theorem dX8_orders_12 : decode cX8_orders 12 = .ok (.iload_n 2, 1) := by decide +kernel
theorem dX8_orders_13 : decode cX8_orders 13 = .ok (.aload_n 0, 1) := by decide +kernel
theorem dX8_orders_14 : decode cX8_orders 14 = .ok (.getfield 145, 3) := by decide +kernel
theorem dX8_orders_17 : decode cX8_orders 17 = .ok (.imul, 1) := by decide +kernel
theorem dX8_orders_18 : decode cX8_orders 18 = .ok (.istore_n 2, 1) := by decide +kernel
theorem dX8_orders_19 : decode cX8_orders 19 = .ok (.iinc 3 1, 3) := by decide +kernel
theorem dX8_orders_22 : decode cX8_orders 22 = .ok (.goto (-18), 3) := by decide +kernel
theorem dX8_orders_25 : decode cX8_orders 25 = .ok (.aload_n 0, 1) := by decide +kernel
theorem dX8_orders_26 : decode cX8_orders 26 = .ok (.iconst (-1), 1) := by decide +kernel
theorem dX8_orders_27 : decode cX8_orders 27 = .ok (.putfield 148, 3) := by decide +kernel
theorem dX8_orders_30 : decode cX8_orders 30 = .ok (.iconst 0, 1) := by decide +kernel
theorem dX8_orders_31 : decode cX8_orders 31 = .ok (.istore_n 3, 1) := by decide +kernel
theorem dX8_orders_32 : decode cX8_orders 32 = .ok (.iload_n 3, 1) := by decide +kernel
theorem dX8_orders_33 : decode cX8_orders 33 = .ok (.iload_n 2, 1) := by decide +kernel
theorem dX8_orders_34 : decode cX8_orders 34 = .ok (.if_icmp .ge 70, 3) := by decide +kernel
theorem dX8_orders_37 : decode cX8_orders 37 = .ok (.aload_n 0, 1) := by decide +kernel
theorem dX8_orders_38 : decode cX8_orders 38 = .ok (.iload_n 3, 1) := by decide +kernel
theorem dX8_orders_39 : decode cX8_orders 39 = .ok (.invokevirtual 151, 3) := by decide +kernel
theorem dX8_orders_42 : decode cX8_orders 42 = .ok (.ifCond .eq 56, 3) := by decide +kernel
theorem dX8_orders_45 : decode cX8_orders 45 = .ok (.aload_n 0, 1) := by decide +kernel
theorem dX8_orders_46 : decode cX8_orders 46 = .ok (.iload_n 1, 1) := by decide +kernel
theorem dX8_orders_47 : decode cX8_orders 47 = .ok (.invokevirtual 154, 3) := by decide +kernel
theorem dX8_orders_50 : decode cX8_orders 50 = .ok (.aload_n 0, 1) := by decide +kernel
theorem dX8_orders_51 : decode cX8_orders 51 = .ok (.getfield 148, 3) := by decide +kernel
theorem dX8_orders_54 : decode cX8_orders 54 = .ok (.if_icmp .le 44, 3) := by decide +kernel
theorem dX8_orders_57 : decode cX8_orders 57 = .ok (.aload_n 0, 1) := by decide +kernel
theorem dX8_orders_58 : decode cX8_orders 58 = .ok (.aload_n 0, 1) := by decide +kernel
theorem dX8_orders_59 : decode cX8_orders 59 = .ok (.iload_n 1, 1) := by decide +kernel
theorem dX8_orders_60 : decode cX8_orders 60 = .ok (.invokevirtual 154, 3) := by decide +kernel
theorem dX8_orders_63 : decode cX8_orders 63 = .ok (.putfield 148, 3) := by decide +kernel
theorem dX8_orders_66 : decode cX8_orders 66 = .ok (.iconst 0, 1) := by decide +kernel
theorem dX8_orders_67 : decode cX8_orders 67 = .ok (.istore 4, 2) := by decide +kernel
theorem dX8_orders_69 : decode cX8_orders 69 = .ok (.iload 4, 2) := by decide +kernel
theorem dX8_orders_71 : decode cX8_orders 71 = .ok (.aload_n 0, 1) := by decide +kernel
theorem dX8_orders_72 : decode cX8_orders 72 = .ok (.getfield 145, 3) := by decide +kernel
theorem dX8_orders_75 : decode cX8_orders 75 = .ok (.if_icmp .ge 23, 3) := by decide +kernel
theorem dX8_orders_78 : decode cX8_orders 78 = .ok (.aload_n 0, 1) := by decide +kernel
theorem dX8_orders_79 : decode cX8_orders 79 = .ok (.getfield 62, 3) := by decide +kernel
theorem dX8_orders_82 : decode cX8_orders 82 = .ok (.iload 4, 2) := by decide +kernel
theorem dX8_orders_84 : decode cX8_orders 84 = .ok (.aload_n 0, 1) := by decide +kernel
theorem dX8_orders_85 : decode cX8_orders 85 = .ok (.getfield 59, 3) := by decide +kernel
theorem dX8_orders_88 : decode cX8_orders 88 = .ok (.iload 4, 2) := by decide +kernel
theorem dX8_orders_90 : decode cX8_orders 90 = .ok (.iaload, 1) := by decide +kernel
theorem dX8_orders_91 : decode cX8_orders 91 = .ok (.iastore, 1) := by decide +kernel
theorem dX8_orders_92 : decode cX8_orders 92 = .ok (.iinc 4 1, 3) := by decide +kernel
theorem dX8_orders_95 : decode cX8_orders 95 = .ok (.goto (-26), 3) := by decide +kernel
theorem dX8_orders_98 : decode cX8_orders 98 = .ok (.iinc 3 1, 3) := by decide +kernel
theorem dX8_orders_101 : decode cX8_orders 101 = .ok (.goto (-69), 3) := by decide +kernel
theorem dX8_orders_104 : decode cX8_orders 104 = .ok (.return_, 1) := by decide +kernel
set_option maxRecDepth 20000 in
theorem ggX8_creditAt_X8_isLine : GoodIn wsX8_creditAt wsX8_isLine := goodIn_r _ [8, 9, 10, 7, 11] (by decide +kernel) (by decide +kernel)
set_option maxRecDepth 20000 in
theorem gX8_creditAt_X8_isLine : GoodIn wsX8_creditAt (va_wsS RX8 98 yX8_isLine wsX8_isLine) := goodIn_app (goodIn_of _ (by decide +kernel)) ggX8_creditAt_X8_isLine
set_option maxRecDepth 20000 in
theorem ggX8_creditAt_X8_isIn : GoodIn wsX8_creditAt wsX8_isIn := goodIn_r _ [11] (by decide +kernel) (by decide +kernel)
set_option maxRecDepth 20000 in
theorem gX8_creditAt_X8_isIn : GoodIn wsX8_creditAt (va_wsS RX8 69 yX8_isIn wsX8_isIn) := goodIn_app (goodIn_of _ (by decide +kernel)) ggX8_creditAt_X8_isIn
set_option maxRecDepth 20000 in
theorem ggX8_creditAt_X8_solves : GoodIn wsX8_creditAt wsX8_solves := goodIn_r _ [15, 16, 3, 17, 18, 19, 20, 21, 7, 22, 23, 24, 25, 26, 27, 28, 29, 30, 31, 32, 33, 34, 35, 36, 37, 38, 39, 40, 41, 42, 43, 44, 45, 46, 47, 48, 49, 50, 51, 52, 53, 54, 55, 56, 57, 58, 59, 76, 77, 78, 79, 80, 81, 82, 83, 84, 85, 86, 87, 88, 89, 90, 91, 92, 93, 94, 95, 96, 97, 98, 99] (by decide +kernel) (by decide +kernel)
set_option maxRecDepth 20000 in
theorem gX8_creditAt_X8_solves : GoodIn wsX8_creditAt (wsV RX8 135 RX8 yX8_solves wsX8_solves) := goodIn_app (goodIn_of _ (by decide +kernel)) ggX8_creditAt_X8_solves
set_option maxRecDepth 20000 in
theorem ggX8_creditAt_X8_orders : GoodIn wsX8_creditAt wsX8_orders := goodIn_r _ [63, 1, 64, 4, 65, 66, 67, 68, 7, 69, 70, 71, 72, 73, 74, 75, 38, 76, 77, 78, 79, 80, 81, 82, 83, 84, 85, 86, 87, 88, 89, 90, 91, 92, 93, 94, 95, 96, 97, 98, 99] (by decide +kernel) (by decide +kernel)
set_option maxRecDepth 20000 in
theorem gX8_creditAt_X8_orders : GoodIn wsX8_creditAt (wsV RX8 157 RX8 yX8_orders wsX8_orders) := goodIn_app (goodIn_of _ (by decide +kernel)) ggX8_creditAt_X8_orders
theorem dX8_creditAt_0 : decode cX8_creditAt 0 = .ok (.aload_n 0, 1) := by decide +kernel
theorem dX8_creditAt_1 : decode cX8_creditAt 1 = .ok (.iload_n 1, 1) := by decide +kernel
theorem dX8_creditAt_2 : decode cX8_creditAt 2 = .ok (.invokestatic 98, 3) := by decide +kernel
theorem dX8_creditAt_5 : decode cX8_creditAt 5 = .ok (.ifCond .eq 21, 3) := by decide +kernel
theorem dX8_creditAt_8 : decode cX8_creditAt 8 = .ok (.iload_n 2, 1) := by decide +kernel
theorem dX8_creditAt_9 : decode cX8_creditAt 9 = .ok (.iconst 0, 1) := by decide +kernel
theorem dX8_creditAt_10 : decode cX8_creditAt 10 = .ok (.aload_n 0, 1) := by decide +kernel
theorem dX8_creditAt_11 : decode cX8_creditAt 11 = .ok (.getfield 145, 3) := by decide +kernel
theorem dX8_creditAt_14 : decode cX8_creditAt 14 = .ok (.iconst 1, 1) := by decide +kernel
theorem dX8_creditAt_15 : decode cX8_creditAt 15 = .ok (.isub, 1) := by decide +kernel
theorem dX8_creditAt_16 : decode cX8_creditAt 16 = .ok (.invokestatic 69, 3) := by decide +kernel
theorem dX8_creditAt_19 : decode cX8_creditAt 19 = .ok (.ifCond .eq 7, 3) := by decide +kernel
theorem dX8_creditAt_22 : decode cX8_creditAt 22 = .ok (.iconst 0, 1) := by decide +kernel
theorem dX8_creditAt_23 : decode cX8_creditAt 23 = .ok (.goto 4, 3) := by decide +kernel
theorem dX8_creditAt_26 : decode cX8_creditAt 26 = .ok (.iconst 1, 1) := by decide +kernel
theorem dX8_creditAt_27 : decode cX8_creditAt 27 = .ok (.putfield 65, 3) := by decide +kernel
theorem dX8_creditAt_30 : decode cX8_creditAt 30 = .ok (.aload_n 0, 1) := by decide +kernel
theorem dX8_creditAt_31 : decode cX8_creditAt 31 = .ok (.getfield 65, 3) := by decide +kernel
theorem dX8_creditAt_34 : decode cX8_creditAt 34 = .ok (.ifCond .le 5, 3) := by decide +kernel
theorem dX8_creditAt_37 : decode cX8_creditAt 37 = .ok (.iconst 0, 1) := by decide +kernel
theorem dX8_creditAt_38 : decode cX8_creditAt 38 = .ok (.ireturn, 1) := by decide +kernel
theorem dX8_creditAt_39 : decode cX8_creditAt 39 = .ok (.aload_n 0, 1) := by decide +kernel
theorem dX8_creditAt_40 : decode cX8_creditAt 40 = .ok (.iconst (-1), 1) := by decide +kernel
theorem dX8_creditAt_41 : decode cX8_creditAt 41 = .ok (.iconst 0, 1) := by decide +kernel
theorem dX8_creditAt_42 : decode cX8_creditAt 42 = .ok (.invokevirtual 135, 3) := by decide +kernel
theorem dX8_creditAt_45 : decode cX8_creditAt 45 = .ok (.aload_n 0, 1) := by decide +kernel
theorem dX8_creditAt_46 : decode cX8_creditAt 46 = .ok (.aload_n 0, 1) := by decide +kernel
theorem dX8_creditAt_47 : decode cX8_creditAt 47 = .ok (.getfield 40, 3) := by decide +kernel
theorem dX8_creditAt_50 : decode cX8_creditAt 50 = .ok (.iload_n 1, 1) := by decide +kernel
theorem dX8_creditAt_51 : decode cX8_creditAt 51 = .ok (.iaload, 1) := by decide +kernel
theorem dX8_creditAt_52 : decode cX8_creditAt 52 = .ok (.invokevirtual 157, 3) := by decide +kernel
theorem dX8_creditAt_55 : decode cX8_creditAt 55 = .ok (.aload_n 0, 1) := by decide +kernel
theorem dX8_creditAt_56 : decode cX8_creditAt 56 = .ok (.getfield 62, 3) := by decide +kernel
theorem dX8_creditAt_59 : decode cX8_creditAt 59 = .ok (.iload_n 2, 1) := by decide +kernel
theorem dX8_creditAt_60 : decode cX8_creditAt 60 = .ok (.iaload, 1) := by decide +kernel
theorem dX8_creditAt_61 : decode cX8_creditAt 61 = .ok (.ireturn, 1) := by decide +kernel
set_option maxRecDepth 20000 in
theorem ggX8_afterCredits_X8_isLine : GoodIn wsX8_afterCredits wsX8_isLine := goodIn_r _ [8, 9, 10, 7, 11] (by decide +kernel) (by decide +kernel)
set_option maxRecDepth 20000 in
theorem gX8_afterCredits_X8_isLine : GoodIn wsX8_afterCredits (va_wsS RX8 98 yX8_isLine wsX8_isLine) := goodIn_app (goodIn_of _ (by decide +kernel)) ggX8_afterCredits_X8_isLine
set_option maxRecDepth 20000 in
theorem ggX8_afterCredits_X8_solves : GoodIn wsX8_afterCredits wsX8_solves := goodIn_r _ [15, 16, 2, 17, 18, 19, 20, 21, 7, 22, 23, 24, 25, 26, 27, 28, 29, 30, 31, 32, 33, 34, 35, 36, 37, 38, 39, 40, 41, 42, 43, 44, 45, 46, 47, 48, 49, 50, 51, 52, 53, 54, 55, 56, 57, 58, 59, 60, 61, 62, 63, 64, 65, 66, 67, 68, 69, 70, 71, 72, 73, 74, 75, 76, 77, 78, 79, 80, 81, 82, 83] (by decide +kernel) (by decide +kernel)
set_option maxRecDepth 20000 in
theorem gX8_afterCredits_X8_solves : GoodIn wsX8_afterCredits (wsV RX8 135 RX8 yX8_solves wsX8_solves) := goodIn_app (goodIn_of _ (by decide +kernel)) ggX8_afterCredits_X8_solves
theorem dX8_afterCredits_0 : decode cX8_afterCredits 0 = .ok (.aload_n 0, 1) := by decide +kernel
theorem dX8_afterCredits_1 : decode cX8_afterCredits 1 = .ok (.iload_n 1, 1) := by decide +kernel
theorem dX8_afterCredits_2 : decode cX8_afterCredits 2 = .ok (.invokestatic 98, 3) := by decide +kernel
theorem dX8_afterCredits_5 : decode cX8_afterCredits 5 = .ok (.ifCond .eq 7, 3) := by decide +kernel
theorem dX8_afterCredits_8 : decode cX8_afterCredits 8 = .ok (.iconst 0, 1) := by decide +kernel
theorem dX8_afterCredits_9 : decode cX8_afterCredits 9 = .ok (.goto 4, 3) := by decide +kernel
theorem dX8_afterCredits_12 : decode cX8_afterCredits 12 = .ok (.iconst 1, 1) := by decide +kernel
theorem dX8_afterCredits_13 : decode cX8_afterCredits 13 = .ok (.putfield 65, 3) := by decide +kernel
theorem dX8_afterCredits_16 : decode cX8_afterCredits 16 = .ok (.aload_n 0, 1) := by decide +kernel
theorem dX8_afterCredits_17 : decode cX8_afterCredits 17 = .ok (.getfield 65, 3) := by decide +kernel
theorem dX8_afterCredits_20 : decode cX8_afterCredits 20 = .ok (.ifCond .le 5, 3) := by decide +kernel
theorem dX8_afterCredits_23 : decode cX8_afterCredits 23 = .ok (.iconst 0, 1) := by decide +kernel
theorem dX8_afterCredits_24 : decode cX8_afterCredits 24 = .ok (.ireturn, 1) := by decide +kernel
theorem dX8_afterCredits_25 : decode cX8_afterCredits 25 = .ok (.aload_n 0, 1) := by decide +kernel
theorem dX8_afterCredits_26 : decode cX8_afterCredits 26 = .ok (.iconst (-1), 1) := by decide +kernel
theorem dX8_afterCredits_27 : decode cX8_afterCredits 27 = .ok (.iconst 0, 1) := by decide +kernel
theorem dX8_afterCredits_28 : decode cX8_afterCredits 28 = .ok (.invokevirtual 135, 3) := by decide +kernel
theorem dX8_afterCredits_31 : decode cX8_afterCredits 31 = .ok (.aload_n 0, 1) := by decide +kernel
theorem dX8_afterCredits_32 : decode cX8_afterCredits 32 = .ok (.getfield 40, 3) := by decide +kernel
theorem dX8_afterCredits_35 : decode cX8_afterCredits 35 = .ok (.iload_n 1, 1) := by decide +kernel
theorem dX8_afterCredits_36 : decode cX8_afterCredits 36 = .ok (.iaload, 1) := by decide +kernel
theorem dX8_afterCredits_37 : decode cX8_afterCredits 37 = .ok (.istore_n 2, 1) := by decide +kernel
theorem dX8_afterCredits_38 : decode cX8_afterCredits 38 = .ok (.iconst 0, 1) := by decide +kernel
theorem dX8_afterCredits_39 : decode cX8_afterCredits 39 = .ok (.istore_n 3, 1) := by decide +kernel
theorem dX8_afterCredits_40 : decode cX8_afterCredits 40 = .ok (.iload_n 3, 1) := by decide +kernel
theorem dX8_afterCredits_41 : decode cX8_afterCredits 41 = .ok (.aload_n 0, 1) := by decide +kernel
theorem dX8_afterCredits_42 : decode cX8_afterCredits 42 = .ok (.getfield 145, 3) := by decide +kernel
theorem dX8_afterCredits_45 : decode cX8_afterCredits 45 = .ok (.if_icmp .ge 32, 3) := by decide +kernel
theorem dX8_afterCredits_48 : decode cX8_afterCredits 48 = .ok (.iload_n 2, 1) := by decide +kernel
theorem dX8_afterCredits_49 : decode cX8_afterCredits 49 = .ok (.aload_n 0, 1) := by decide +kernel
theorem dX8_afterCredits_50 : decode cX8_afterCredits 50 = .ok (.getfield 34, 3) := by decide +kernel
theorem dX8_afterCredits_53 : decode cX8_afterCredits 53 = .ok (.iload_n 3, 1) := by decide +kernel
theorem dX8_afterCredits_54 : decode cX8_afterCredits 54 = .ok (.iaload, 1) := by decide +kernel
theorem dX8_afterCredits_55 : decode cX8_afterCredits 55 = .ok (.iload_n 2, 1) := by decide +kernel
theorem dX8_afterCredits_56 : decode cX8_afterCredits 56 = .ok (.if_icmp .ge 12, 3) := by decide +kernel
theorem dX8_afterCredits_59 : decode cX8_afterCredits 59 = .ok (.aload_n 0, 1) := by decide +kernel
theorem dX8_afterCredits_60 : decode cX8_afterCredits 60 = .ok (.getfield 34, 3) := by decide +kernel
theorem dX8_afterCredits_63 : decode cX8_afterCredits 63 = .ok (.iload_n 3, 1) := by decide +kernel
theorem dX8_afterCredits_64 : decode cX8_afterCredits 64 = .ok (.iaload, 1) := by decide +kernel
theorem dX8_afterCredits_65 : decode cX8_afterCredits 65 = .ok (.goto 4, 3) := by decide +kernel
theorem dX8_afterCredits_68 : decode cX8_afterCredits 68 = .ok (.iload_n 2, 1) := by decide +kernel
theorem dX8_afterCredits_69 : decode cX8_afterCredits 69 = .ok (.isub, 1) := by decide +kernel
theorem dX8_afterCredits_70 : decode cX8_afterCredits 70 = .ok (.istore_n 2, 1) := by decide +kernel
theorem dX8_afterCredits_71 : decode cX8_afterCredits 71 = .ok (.iinc 3 1, 3) := by decide +kernel
theorem dX8_afterCredits_74 : decode cX8_afterCredits 74 = .ok (.goto (-34), 3) := by decide +kernel
theorem dX8_afterCredits_77 : decode cX8_afterCredits 77 = .ok (.iload_n 2, 1) := by decide +kernel
theorem dX8_afterCredits_78 : decode cX8_afterCredits 78 = .ok (.ireturn, 1) := by decide +kernel
set_option maxRecDepth 20000 in
theorem ggX8_bestSum_X8_isLine : GoodIn wsX8_bestSum wsX8_isLine := goodIn_r _ [7, 8, 9, 6, 10] (by decide +kernel) (by decide +kernel)
set_option maxRecDepth 20000 in
theorem gX8_bestSum_X8_isLine : GoodIn wsX8_bestSum (va_wsS RX8 98 yX8_isLine wsX8_isLine) := goodIn_app (goodIn_of _ (by decide +kernel)) ggX8_bestSum_X8_isLine
set_option maxRecDepth 20000 in
theorem ggX8_bestSum_X8_solves : GoodIn wsX8_bestSum wsX8_solves := goodIn_r _ [14, 15, 2, 16, 17, 18, 19, 20, 6, 21, 22, 23, 24, 25, 26, 27, 28, 29, 30, 31, 32, 33, 34, 35, 36, 37, 38, 39, 40, 41, 42, 43, 44, 45, 46, 47, 48, 49, 50, 51, 52, 53, 54, 55, 56, 57, 58, 76, 77, 78, 79, 80, 81, 82, 83, 84, 85, 86, 87, 88, 89, 90, 91, 92, 93, 94, 95, 96, 97, 98, 99] (by decide +kernel) (by decide +kernel)
set_option maxRecDepth 20000 in
theorem gX8_bestSum_X8_solves : GoodIn wsX8_bestSum (wsV RX8 135 RX8 yX8_solves wsX8_solves) := goodIn_app (goodIn_of _ (by decide +kernel)) ggX8_bestSum_X8_solves
set_option maxRecDepth 20000 in
theorem ggX8_bestSum_X8_orders : GoodIn wsX8_bestSum wsX8_orders := goodIn_r _ [62, 63, 3, 64, 65, 66, 67, 68, 6, 69, 70, 71, 72, 73, 74, 75, 37, 76, 77, 78, 79, 80, 81, 82, 83, 84, 85, 86, 87, 88, 89, 90, 91, 92, 93, 94, 95, 96, 97, 98, 99] (by decide +kernel) (by decide +kernel)
set_option maxRecDepth 20000 in
theorem gX8_bestSum_X8_orders : GoodIn wsX8_bestSum (wsV RX8 157 RX8 yX8_orders wsX8_orders) := goodIn_app (goodIn_of _ (by decide +kernel)) ggX8_bestSum_X8_orders
theorem dX8_bestSum_0 : decode cX8_bestSum 0 = .ok (.aload_n 0, 1) := by decide +kernel
theorem dX8_bestSum_1 : decode cX8_bestSum 1 = .ok (.iload_n 1, 1) := by decide +kernel
theorem dX8_bestSum_2 : decode cX8_bestSum 2 = .ok (.invokestatic 98, 3) := by decide +kernel
theorem dX8_bestSum_5 : decode cX8_bestSum 5 = .ok (.ifCond .eq 7, 3) := by decide +kernel
theorem dX8_bestSum_8 : decode cX8_bestSum 8 = .ok (.iconst 0, 1) := by decide +kernel
theorem dX8_bestSum_9 : decode cX8_bestSum 9 = .ok (.goto 4, 3) := by decide +kernel
theorem dX8_bestSum_12 : decode cX8_bestSum 12 = .ok (.iconst 1, 1) := by decide +kernel
theorem dX8_bestSum_13 : decode cX8_bestSum 13 = .ok (.putfield 65, 3) := by decide +kernel
theorem dX8_bestSum_16 : decode cX8_bestSum 16 = .ok (.aload_n 0, 1) := by decide +kernel
theorem dX8_bestSum_17 : decode cX8_bestSum 17 = .ok (.getfield 65, 3) := by decide +kernel
theorem dX8_bestSum_20 : decode cX8_bestSum 20 = .ok (.ifCond .le 5, 3) := by decide +kernel
theorem dX8_bestSum_23 : decode cX8_bestSum 23 = .ok (.iconst 0, 1) := by decide +kernel
theorem dX8_bestSum_24 : decode cX8_bestSum 24 = .ok (.ireturn, 1) := by decide +kernel
theorem dX8_bestSum_25 : decode cX8_bestSum 25 = .ok (.aload_n 0, 1) := by decide +kernel
theorem dX8_bestSum_26 : decode cX8_bestSum 26 = .ok (.iconst (-1), 1) := by decide +kernel
theorem dX8_bestSum_27 : decode cX8_bestSum 27 = .ok (.iconst 0, 1) := by decide +kernel
theorem dX8_bestSum_28 : decode cX8_bestSum 28 = .ok (.invokevirtual 135, 3) := by decide +kernel
theorem dX8_bestSum_31 : decode cX8_bestSum 31 = .ok (.aload_n 0, 1) := by decide +kernel
theorem dX8_bestSum_32 : decode cX8_bestSum 32 = .ok (.aload_n 0, 1) := by decide +kernel
theorem dX8_bestSum_33 : decode cX8_bestSum 33 = .ok (.getfield 40, 3) := by decide +kernel
theorem dX8_bestSum_36 : decode cX8_bestSum 36 = .ok (.iload_n 1, 1) := by decide +kernel
theorem dX8_bestSum_37 : decode cX8_bestSum 37 = .ok (.iaload, 1) := by decide +kernel
theorem dX8_bestSum_38 : decode cX8_bestSum 38 = .ok (.invokevirtual 157, 3) := by decide +kernel
theorem dX8_bestSum_41 : decode cX8_bestSum 41 = .ok (.aload_n 0, 1) := by decide +kernel
theorem dX8_bestSum_42 : decode cX8_bestSum 42 = .ok (.getfield 148, 3) := by decide +kernel
theorem dX8_bestSum_45 : decode cX8_bestSum 45 = .ok (.ireturn, 1) := by decide +kernel
