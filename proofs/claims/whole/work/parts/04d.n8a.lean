theorem dX8_init_0 : decode cX8_init 0 = .ok (.aload_n 0, 1) := by decide +kernel
theorem dX8_init_1 : decode cX8_init 1 = .ok (.invokespecial 1, 3) := by decide +kernel
theorem dX8_init_4 : decode cX8_init 4 = .ok (.aload_n 0, 1) := by decide +kernel
theorem dX8_init_5 : decode cX8_init 5 = .ok (.bipush 16, 2) := by decide +kernel
theorem dX8_init_7 : decode cX8_init 7 = .ok (.newarray .int, 2) := by decide +kernel
theorem dX8_init_9 : decode cX8_init 9 = .ok (.putfield 7, 3) := by decide +kernel
theorem dX8_init_12 : decode cX8_init 12 = .ok (.aload_n 0, 1) := by decide +kernel
theorem dX8_init_13 : decode cX8_init 13 = .ok (.bipush 16, 2) := by decide +kernel
theorem dX8_init_15 : decode cX8_init 15 = .ok (.newarray .int, 2) := by decide +kernel
theorem dX8_init_17 : decode cX8_init 17 = .ok (.putfield 13, 3) := by decide +kernel
theorem dX8_init_20 : decode cX8_init 20 = .ok (.aload_n 0, 1) := by decide +kernel
theorem dX8_init_21 : decode cX8_init 21 = .ok (.bipush 16, 2) := by decide +kernel
theorem dX8_init_23 : decode cX8_init 23 = .ok (.newarray .int, 2) := by decide +kernel
theorem dX8_init_25 : decode cX8_init 25 = .ok (.putfield 16, 3) := by decide +kernel
theorem dX8_init_28 : decode cX8_init 28 = .ok (.aload_n 0, 1) := by decide +kernel
theorem dX8_init_29 : decode cX8_init 29 = .ok (.bipush 16, 2) := by decide +kernel
theorem dX8_init_31 : decode cX8_init 31 = .ok (.newarray .int, 2) := by decide +kernel
theorem dX8_init_33 : decode cX8_init 33 = .ok (.putfield 19, 3) := by decide +kernel
theorem dX8_init_36 : decode cX8_init 36 = .ok (.aload_n 0, 1) := by decide +kernel
theorem dX8_init_37 : decode cX8_init 37 = .ok (.iconst 5, 1) := by decide +kernel
theorem dX8_init_38 : decode cX8_init 38 = .ok (.newarray .int, 2) := by decide +kernel
theorem dX8_init_40 : decode cX8_init 40 = .ok (.putfield 22, 3) := by decide +kernel
theorem dX8_init_43 : decode cX8_init 43 = .ok (.aload_n 0, 1) := by decide +kernel
theorem dX8_init_44 : decode cX8_init 44 = .ok (.iconst 5, 1) := by decide +kernel
theorem dX8_init_45 : decode cX8_init 45 = .ok (.newarray .int, 2) := by decide +kernel
theorem dX8_init_47 : decode cX8_init 47 = .ok (.putfield 25, 3) := by decide +kernel
theorem dX8_init_50 : decode cX8_init 50 = .ok (.aload_n 0, 1) := by decide +kernel
theorem dX8_init_51 : decode cX8_init 51 = .ok (.bipush 8, 2) := by decide +kernel
theorem dX8_init_53 : decode cX8_init 53 = .ok (.newarray .int, 2) := by decide +kernel
theorem dX8_init_55 : decode cX8_init 55 = .ok (.putfield 28, 3) := by decide +kernel
theorem dX8_init_58 : decode cX8_init 58 = .ok (.aload_n 0, 1) := by decide +kernel
theorem dX8_init_59 : decode cX8_init 59 = .ok (.bipush 8, 2) := by decide +kernel
theorem dX8_init_61 : decode cX8_init 61 = .ok (.newarray .int, 2) := by decide +kernel
theorem dX8_init_63 : decode cX8_init 63 = .ok (.putfield 31, 3) := by decide +kernel
theorem dX8_init_66 : decode cX8_init 66 = .ok (.aload_n 0, 1) := by decide +kernel
theorem dX8_init_67 : decode cX8_init 67 = .ok (.iconst 5, 1) := by decide +kernel
theorem dX8_init_68 : decode cX8_init 68 = .ok (.newarray .int, 2) := by decide +kernel
theorem dX8_init_70 : decode cX8_init 70 = .ok (.putfield 34, 3) := by decide +kernel
theorem dX8_init_73 : decode cX8_init 73 = .ok (.aload_n 0, 1) := by decide +kernel
theorem dX8_init_74 : decode cX8_init 74 = .ok (.iconst 5, 1) := by decide +kernel
theorem dX8_init_75 : decode cX8_init 75 = .ok (.newarray .int, 2) := by decide +kernel
theorem dX8_init_77 : decode cX8_init 77 = .ok (.putfield 37, 3) := by decide +kernel
theorem dX8_init_80 : decode cX8_init 80 = .ok (.aload_n 0, 1) := by decide +kernel
theorem dX8_init_81 : decode cX8_init 81 = .ok (.bipush 32, 2) := by decide +kernel
theorem dX8_init_83 : decode cX8_init 83 = .ok (.newarray .int, 2) := by decide +kernel
theorem dX8_init_85 : decode cX8_init 85 = .ok (.putfield 40, 3) := by decide +kernel
theorem dX8_init_88 : decode cX8_init 88 = .ok (.aload_n 0, 1) := by decide +kernel
theorem dX8_init_89 : decode cX8_init 89 = .ok (.bipush 32, 2) := by decide +kernel
theorem dX8_init_91 : decode cX8_init 91 = .ok (.newarray .boolean, 2) := by decide +kernel
theorem dX8_init_93 : decode cX8_init 93 = .ok (.putfield 43, 3) := by decide +kernel
theorem dX8_init_96 : decode cX8_init 96 = .ok (.aload_n 0, 1) := by decide +kernel
theorem dX8_init_97 : decode cX8_init 97 = .ok (.bipush 16, 2) := by decide +kernel
theorem dX8_init_99 : decode cX8_init 99 = .ok (.newarray .int, 2) := by decide +kernel
theorem dX8_init_101 : decode cX8_init 101 = .ok (.putfield 47, 3) := by decide +kernel
theorem dX8_init_104 : decode cX8_init 104 = .ok (.aload_n 0, 1) := by decide +kernel
theorem dX8_init_105 : decode cX8_init 105 = .ok (.bipush 16, 2) := by decide +kernel
theorem dX8_init_107 : decode cX8_init 107 = .ok (.newarray .int, 2) := by decide +kernel
theorem dX8_init_109 : decode cX8_init 109 = .ok (.putfield 50, 3) := by decide +kernel
theorem dX8_init_112 : decode cX8_init 112 = .ok (.aload_n 0, 1) := by decide +kernel
theorem dX8_init_113 : decode cX8_init 113 = .ok (.bipush 16, 2) := by decide +kernel
theorem dX8_init_115 : decode cX8_init 115 = .ok (.newarray .int, 2) := by decide +kernel
theorem dX8_init_117 : decode cX8_init 117 = .ok (.putfield 53, 3) := by decide +kernel
theorem dX8_init_120 : decode cX8_init 120 = .ok (.aload_n 0, 1) := by decide +kernel
theorem dX8_init_121 : decode cX8_init 121 = .ok (.bipush 16, 2) := by decide +kernel
theorem dX8_init_123 : decode cX8_init 123 = .ok (.newarray .int, 2) := by decide +kernel
theorem dX8_init_125 : decode cX8_init 125 = .ok (.putfield 56, 3) := by decide +kernel
theorem dX8_init_128 : decode cX8_init 128 = .ok (.aload_n 0, 1) := by decide +kernel
theorem dX8_init_129 : decode cX8_init 129 = .ok (.iconst 5, 1) := by decide +kernel
theorem dX8_init_130 : decode cX8_init 130 = .ok (.newarray .int, 2) := by decide +kernel
theorem dX8_init_132 : decode cX8_init 132 = .ok (.putfield 59, 3) := by decide +kernel
theorem dX8_init_135 : decode cX8_init 135 = .ok (.aload_n 0, 1) := by decide +kernel
theorem dX8_init_136 : decode cX8_init 136 = .ok (.iconst 5, 1) := by decide +kernel
theorem dX8_init_137 : decode cX8_init 137 = .ok (.newarray .int, 2) := by decide +kernel
theorem dX8_init_139 : decode cX8_init 139 = .ok (.putfield 62, 3) := by decide +kernel
theorem dX8_init_142 : decode cX8_init 142 = .ok (.return_, 1) := by decide +kernel
theorem dX8_thrown_0 : decode cX8_thrown 0 = .ok (.aload_n 0, 1) := by decide +kernel
theorem dX8_thrown_1 : decode cX8_thrown 1 = .ok (.getfield 65, 3) := by decide +kernel
theorem dX8_thrown_4 : decode cX8_thrown 4 = .ok (.ireturn, 1) := by decide +kernel
theorem dX8_isIn_0 : decode cX8_isIn 0 = .ok (.iload_n 0, 1) := by decide +kernel
theorem dX8_isIn_1 : decode cX8_isIn 1 = .ok (.iload_n 1, 1) := by decide +kernel
theorem dX8_isIn_2 : decode cX8_isIn 2 = .ok (.if_icmp .lt 12, 3) := by decide +kernel
theorem dX8_isIn_5 : decode cX8_isIn 5 = .ok (.iload_n 0, 1) := by decide +kernel
theorem dX8_isIn_6 : decode cX8_isIn 6 = .ok (.iload_n 2, 1) := by decide +kernel
theorem dX8_isIn_7 : decode cX8_isIn 7 = .ok (.if_icmp .gt 7, 3) := by decide +kernel
theorem dX8_isIn_10 : decode cX8_isIn 10 = .ok (.iconst 1, 1) := by decide +kernel
theorem dX8_isIn_11 : decode cX8_isIn 11 = .ok (.goto 4, 3) := by decide +kernel
theorem dX8_isIn_14 : decode cX8_isIn 14 = .ok (.iconst 0, 1) := by decide +kernel
theorem dX8_isIn_15 : decode cX8_isIn 15 = .ok (.ireturn, 1) := by decide +kernel
set_option maxRecDepth 20000 in
theorem ggX8_isLine_X8_isIn : GoodIn wsX8_isLine wsX8_isIn := goodIn_r _ [4] (by decide +kernel) (by decide +kernel)
set_option maxRecDepth 20000 in
theorem gX8_isLine_X8_isIn : GoodIn wsX8_isLine (va_wsS RX8 69 yX8_isIn wsX8_isIn) := goodIn_app (goodIn_of _ (by decide +kernel)) ggX8_isLine_X8_isIn
theorem dX8_isLine_0 : decode cX8_isLine 0 = .ok (.iload_n 0, 1) := by decide +kernel
theorem dX8_isLine_1 : decode cX8_isLine 1 = .ok (.iconst 0, 1) := by decide +kernel
theorem dX8_isLine_2 : decode cX8_isLine 2 = .ok (.bipush 15, 2) := by decide +kernel
theorem dX8_isLine_4 : decode cX8_isLine 4 = .ok (.invokestatic 69, 3) := by decide +kernel
theorem dX8_isLine_7 : decode cX8_isLine 7 = .ok (.ireturn, 1) := by decide +kernel
theorem dX8_usesFirst_0 : decode cX8_usesFirst 0 = .ok (.aload_n 0, 1) := by decide +kernel
theorem dX8_usesFirst_1 : decode cX8_usesFirst 1 = .ok (.getfield 7, 3) := by decide +kernel
theorem dX8_usesFirst_4 : decode cX8_usesFirst 4 = .ok (.iload_n 1, 1) := by decide +kernel
theorem dX8_usesFirst_5 : decode cX8_usesFirst 5 = .ok (.iaload, 1) := by decide +kernel
theorem dX8_usesFirst_6 : decode cX8_usesFirst 6 = .ok (.ifCond .eq 7, 3) := by decide +kernel
theorem dX8_usesFirst_9 : decode cX8_usesFirst 9 = .ok (.iconst 1, 1) := by decide +kernel
theorem dX8_usesFirst_10 : decode cX8_usesFirst 10 = .ok (.goto 4, 3) := by decide +kernel
theorem dX8_usesFirst_13 : decode cX8_usesFirst 13 = .ok (.iconst 0, 1) := by decide +kernel
theorem dX8_usesFirst_14 : decode cX8_usesFirst 14 = .ok (.ireturn, 1) := by decide +kernel
theorem dX8_usesSecond_0 : decode cX8_usesSecond 0 = .ok (.aload_n 0, 1) := by decide +kernel
theorem dX8_usesSecond_1 : decode cX8_usesSecond 1 = .ok (.getfield 7, 3) := by decide +kernel
theorem dX8_usesSecond_4 : decode cX8_usesSecond 4 = .ok (.iload_n 1, 1) := by decide +kernel
theorem dX8_usesSecond_5 : decode cX8_usesSecond 5 = .ok (.iaload, 1) := by decide +kernel
theorem dX8_usesSecond_6 : decode cX8_usesSecond 6 = .ok (.istore_n 2, 1) := by decide +kernel
theorem dX8_usesSecond_7 : decode cX8_usesSecond 7 = .ok (.iload_n 2, 1) := by decide +kernel
theorem dX8_usesSecond_8 : decode cX8_usesSecond 8 = .ok (.iconst 1, 1) := by decide +kernel
theorem dX8_usesSecond_9 : decode cX8_usesSecond 9 = .ok (.if_icmp .eq 24, 3) := by decide +kernel
theorem dX8_usesSecond_12 : decode cX8_usesSecond 12 = .ok (.iload_n 2, 1) := by decide +kernel
theorem dX8_usesSecond_13 : decode cX8_usesSecond 13 = .ok (.iconst 2, 1) := by decide +kernel
theorem dX8_usesSecond_14 : decode cX8_usesSecond 14 = .ok (.if_icmp .eq 19, 3) := by decide +kernel
theorem dX8_usesSecond_17 : decode cX8_usesSecond 17 = .ok (.iload_n 2, 1) := by decide +kernel
theorem dX8_usesSecond_18 : decode cX8_usesSecond 18 = .ok (.iconst 4, 1) := by decide +kernel
theorem dX8_usesSecond_19 : decode cX8_usesSecond 19 = .ok (.if_icmp .eq 14, 3) := by decide +kernel
theorem dX8_usesSecond_22 : decode cX8_usesSecond 22 = .ok (.iload_n 2, 1) := by decide +kernel
theorem dX8_usesSecond_23 : decode cX8_usesSecond 23 = .ok (.iconst 5, 1) := by decide +kernel
theorem dX8_usesSecond_24 : decode cX8_usesSecond 24 = .ok (.if_icmp .eq 9, 3) := by decide +kernel
theorem dX8_usesSecond_27 : decode cX8_usesSecond 27 = .ok (.iload_n 2, 1) := by decide +kernel
theorem dX8_usesSecond_28 : decode cX8_usesSecond 28 = .ok (.bipush 8, 2) := by decide +kernel
theorem dX8_usesSecond_30 : decode cX8_usesSecond 30 = .ok (.if_icmp .ne 7, 3) := by decide +kernel
theorem dX8_usesSecond_33 : decode cX8_usesSecond 33 = .ok (.iconst 1, 1) := by decide +kernel
theorem dX8_usesSecond_34 : decode cX8_usesSecond 34 = .ok (.goto 4, 3) := by decide +kernel
theorem dX8_usesSecond_37 : decode cX8_usesSecond 37 = .ok (.iconst 0, 1) := by decide +kernel
theorem dX8_usesSecond_38 : decode cX8_usesSecond 38 = .ok (.ireturn, 1) := by decide +kernel
set_option maxRecDepth 20000 in
theorem ggX8_laysNeeds_X8_usesFirst : GoodIn wsX8_laysNeeds wsX8_usesFirst := goodIn_r _ [8, 9, 14, 15, 16, 17, 18, 19, 20, 21, 22, 23, 24, 25, 26, 27, 28, 29, 30, 31, 32, 33, 34, 35, 36, 37] (by decide +kernel) (by decide +kernel)
set_option maxRecDepth 20000 in
theorem gX8_laysNeeds_X8_usesFirst : GoodIn wsX8_laysNeeds (wsV RX8 73 RX8 yX8_usesFirst wsX8_usesFirst) := goodIn_app (goodIn_of _ (by decide +kernel)) ggX8_laysNeeds_X8_usesFirst
set_option maxRecDepth 20000 in
theorem ggX8_laysNeeds_X8_usesSecond : GoodIn wsX8_laysNeeds wsX8_usesSecond := goodIn_r _ [13, 9, 14, 15, 16, 17, 18, 19, 20, 21, 22, 23, 24, 25, 26, 27, 28, 29, 30, 31, 32, 33, 34, 35, 36, 37] (by decide +kernel) (by decide +kernel)
set_option maxRecDepth 20000 in
theorem gX8_laysNeeds_X8_usesSecond : GoodIn wsX8_laysNeeds (wsV RX8 77 RX8 yX8_usesSecond wsX8_usesSecond) := goodIn_app (goodIn_of _ (by decide +kernel)) ggX8_laysNeeds_X8_usesSecond
theorem dX8_laysNeeds_0 : decode cX8_laysNeeds 0 = .ok (.iconst 0, 1) := by decide +kernel
theorem dX8_laysNeeds_1 : decode cX8_laysNeeds 1 = .ok (.istore_n 2, 1) := by decide +kernel
theorem dX8_laysNeeds_2 : decode cX8_laysNeeds 2 = .ok (.iload_n 2, 1) := by decide +kernel
theorem dX8_laysNeeds_3 : decode cX8_laysNeeds 3 = .ok (.bipush 16, 2) := by decide +kernel
theorem dX8_laysNeeds_5 : decode cX8_laysNeeds 5 = .ok (.if_icmp .ge 69, 3) := by decide +kernel
theorem dX8_laysNeeds_8 : decode cX8_laysNeeds 8 = .ok (.aload_n 0, 1) := by decide +kernel
theorem dX8_laysNeeds_9 : decode cX8_laysNeeds 9 = .ok (.getfield 47, 3) := by decide +kernel
theorem dX8_laysNeeds_12 : decode cX8_laysNeeds 12 = .ok (.iload_n 2, 1) := by decide +kernel
theorem dX8_laysNeeds_13 : decode cX8_laysNeeds 13 = .ok (.aload_n 0, 1) := by decide +kernel
theorem dX8_laysNeeds_14 : decode cX8_laysNeeds 14 = .ok (.iload_n 2, 1) := by decide +kernel
theorem dX8_laysNeeds_15 : decode cX8_laysNeeds 15 = .ok (.invokevirtual 73, 3) := by decide +kernel
theorem dX8_laysNeeds_18 : decode cX8_laysNeeds 18 = .ok (.ifCond .eq 14, 3) := by decide +kernel
theorem dX8_laysNeeds_21 : decode cX8_laysNeeds 21 = .ok (.iconst 1, 1) := by decide +kernel
theorem dX8_laysNeeds_22 : decode cX8_laysNeeds 22 = .ok (.aload_n 0, 1) := by decide +kernel
theorem dX8_laysNeeds_23 : decode cX8_laysNeeds 23 = .ok (.getfield 13, 3) := by decide +kernel
theorem dX8_laysNeeds_26 : decode cX8_laysNeeds 26 = .ok (.iload_n 2, 1) := by decide +kernel
theorem dX8_laysNeeds_27 : decode cX8_laysNeeds 27 = .ok (.iaload, 1) := by decide +kernel
theorem dX8_laysNeeds_28 : decode cX8_laysNeeds 28 = .ok (.ishl, 1) := by decide +kernel
theorem dX8_laysNeeds_29 : decode cX8_laysNeeds 29 = .ok (.goto 4, 3) := by decide +kernel
theorem dX8_laysNeeds_32 : decode cX8_laysNeeds 32 = .ok (.iconst 0, 1) := by decide +kernel
theorem dX8_laysNeeds_33 : decode cX8_laysNeeds 33 = .ok (.iastore, 1) := by decide +kernel
theorem dX8_laysNeeds_34 : decode cX8_laysNeeds 34 = .ok (.aload_n 0, 1) := by decide +kernel
theorem dX8_laysNeeds_35 : decode cX8_laysNeeds 35 = .ok (.getfield 47, 3) := by decide +kernel
theorem dX8_laysNeeds_38 : decode cX8_laysNeeds 38 = .ok (.iload_n 2, 1) := by decide +kernel
theorem dX8_laysNeeds_39 : decode cX8_laysNeeds 39 = .ok (.dup2, 1) := by decide +kernel
theorem dX8_laysNeeds_40 : decode cX8_laysNeeds 40 = .ok (.iaload, 1) := by decide +kernel
theorem dX8_laysNeeds_41 : decode cX8_laysNeeds 41 = .ok (.aload_n 0, 1) := by decide +kernel
theorem dX8_laysNeeds_42 : decode cX8_laysNeeds 42 = .ok (.iload_n 2, 1) := by decide +kernel
theorem dX8_laysNeeds_43 : decode cX8_laysNeeds 43 = .ok (.invokevirtual 77, 3) := by decide +kernel
theorem dX8_laysNeeds_46 : decode cX8_laysNeeds 46 = .ok (.ifCond .eq 19, 3) := by decide +kernel
theorem dX8_laysNeeds_49 : decode cX8_laysNeeds 49 = .ok (.iload_n 2, 1) := by decide +kernel
theorem dX8_laysNeeds_50 : decode cX8_laysNeeds 50 = .ok (.iload_n 1, 1) := by decide +kernel
theorem dX8_laysNeeds_51 : decode cX8_laysNeeds 51 = .ok (.if_icmp .eq 14, 3) := by decide +kernel
theorem dX8_laysNeeds_54 : decode cX8_laysNeeds 54 = .ok (.iconst 1, 1) := by decide +kernel
theorem dX8_laysNeeds_55 : decode cX8_laysNeeds 55 = .ok (.aload_n 0, 1) := by decide +kernel
theorem dX8_laysNeeds_56 : decode cX8_laysNeeds 56 = .ok (.getfield 16, 3) := by decide +kernel
theorem dX8_laysNeeds_59 : decode cX8_laysNeeds 59 = .ok (.iload_n 2, 1) := by decide +kernel
theorem dX8_laysNeeds_60 : decode cX8_laysNeeds 60 = .ok (.iaload, 1) := by decide +kernel
theorem dX8_laysNeeds_61 : decode cX8_laysNeeds 61 = .ok (.ishl, 1) := by decide +kernel
theorem dX8_laysNeeds_62 : decode cX8_laysNeeds 62 = .ok (.goto 4, 3) := by decide +kernel
theorem dX8_laysNeeds_65 : decode cX8_laysNeeds 65 = .ok (.iconst 0, 1) := by decide +kernel
theorem dX8_laysNeeds_66 : decode cX8_laysNeeds 66 = .ok (.ior, 1) := by decide +kernel
theorem dX8_laysNeeds_67 : decode cX8_laysNeeds 67 = .ok (.iastore, 1) := by decide +kernel
theorem dX8_laysNeeds_68 : decode cX8_laysNeeds 68 = .ok (.iinc 2 1, 3) := by decide +kernel
theorem dX8_laysNeeds_71 : decode cX8_laysNeeds 71 = .ok (.goto (-69), 3) := by decide +kernel
theorem dX8_laysNeeds_74 : decode cX8_laysNeeds 74 = .ok (.iconst 0, 1) := by decide +kernel
theorem dX8_laysNeeds_75 : decode cX8_laysNeeds 75 = .ok (.istore_n 2, 1) := by decide +kernel
theorem dX8_laysNeeds_76 : decode cX8_laysNeeds 76 = .ok (.iload_n 2, 1) := by decide +kernel
theorem dX8_laysNeeds_77 : decode cX8_laysNeeds 77 = .ok (.bipush 16, 2) := by decide +kernel
theorem dX8_laysNeeds_79 : decode cX8_laysNeeds 79 = .ok (.if_icmp .ge 74, 3) := by decide +kernel
theorem dX8_laysNeeds_82 : decode cX8_laysNeeds 82 = .ok (.iconst 0, 1) := by decide +kernel
theorem dX8_laysNeeds_83 : decode cX8_laysNeeds 83 = .ok (.istore_n 3, 1) := by decide +kernel
theorem dX8_laysNeeds_84 : decode cX8_laysNeeds 84 = .ok (.iload_n 3, 1) := by decide +kernel
theorem dX8_laysNeeds_85 : decode cX8_laysNeeds 85 = .ok (.bipush 16, 2) := by decide +kernel
theorem dX8_laysNeeds_87 : decode cX8_laysNeeds 87 = .ok (.if_icmp .ge 60, 3) := by decide +kernel
theorem dX8_laysNeeds_90 : decode cX8_laysNeeds 90 = .ok (.iconst 0, 1) := by decide +kernel
theorem dX8_laysNeeds_91 : decode cX8_laysNeeds 91 = .ok (.istore 4, 2) := by decide +kernel
theorem dX8_laysNeeds_93 : decode cX8_laysNeeds 93 = .ok (.iload 4, 2) := by decide +kernel
theorem dX8_laysNeeds_95 : decode cX8_laysNeeds 95 = .ok (.bipush 16, 2) := by decide +kernel
theorem dX8_laysNeeds_97 : decode cX8_laysNeeds 97 = .ok (.if_icmp .ge 44, 3) := by decide +kernel
theorem dX8_laysNeeds_100 : decode cX8_laysNeeds 100 = .ok (.aload_n 0, 1) := by decide +kernel
theorem dX8_laysNeeds_101 : decode cX8_laysNeeds 101 = .ok (.getfield 47, 3) := by decide +kernel
theorem dX8_laysNeeds_104 : decode cX8_laysNeeds 104 = .ok (.iload_n 3, 1) := by decide +kernel
theorem dX8_laysNeeds_105 : decode cX8_laysNeeds 105 = .ok (.dup2, 1) := by decide +kernel
theorem dX8_laysNeeds_106 : decode cX8_laysNeeds 106 = .ok (.iaload, 1) := by decide +kernel
theorem dX8_laysNeeds_107 : decode cX8_laysNeeds 107 = .ok (.aload_n 0, 1) := by decide +kernel
theorem dX8_laysNeeds_108 : decode cX8_laysNeeds 108 = .ok (.getfield 47, 3) := by decide +kernel
theorem dX8_laysNeeds_111 : decode cX8_laysNeeds 111 = .ok (.iload_n 3, 1) := by decide +kernel
theorem dX8_laysNeeds_112 : decode cX8_laysNeeds 112 = .ok (.iaload, 1) := by decide +kernel
theorem dX8_laysNeeds_113 : decode cX8_laysNeeds 113 = .ok (.iload 4, 2) := by decide +kernel
theorem dX8_laysNeeds_115 : decode cX8_laysNeeds 115 = .ok (.ishr, 1) := by decide +kernel
theorem dX8_laysNeeds_116 : decode cX8_laysNeeds 116 = .ok (.iconst 1, 1) := by decide +kernel
theorem dX8_laysNeeds_117 : decode cX8_laysNeeds 117 = .ok (.iand, 1) := by decide +kernel
theorem dX8_laysNeeds_118 : decode cX8_laysNeeds 118 = .ok (.iconst 1, 1) := by decide +kernel
theorem dX8_laysNeeds_119 : decode cX8_laysNeeds 119 = .ok (.if_icmp .ne 13, 3) := by decide +kernel
theorem dX8_laysNeeds_122 : decode cX8_laysNeeds 122 = .ok (.aload_n 0, 1) := by decide +kernel
theorem dX8_laysNeeds_123 : decode cX8_laysNeeds 123 = .ok (.getfield 47, 3) := by decide +kernel
theorem dX8_laysNeeds_126 : decode cX8_laysNeeds 126 = .ok (.iload 4, 2) := by decide +kernel
theorem dX8_laysNeeds_128 : decode cX8_laysNeeds 128 = .ok (.iaload, 1) := by decide +kernel
theorem dX8_laysNeeds_129 : decode cX8_laysNeeds 129 = .ok (.goto 4, 3) := by decide +kernel
theorem dX8_laysNeeds_132 : decode cX8_laysNeeds 132 = .ok (.iconst 0, 1) := by decide +kernel
theorem dX8_laysNeeds_133 : decode cX8_laysNeeds 133 = .ok (.ior, 1) := by decide +kernel
theorem dX8_laysNeeds_134 : decode cX8_laysNeeds 134 = .ok (.iastore, 1) := by decide +kernel
theorem dX8_laysNeeds_135 : decode cX8_laysNeeds 135 = .ok (.iinc 4 1, 3) := by decide +kernel
theorem dX8_laysNeeds_138 : decode cX8_laysNeeds 138 = .ok (.goto (-45), 3) := by decide +kernel
theorem dX8_laysNeeds_141 : decode cX8_laysNeeds 141 = .ok (.iinc 3 1, 3) := by decide +kernel
theorem dX8_laysNeeds_144 : decode cX8_laysNeeds 144 = .ok (.goto (-60), 3) := by decide +kernel
theorem dX8_laysNeeds_147 : decode cX8_laysNeeds 147 = .ok (.iinc 2 1, 3) := by decide +kernel
theorem dX8_laysNeeds_150 : decode cX8_laysNeeds 150 = .ok (.goto (-74), 3) := by decide +kernel
theorem dX8_laysNeeds_153 : decode cX8_laysNeeds 153 = .ok (.return_, 1) := by decide +kernel
theorem dX8_depends_0 : decode cX8_depends 0 = .ok (.aload_n 0, 1) := by decide +kernel
theorem dX8_depends_1 : decode cX8_depends 1 = .ok (.getfield 47, 3) := by decide +kernel
theorem dX8_depends_4 : decode cX8_depends 4 = .ok (.iload_n 1, 1) := by decide +kernel
theorem dX8_depends_5 : decode cX8_depends 5 = .ok (.iaload, 1) := by decide +kernel
theorem dX8_depends_6 : decode cX8_depends 6 = .ok (.iload_n 2, 1) := by decide +kernel
theorem dX8_depends_7 : decode cX8_depends 7 = .ok (.ishr, 1) := by decide +kernel
theorem dX8_depends_8 : decode cX8_depends 8 = .ok (.iconst 1, 1) := by decide +kernel
theorem dX8_depends_9 : decode cX8_depends 9 = .ok (.iand, 1) := by decide +kernel
theorem dX8_depends_10 : decode cX8_depends 10 = .ok (.iconst 1, 1) := by decide +kernel
theorem dX8_depends_11 : decode cX8_depends 11 = .ok (.if_icmp .ne 7, 3) := by decide +kernel
theorem dX8_depends_14 : decode cX8_depends 14 = .ok (.iconst 1, 1) := by decide +kernel
theorem dX8_depends_15 : decode cX8_depends 15 = .ok (.goto 4, 3) := by decide +kernel
theorem dX8_depends_18 : decode cX8_depends 18 = .ok (.iconst 0, 1) := by decide +kernel
theorem dX8_depends_19 : decode cX8_depends 19 = .ok (.ireturn, 1) := by decide +kernel
set_option maxRecDepth 20000 in
theorem ggX8_circle_X8_depends : GoodIn wsX8_circle wsX8_depends := goodIn_r _ [5, 6, 7, 8, 9, 10, 11, 12, 13, 14, 15, 16, 17, 18, 19, 20, 21, 22, 23, 24, 25, 26, 27, 28, 29, 30] (by decide +kernel) (by decide +kernel)
set_option maxRecDepth 20000 in
theorem gX8_circle_X8_depends : GoodIn wsX8_circle (wsV RX8 80 RX8 yX8_depends wsX8_depends) := goodIn_app (goodIn_of _ (by decide +kernel)) ggX8_circle_X8_depends
theorem dX8_circle_0 : decode cX8_circle 0 = .ok (.iconst 0, 1) := by decide +kernel
theorem dX8_circle_1 : decode cX8_circle 1 = .ok (.istore_n 2, 1) := by decide +kernel
theorem dX8_circle_2 : decode cX8_circle 2 = .ok (.iconst 0, 1) := by decide +kernel
theorem dX8_circle_3 : decode cX8_circle 3 = .ok (.istore_n 3, 1) := by decide +kernel
theorem dX8_circle_4 : decode cX8_circle 4 = .ok (.iload_n 3, 1) := by decide +kernel
theorem dX8_circle_5 : decode cX8_circle 5 = .ok (.bipush 16, 2) := by decide +kernel
theorem dX8_circle_7 : decode cX8_circle 7 = .ok (.if_icmp .ge 37, 3) := by decide +kernel
theorem dX8_circle_10 : decode cX8_circle 10 = .ok (.iload_n 2, 1) := by decide +kernel
theorem dX8_circle_11 : decode cX8_circle 11 = .ok (.aload_n 0, 1) := by decide +kernel
theorem dX8_circle_12 : decode cX8_circle 12 = .ok (.iload_n 1, 1) := by decide +kernel
theorem dX8_circle_13 : decode cX8_circle 13 = .ok (.iload_n 3, 1) := by decide +kernel
theorem dX8_circle_14 : decode cX8_circle 14 = .ok (.invokevirtual 80, 3) := by decide +kernel
theorem dX8_circle_17 : decode cX8_circle 17 = .ok (.ifCond .eq 18, 3) := by decide +kernel
theorem dX8_circle_20 : decode cX8_circle 20 = .ok (.aload_n 0, 1) := by decide +kernel
theorem dX8_circle_21 : decode cX8_circle 21 = .ok (.iload_n 3, 1) := by decide +kernel
theorem dX8_circle_22 : decode cX8_circle 22 = .ok (.iload_n 1, 1) := by decide +kernel
theorem dX8_circle_23 : decode cX8_circle 23 = .ok (.invokevirtual 80, 3) := by decide +kernel
theorem dX8_circle_26 : decode cX8_circle 26 = .ok (.ifCond .eq 9, 3) := by decide +kernel
theorem dX8_circle_29 : decode cX8_circle 29 = .ok (.iconst 1, 1) := by decide +kernel
theorem dX8_circle_30 : decode cX8_circle 30 = .ok (.iload_n 3, 1) := by decide +kernel
theorem dX8_circle_31 : decode cX8_circle 31 = .ok (.ishl, 1) := by decide +kernel
theorem dX8_circle_32 : decode cX8_circle 32 = .ok (.goto 4, 3) := by decide +kernel
theorem dX8_circle_35 : decode cX8_circle 35 = .ok (.iconst 0, 1) := by decide +kernel
theorem dX8_circle_36 : decode cX8_circle 36 = .ok (.ior, 1) := by decide +kernel
theorem dX8_circle_37 : decode cX8_circle 37 = .ok (.istore_n 2, 1) := by decide +kernel
theorem dX8_circle_38 : decode cX8_circle 38 = .ok (.iinc 3 1, 3) := by decide +kernel
theorem dX8_circle_41 : decode cX8_circle 41 = .ok (.goto (-37), 3) := by decide +kernel
theorem dX8_circle_44 : decode cX8_circle 44 = .ok (.iload_n 2, 1) := by decide +kernel
theorem dX8_circle_45 : decode cX8_circle 45 = .ok (.ireturn, 1) := by decide +kernel
theorem dX8_turned_0 : decode cX8_turned 0 = .ok (.iload_n 0, 1) := by decide +kernel
theorem dX8_turned_1 : decode cX8_turned 1 = .ok (.iconst 1, 1) := by decide +kernel
theorem dX8_turned_2 : decode cX8_turned 2 = .ok (.iand, 1) := by decide +kernel
theorem dX8_turned_3 : decode cX8_turned 3 = .ok (.iconst 2, 1) := by decide +kernel
theorem dX8_turned_4 : decode cX8_turned 4 = .ok (.imul, 1) := by decide +kernel
theorem dX8_turned_5 : decode cX8_turned 5 = .ok (.iload_n 0, 1) := by decide +kernel
theorem dX8_turned_6 : decode cX8_turned 6 = .ok (.iconst 1, 1) := by decide +kernel
theorem dX8_turned_7 : decode cX8_turned 7 = .ok (.ishr, 1) := by decide +kernel
theorem dX8_turned_8 : decode cX8_turned 8 = .ok (.iadd, 1) := by decide +kernel
theorem dX8_turned_9 : decode cX8_turned 9 = .ok (.ireturn, 1) := by decide +kernel
set_option maxRecDepth 20000 in
theorem ggX8_isFalling_X8_usesFirst : GoodIn wsX8_isFalling wsX8_usesFirst := goodIn_r _ [9, 3, 22, 23, 24, 25, 26, 27, 28, 29, 30, 31, 32, 33, 34, 35, 36, 37, 38, 39, 40, 41, 42, 43, 44, 45] (by decide +kernel) (by decide +kernel)
set_option maxRecDepth 20000 in
theorem gX8_isFalling_X8_usesFirst : GoodIn wsX8_isFalling (wsV RX8 73 RX8 yX8_usesFirst wsX8_usesFirst) := goodIn_app (goodIn_of _ (by decide +kernel)) ggX8_isFalling_X8_usesFirst
set_option maxRecDepth 20000 in
theorem ggX8_isFalling_X8_usesSecond : GoodIn wsX8_isFalling wsX8_usesSecond := goodIn_r _ [13, 3, 22, 23, 24, 25, 26, 27, 28, 29, 30, 31, 32, 33, 34, 35, 36, 37, 38, 39, 40, 41, 42, 43, 44, 45] (by decide +kernel) (by decide +kernel)
set_option maxRecDepth 20000 in
theorem gX8_isFalling_X8_usesSecond : GoodIn wsX8_isFalling (wsV RX8 77 RX8 yX8_usesSecond wsX8_usesSecond) := goodIn_app (goodIn_of _ (by decide +kernel)) ggX8_isFalling_X8_usesSecond
set_option maxRecDepth 20000 in
theorem ggX8_isFalling_X8_turned : GoodIn wsX8_isFalling wsX8_turned := goodIn_r _ [16] (by decide +kernel) (by decide +kernel)
set_option maxRecDepth 20000 in
theorem gX8_isFalling_X8_turned : GoodIn wsX8_isFalling (va_wsS RX8 84 yX8_turned wsX8_turned) := goodIn_app (goodIn_of _ (by decide +kernel)) ggX8_isFalling_X8_turned
set_option maxRecDepth 20000 in
theorem ggX8_isFalling_X8_depends : GoodIn wsX8_isFalling wsX8_depends := goodIn_r _ [20, 21, 22, 23, 24, 25, 26, 27, 28, 29, 30, 31, 32, 33, 34, 35, 36, 37, 38, 39, 40, 41, 42, 43, 44, 45] (by decide +kernel) (by decide +kernel)
set_option maxRecDepth 20000 in
theorem gX8_isFalling_X8_depends : GoodIn wsX8_isFalling (wsV RX8 80 RX8 yX8_depends wsX8_depends) := goodIn_app (goodIn_of _ (by decide +kernel)) ggX8_isFalling_X8_depends
theorem dX8_isFalling_0 : decode cX8_isFalling 0 = .ok (.iconst 0, 1) := by decide +kernel
theorem dX8_isFalling_1 : decode cX8_isFalling 1 = .ok (.istore_n 3, 1) := by decide +kernel
theorem dX8_isFalling_2 : decode cX8_isFalling 2 = .ok (.iload_n 3, 1) := by decide +kernel
theorem dX8_isFalling_3 : decode cX8_isFalling 3 = .ok (.bipush 16, 2) := by decide +kernel
theorem dX8_isFalling_5 : decode cX8_isFalling 5 = .ok (.if_icmp .ge 25, 3) := by decide +kernel
theorem dX8_isFalling_8 : decode cX8_isFalling 8 = .ok (.aload_n 0, 1) := by decide +kernel
theorem dX8_isFalling_9 : decode cX8_isFalling 9 = .ok (.getfield 50, 3) := by decide +kernel
theorem dX8_isFalling_12 : decode cX8_isFalling 12 = .ok (.iload_n 3, 1) := by decide +kernel
theorem dX8_isFalling_13 : decode cX8_isFalling 13 = .ok (.iload_n 3, 1) := by decide +kernel
theorem dX8_isFalling_14 : decode cX8_isFalling 14 = .ok (.iload_n 2, 1) := by decide +kernel
theorem dX8_isFalling_15 : decode cX8_isFalling 15 = .ok (.if_icmp .ne 7, 3) := by decide +kernel
theorem dX8_isFalling_18 : decode cX8_isFalling 18 = .ok (.iconst 1, 1) := by decide +kernel
theorem dX8_isFalling_19 : decode cX8_isFalling 19 = .ok (.goto 4, 3) := by decide +kernel
theorem dX8_isFalling_22 : decode cX8_isFalling 22 = .ok (.iconst 0, 1) := by decide +kernel
theorem dX8_isFalling_23 : decode cX8_isFalling 23 = .ok (.iastore, 1) := by decide +kernel
theorem dX8_isFalling_24 : decode cX8_isFalling 24 = .ok (.iinc 3 1, 3) := by decide +kernel
theorem dX8_isFalling_27 : decode cX8_isFalling 27 = .ok (.goto (-25), 3) := by decide +kernel
theorem dX8_isFalling_30 : decode cX8_isFalling 30 = .ok (.iconst 0, 1) := by decide +kernel
theorem dX8_isFalling_31 : decode cX8_isFalling 31 = .ok (.istore_n 3, 1) := by decide +kernel
theorem dX8_isFalling_32 : decode cX8_isFalling 32 = .ok (.iload_n 3, 1) := by decide +kernel
theorem dX8_isFalling_33 : decode cX8_isFalling 33 = .ok (.bipush 16, 2) := by decide +kernel
theorem dX8_isFalling_35 : decode cX8_isFalling 35 = .ok (.if_icmp .ge 140, 3) := by decide +kernel
theorem dX8_isFalling_38 : decode cX8_isFalling 38 = .ok (.iconst 0, 1) := by decide +kernel
theorem dX8_isFalling_39 : decode cX8_isFalling 39 = .ok (.istore 4, 2) := by decide +kernel
theorem dX8_isFalling_41 : decode cX8_isFalling 41 = .ok (.iload 4, 2) := by decide +kernel
theorem dX8_isFalling_43 : decode cX8_isFalling 43 = .ok (.bipush 16, 2) := by decide +kernel
theorem dX8_isFalling_45 : decode cX8_isFalling 45 = .ok (.if_icmp .ge 124, 3) := by decide +kernel
theorem dX8_isFalling_48 : decode cX8_isFalling 48 = .ok (.iload_n 1, 1) := by decide +kernel
theorem dX8_isFalling_49 : decode cX8_isFalling 49 = .ok (.iload 4, 2) := by decide +kernel
theorem dX8_isFalling_51 : decode cX8_isFalling 51 = .ok (.ishr, 1) := by decide +kernel
theorem dX8_isFalling_52 : decode cX8_isFalling 52 = .ok (.iconst 1, 1) := by decide +kernel
theorem dX8_isFalling_53 : decode cX8_isFalling 53 = .ok (.iand, 1) := by decide +kernel
theorem dX8_isFalling_54 : decode cX8_isFalling 54 = .ok (.iconst 1, 1) := by decide +kernel
theorem dX8_isFalling_55 : decode cX8_isFalling 55 = .ok (.if_icmp .ne 108, 3) := by decide +kernel
theorem dX8_isFalling_58 : decode cX8_isFalling 58 = .ok (.iload 4, 2) := by decide +kernel
theorem dX8_isFalling_60 : decode cX8_isFalling 60 = .ok (.iload_n 2, 1) := by decide +kernel
theorem dX8_isFalling_61 : decode cX8_isFalling 61 = .ok (.if_icmp .eq 102, 3) := by decide +kernel
theorem dX8_isFalling_64 : decode cX8_isFalling 64 = .ok (.aload_n 0, 1) := by decide +kernel
theorem dX8_isFalling_65 : decode cX8_isFalling 65 = .ok (.getfield 50, 3) := by decide +kernel
theorem dX8_isFalling_68 : decode cX8_isFalling 68 = .ok (.iload 4, 2) := by decide +kernel
theorem dX8_isFalling_70 : decode cX8_isFalling 70 = .ok (.dup2, 1) := by decide +kernel
theorem dX8_isFalling_71 : decode cX8_isFalling 71 = .ok (.iaload, 1) := by decide +kernel
theorem dX8_isFalling_72 : decode cX8_isFalling 72 = .ok (.aload_n 0, 1) := by decide +kernel
theorem dX8_isFalling_73 : decode cX8_isFalling 73 = .ok (.iload 4, 2) := by decide +kernel
theorem dX8_isFalling_75 : decode cX8_isFalling 75 = .ok (.invokevirtual 73, 3) := by decide +kernel
theorem dX8_isFalling_78 : decode cX8_isFalling 78 = .ok (.ifCond .eq 18, 3) := by decide +kernel
theorem dX8_isFalling_81 : decode cX8_isFalling 81 = .ok (.aload_n 0, 1) := by decide +kernel
theorem dX8_isFalling_82 : decode cX8_isFalling 82 = .ok (.getfield 50, 3) := by decide +kernel
theorem dX8_isFalling_85 : decode cX8_isFalling 85 = .ok (.aload_n 0, 1) := by decide +kernel
theorem dX8_isFalling_86 : decode cX8_isFalling 86 = .ok (.getfield 13, 3) := by decide +kernel
theorem dX8_isFalling_89 : decode cX8_isFalling 89 = .ok (.iload 4, 2) := by decide +kernel
theorem dX8_isFalling_91 : decode cX8_isFalling 91 = .ok (.iaload, 1) := by decide +kernel
theorem dX8_isFalling_92 : decode cX8_isFalling 92 = .ok (.iaload, 1) := by decide +kernel
theorem dX8_isFalling_93 : decode cX8_isFalling 93 = .ok (.goto 4, 3) := by decide +kernel
theorem dX8_isFalling_96 : decode cX8_isFalling 96 = .ok (.iconst 0, 1) := by decide +kernel
theorem dX8_isFalling_97 : decode cX8_isFalling 97 = .ok (.ior, 1) := by decide +kernel
theorem dX8_isFalling_98 : decode cX8_isFalling 98 = .ok (.iastore, 1) := by decide +kernel
theorem dX8_isFalling_99 : decode cX8_isFalling 99 = .ok (.aload_n 0, 1) := by decide +kernel
theorem dX8_isFalling_100 : decode cX8_isFalling 100 = .ok (.getfield 50, 3) := by decide +kernel
theorem dX8_isFalling_103 : decode cX8_isFalling 103 = .ok (.iload 4, 2) := by decide +kernel
theorem dX8_isFalling_105 : decode cX8_isFalling 105 = .ok (.dup2, 1) := by decide +kernel
theorem dX8_isFalling_106 : decode cX8_isFalling 106 = .ok (.iaload, 1) := by decide +kernel
theorem dX8_isFalling_107 : decode cX8_isFalling 107 = .ok (.aload_n 0, 1) := by decide +kernel
theorem dX8_isFalling_108 : decode cX8_isFalling 108 = .ok (.iload 4, 2) := by decide +kernel
theorem dX8_isFalling_110 : decode cX8_isFalling 110 = .ok (.invokevirtual 77, 3) := by decide +kernel
theorem dX8_isFalling_113 : decode cX8_isFalling 113 = .ok (.ifCond .eq 47, 3) := by decide +kernel
theorem dX8_isFalling_116 : decode cX8_isFalling 116 = .ok (.aload_n 0, 1) := by decide +kernel
theorem dX8_isFalling_117 : decode cX8_isFalling 117 = .ok (.getfield 7, 3) := by decide +kernel
theorem dX8_isFalling_120 : decode cX8_isFalling 120 = .ok (.iload 4, 2) := by decide +kernel
theorem dX8_isFalling_122 : decode cX8_isFalling 122 = .ok (.iaload, 1) := by decide +kernel
theorem dX8_isFalling_123 : decode cX8_isFalling 123 = .ok (.iconst 2, 1) := by decide +kernel
theorem dX8_isFalling_124 : decode cX8_isFalling 124 = .ok (.if_icmp .ne 21, 3) := by decide +kernel
theorem dX8_isFalling_127 : decode cX8_isFalling 127 = .ok (.aload_n 0, 1) := by decide +kernel
theorem dX8_isFalling_128 : decode cX8_isFalling 128 = .ok (.getfield 50, 3) := by decide +kernel
theorem dX8_isFalling_131 : decode cX8_isFalling 131 = .ok (.aload_n 0, 1) := by decide +kernel
theorem dX8_isFalling_132 : decode cX8_isFalling 132 = .ok (.getfield 16, 3) := by decide +kernel
theorem dX8_isFalling_135 : decode cX8_isFalling 135 = .ok (.iload 4, 2) := by decide +kernel
theorem dX8_isFalling_137 : decode cX8_isFalling 137 = .ok (.iaload, 1) := by decide +kernel
theorem dX8_isFalling_138 : decode cX8_isFalling 138 = .ok (.iaload, 1) := by decide +kernel
theorem dX8_isFalling_139 : decode cX8_isFalling 139 = .ok (.invokestatic 84, 3) := by decide +kernel
theorem dX8_isFalling_142 : decode cX8_isFalling 142 = .ok (.goto 19, 3) := by decide +kernel
theorem dX8_isFalling_145 : decode cX8_isFalling 145 = .ok (.aload_n 0, 1) := by decide +kernel
theorem dX8_isFalling_146 : decode cX8_isFalling 146 = .ok (.getfield 50, 3) := by decide +kernel
theorem dX8_isFalling_149 : decode cX8_isFalling 149 = .ok (.aload_n 0, 1) := by decide +kernel
theorem dX8_isFalling_150 : decode cX8_isFalling 150 = .ok (.getfield 16, 3) := by decide +kernel
theorem dX8_isFalling_153 : decode cX8_isFalling 153 = .ok (.iload 4, 2) := by decide +kernel
theorem dX8_isFalling_155 : decode cX8_isFalling 155 = .ok (.iaload, 1) := by decide +kernel
theorem dX8_isFalling_156 : decode cX8_isFalling 156 = .ok (.iaload, 1) := by decide +kernel
theorem dX8_isFalling_157 : decode cX8_isFalling 157 = .ok (.goto 4, 3) := by decide +kernel
theorem dX8_isFalling_160 : decode cX8_isFalling 160 = .ok (.iconst 0, 1) := by decide +kernel
theorem dX8_isFalling_161 : decode cX8_isFalling 161 = .ok (.ior, 1) := by decide +kernel
theorem dX8_isFalling_162 : decode cX8_isFalling 162 = .ok (.iastore, 1) := by decide +kernel
theorem dX8_isFalling_163 : decode cX8_isFalling 163 = .ok (.iinc 4 1, 3) := by decide +kernel
theorem dX8_isFalling_166 : decode cX8_isFalling 166 = .ok (.goto (-125), 3) := by decide +kernel
theorem dX8_isFalling_169 : decode cX8_isFalling 169 = .ok (.iinc 3 1, 3) := by decide +kernel
theorem dX8_isFalling_172 : decode cX8_isFalling 172 = .ok (.goto (-140), 3) := by decide +kernel
theorem dX8_isFalling_175 : decode cX8_isFalling 175 = .ok (.aload_n 0, 1) := by decide +kernel
theorem dX8_isFalling_176 : decode cX8_isFalling 176 = .ok (.getfield 50, 3) := by decide +kernel
theorem dX8_isFalling_179 : decode cX8_isFalling 179 = .ok (.aload_n 0, 1) := by decide +kernel
theorem dX8_isFalling_180 : decode cX8_isFalling 180 = .ok (.getfield 16, 3) := by decide +kernel
theorem dX8_isFalling_183 : decode cX8_isFalling 183 = .ok (.iload_n 2, 1) := by decide +kernel
theorem dX8_isFalling_184 : decode cX8_isFalling 184 = .ok (.iaload, 1) := by decide +kernel
theorem dX8_isFalling_185 : decode cX8_isFalling 185 = .ok (.iaload, 1) := by decide +kernel
theorem dX8_isFalling_186 : decode cX8_isFalling 186 = .ok (.iconst 2, 1) := by decide +kernel
theorem dX8_isFalling_187 : decode cX8_isFalling 187 = .ok (.if_icmp .ne 7, 3) := by decide +kernel
theorem dX8_isFalling_190 : decode cX8_isFalling 190 = .ok (.iconst 1, 1) := by decide +kernel
theorem dX8_isFalling_191 : decode cX8_isFalling 191 = .ok (.goto 4, 3) := by decide +kernel
theorem dX8_isFalling_194 : decode cX8_isFalling 194 = .ok (.iconst 0, 1) := by decide +kernel
theorem dX8_isFalling_195 : decode cX8_isFalling 195 = .ok (.istore_n 3, 1) := by decide +kernel
theorem dX8_isFalling_196 : decode cX8_isFalling 196 = .ok (.iconst 0, 1) := by decide +kernel
theorem dX8_isFalling_197 : decode cX8_isFalling 197 = .ok (.istore 4, 2) := by decide +kernel
theorem dX8_isFalling_199 : decode cX8_isFalling 199 = .ok (.iload 4, 2) := by decide +kernel
theorem dX8_isFalling_201 : decode cX8_isFalling 201 = .ok (.bipush 16, 2) := by decide +kernel
theorem dX8_isFalling_203 : decode cX8_isFalling 203 = .ok (.if_icmp .ge 49, 3) := by decide +kernel
theorem dX8_isFalling_206 : decode cX8_isFalling 206 = .ok (.iload_n 3, 1) := by decide +kernel
theorem dX8_isFalling_207 : decode cX8_isFalling 207 = .ok (.aload_n 0, 1) := by decide +kernel
theorem dX8_isFalling_208 : decode cX8_isFalling 208 = .ok (.getfield 50, 3) := by decide +kernel
theorem dX8_isFalling_211 : decode cX8_isFalling 211 = .ok (.iload 4, 2) := by decide +kernel
theorem dX8_isFalling_213 : decode cX8_isFalling 213 = .ok (.iaload, 1) := by decide +kernel
theorem dX8_isFalling_214 : decode cX8_isFalling 214 = .ok (.iconst 3, 1) := by decide +kernel
theorem dX8_isFalling_215 : decode cX8_isFalling 215 = .ok (.if_icmp .eq 28, 3) := by decide +kernel
theorem dX8_isFalling_218 : decode cX8_isFalling 218 = .ok (.iload_n 1, 1) := by decide +kernel
theorem dX8_isFalling_219 : decode cX8_isFalling 219 = .ok (.iload 4, 2) := by decide +kernel
theorem dX8_isFalling_221 : decode cX8_isFalling 221 = .ok (.ishr, 1) := by decide +kernel
theorem dX8_isFalling_222 : decode cX8_isFalling 222 = .ok (.iconst 1, 1) := by decide +kernel
theorem dX8_isFalling_223 : decode cX8_isFalling 223 = .ok (.iand, 1) := by decide +kernel
theorem dX8_isFalling_224 : decode cX8_isFalling 224 = .ok (.iconst 1, 1) := by decide +kernel
theorem dX8_isFalling_225 : decode cX8_isFalling 225 = .ok (.if_icmp .ne 14, 3) := by decide +kernel
theorem dX8_isFalling_228 : decode cX8_isFalling 228 = .ok (.aload_n 0, 1) := by decide +kernel
theorem dX8_isFalling_229 : decode cX8_isFalling 229 = .ok (.iload 4, 2) := by decide +kernel
theorem dX8_isFalling_231 : decode cX8_isFalling 231 = .ok (.iload 4, 2) := by decide +kernel
theorem dX8_isFalling_233 : decode cX8_isFalling 233 = .ok (.invokevirtual 80, 3) := by decide +kernel
theorem dX8_isFalling_236 : decode cX8_isFalling 236 = .ok (.ifCond .ne 7, 3) := by decide +kernel
theorem dX8_isFalling_239 : decode cX8_isFalling 239 = .ok (.iconst 1, 1) := by decide +kernel
theorem dX8_isFalling_240 : decode cX8_isFalling 240 = .ok (.goto 4, 3) := by decide +kernel
theorem dX8_isFalling_243 : decode cX8_isFalling 243 = .ok (.iconst 0, 1) := by decide +kernel
theorem dX8_isFalling_244 : decode cX8_isFalling 244 = .ok (.iand, 1) := by decide +kernel
theorem dX8_isFalling_245 : decode cX8_isFalling 245 = .ok (.istore_n 3, 1) := by decide +kernel
theorem dX8_isFalling_246 : decode cX8_isFalling 246 = .ok (.iinc 4 1, 3) := by decide +kernel
theorem dX8_isFalling_249 : decode cX8_isFalling 249 = .ok (.goto (-50), 3) := by decide +kernel
theorem dX8_isFalling_252 : decode cX8_isFalling 252 = .ok (.iload_n 3, 1) := by decide +kernel
theorem dX8_isFalling_253 : decode cX8_isFalling 253 = .ok (.ireturn, 1) := by decide +kernel
set_option maxRecDepth 20000 in
theorem ggX8_isAllowed_X8_laysNeeds : GoodIn wsX8_isAllowed wsX8_laysNeeds := goodIn_r _ [7, 8, 2, 9, 10, 11, 12, 6, 13, 1, 14, 15, 16, 17, 34, 35, 36, 37, 38, 39, 40, 41, 42, 43, 44, 45, 46, 47, 48, 49, 50, 51, 52, 53, 54, 55, 56, 57] (by decide +kernel) (by decide +kernel)
set_option maxRecDepth 20000 in
theorem gX8_isAllowed_X8_laysNeeds : GoodIn wsX8_isAllowed (wsV RX8 88 RX8 yX8_laysNeeds wsX8_laysNeeds) := goodIn_app (goodIn_of _ (by decide +kernel)) ggX8_isAllowed_X8_laysNeeds
set_option maxRecDepth 20000 in
theorem ggX8_isAllowed_X8_depends : GoodIn wsX8_isAllowed wsX8_depends := goodIn_r _ [21, 8, 34, 35, 36, 37, 38, 39, 40, 41, 42, 43, 44, 45, 46, 47, 48, 49, 50, 51, 52, 53, 54, 55, 56, 57] (by decide +kernel) (by decide +kernel)
set_option maxRecDepth 20000 in
theorem gX8_isAllowed_X8_depends : GoodIn wsX8_isAllowed (wsV RX8 80 RX8 yX8_depends wsX8_depends) := goodIn_app (goodIn_of _ (by decide +kernel)) ggX8_isAllowed_X8_depends
set_option maxRecDepth 20000 in
theorem ggX8_isAllowed_X8_circle : GoodIn wsX8_isAllowed wsX8_circle := goodIn_r _ [25, 18, 19, 20, 6, 21, 8, 34, 35, 36, 37, 38, 39, 40, 41, 42, 43, 44, 45, 46, 47, 48, 49, 50, 51, 52, 53, 54, 55, 56, 57] (by decide +kernel) (by decide +kernel)
set_option maxRecDepth 20000 in
theorem gX8_isAllowed_X8_circle : GoodIn wsX8_isAllowed (wsV RX8 92 RX8 yX8_circle wsX8_circle) := goodIn_app (goodIn_of _ (by decide +kernel)) ggX8_isAllowed_X8_circle
set_option maxRecDepth 20000 in
theorem ggX8_isAllowed_X8_isFalling : GoodIn wsX8_isAllowed wsX8_isFalling := goodIn_r _ [29, 30, 2, 1, 9, 10, 11, 12, 6, 13, 14, 15, 16, 17, 31, 32, 33, 18, 19, 20, 21, 8, 34, 35, 36, 37, 38, 39, 40, 41, 42, 43, 44, 45, 46, 47, 48, 49, 50, 51, 52, 53, 54, 55, 56, 57] (by decide +kernel) (by decide +kernel)
set_option maxRecDepth 20000 in
theorem gX8_isAllowed_X8_isFalling : GoodIn wsX8_isAllowed (wsV RX8 95 RX8 yX8_isFalling wsX8_isFalling) := goodIn_app (goodIn_of _ (by decide +kernel)) ggX8_isAllowed_X8_isFalling
theorem dX8_isAllowed_0 : decode cX8_isAllowed 0 = .ok (.iconst 1, 1) := by decide +kernel
theorem dX8_isAllowed_1 : decode cX8_isAllowed 1 = .ok (.istore_n 1, 1) := by decide +kernel
theorem dX8_isAllowed_2 : decode cX8_isAllowed 2 = .ok (.iconst 0, 1) := by decide +kernel
theorem dX8_isAllowed_3 : decode cX8_isAllowed 3 = .ok (.istore_n 2, 1) := by decide +kernel
theorem dX8_isAllowed_4 : decode cX8_isAllowed 4 = .ok (.iload_n 2, 1) := by decide +kernel
theorem dX8_isAllowed_5 : decode cX8_isAllowed 5 = .ok (.bipush 16, 2) := by decide +kernel
theorem dX8_isAllowed_7 : decode cX8_isAllowed 7 = .ok (.if_icmp .ge 167, 3) := by decide +kernel
theorem dX8_isAllowed_10 : decode cX8_isAllowed 10 = .ok (.aload_n 0, 1) := by decide +kernel
theorem dX8_isAllowed_11 : decode cX8_isAllowed 11 = .ok (.iconst (-1), 1) := by decide +kernel
theorem dX8_isAllowed_12 : decode cX8_isAllowed 12 = .ok (.invokevirtual 88, 3) := by decide +kernel
theorem dX8_isAllowed_15 : decode cX8_isAllowed 15 = .ok (.aload_n 0, 1) := by decide +kernel
theorem dX8_isAllowed_16 : decode cX8_isAllowed 16 = .ok (.iload_n 2, 1) := by decide +kernel
theorem dX8_isAllowed_17 : decode cX8_isAllowed 17 = .ok (.iload_n 2, 1) := by decide +kernel
theorem dX8_isAllowed_18 : decode cX8_isAllowed 18 = .ok (.invokevirtual 80, 3) := by decide +kernel
theorem dX8_isAllowed_21 : decode cX8_isAllowed 21 = .ok (.ifCond .eq 147, 3) := by decide +kernel
theorem dX8_isAllowed_24 : decode cX8_isAllowed 24 = .ok (.aload_n 0, 1) := by decide +kernel
theorem dX8_isAllowed_25 : decode cX8_isAllowed 25 = .ok (.iload_n 2, 1) := by decide +kernel
theorem dX8_isAllowed_26 : decode cX8_isAllowed 26 = .ok (.invokevirtual 92, 3) := by decide +kernel
theorem dX8_isAllowed_29 : decode cX8_isAllowed 29 = .ok (.istore_n 3, 1) := by decide +kernel
theorem dX8_isAllowed_30 : decode cX8_isAllowed 30 = .ok (.iconst 0, 1) := by decide +kernel
theorem dX8_isAllowed_31 : decode cX8_isAllowed 31 = .ok (.istore 4, 2) := by decide +kernel
theorem dX8_isAllowed_33 : decode cX8_isAllowed 33 = .ok (.iconst 0, 1) := by decide +kernel
theorem dX8_isAllowed_34 : decode cX8_isAllowed 34 = .ok (.istore 5, 2) := by decide +kernel
theorem dX8_isAllowed_36 : decode cX8_isAllowed 36 = .ok (.iconst 0, 1) := by decide +kernel
theorem dX8_isAllowed_37 : decode cX8_isAllowed 37 = .ok (.istore 6, 2) := by decide +kernel
theorem dX8_isAllowed_39 : decode cX8_isAllowed 39 = .ok (.iload 6, 2) := by decide +kernel
theorem dX8_isAllowed_41 : decode cX8_isAllowed 41 = .ok (.bipush 16, 2) := by decide +kernel
theorem dX8_isAllowed_43 : decode cX8_isAllowed 43 = .ok (.if_icmp .ge 67, 3) := by decide +kernel
theorem dX8_isAllowed_46 : decode cX8_isAllowed 46 = .ok (.iload_n 3, 1) := by decide +kernel
theorem dX8_isAllowed_47 : decode cX8_isAllowed 47 = .ok (.iload 6, 2) := by decide +kernel
theorem dX8_isAllowed_49 : decode cX8_isAllowed 49 = .ok (.ishr, 1) := by decide +kernel
theorem dX8_isAllowed_50 : decode cX8_isAllowed 50 = .ok (.iconst 1, 1) := by decide +kernel
theorem dX8_isAllowed_51 : decode cX8_isAllowed 51 = .ok (.iand, 1) := by decide +kernel
theorem dX8_isAllowed_52 : decode cX8_isAllowed 52 = .ok (.iconst 1, 1) := by decide +kernel
theorem dX8_isAllowed_53 : decode cX8_isAllowed 53 = .ok (.if_icmp .ne 19, 3) := by decide +kernel
theorem dX8_isAllowed_56 : decode cX8_isAllowed 56 = .ok (.aload_n 0, 1) := by decide +kernel
theorem dX8_isAllowed_57 : decode cX8_isAllowed 57 = .ok (.getfield 7, 3) := by decide +kernel
theorem dX8_isAllowed_60 : decode cX8_isAllowed 60 = .ok (.iload 6, 2) := by decide +kernel
theorem dX8_isAllowed_62 : decode cX8_isAllowed 62 = .ok (.iaload, 1) := by decide +kernel
theorem dX8_isAllowed_63 : decode cX8_isAllowed 63 = .ok (.bipush 8, 2) := by decide +kernel
theorem dX8_isAllowed_65 : decode cX8_isAllowed 65 = .ok (.if_icmp .ne 7, 3) := by decide +kernel
theorem dX8_isAllowed_68 : decode cX8_isAllowed 68 = .ok (.iconst 1, 1) := by decide +kernel
theorem dX8_isAllowed_69 : decode cX8_isAllowed 69 = .ok (.goto 4, 3) := by decide +kernel
theorem dX8_isAllowed_72 : decode cX8_isAllowed 72 = .ok (.iconst 0, 1) := by decide +kernel
theorem dX8_isAllowed_73 : decode cX8_isAllowed 73 = .ok (.istore 7, 2) := by decide +kernel
theorem dX8_isAllowed_75 : decode cX8_isAllowed 75 = .ok (.iload 4, 2) := by decide +kernel
theorem dX8_isAllowed_77 : decode cX8_isAllowed 77 = .ok (.iload 7, 2) := by decide +kernel
theorem dX8_isAllowed_79 : decode cX8_isAllowed 79 = .ok (.ifCond .eq 7, 3) := by decide +kernel
theorem dX8_isAllowed_82 : decode cX8_isAllowed 82 = .ok (.iconst 1, 1) := by decide +kernel
theorem dX8_isAllowed_83 : decode cX8_isAllowed 83 = .ok (.goto 4, 3) := by decide +kernel
theorem dX8_isAllowed_86 : decode cX8_isAllowed 86 = .ok (.iconst 0, 1) := by decide +kernel
theorem dX8_isAllowed_87 : decode cX8_isAllowed 87 = .ok (.iadd, 1) := by decide +kernel
theorem dX8_isAllowed_88 : decode cX8_isAllowed 88 = .ok (.istore 4, 2) := by decide +kernel
theorem dX8_isAllowed_90 : decode cX8_isAllowed 90 = .ok (.iload 7, 2) := by decide +kernel
theorem dX8_isAllowed_92 : decode cX8_isAllowed 92 = .ok (.ifCond .eq 8, 3) := by decide +kernel
theorem dX8_isAllowed_95 : decode cX8_isAllowed 95 = .ok (.iload 6, 2) := by decide +kernel
theorem dX8_isAllowed_97 : decode cX8_isAllowed 97 = .ok (.goto 5, 3) := by decide +kernel
theorem dX8_isAllowed_100 : decode cX8_isAllowed 100 = .ok (.iload 5, 2) := by decide +kernel
theorem dX8_isAllowed_102 : decode cX8_isAllowed 102 = .ok (.istore 5, 2) := by decide +kernel
theorem dX8_isAllowed_104 : decode cX8_isAllowed 104 = .ok (.iinc 6 1, 3) := by decide +kernel
theorem dX8_isAllowed_107 : decode cX8_isAllowed 107 = .ok (.goto (-68), 3) := by decide +kernel
theorem dX8_isAllowed_110 : decode cX8_isAllowed 110 = .ok (.iload_n 1, 1) := by decide +kernel
theorem dX8_isAllowed_111 : decode cX8_isAllowed 111 = .ok (.iload 4, 2) := by decide +kernel
theorem dX8_isAllowed_113 : decode cX8_isAllowed 113 = .ok (.iconst 1, 1) := by decide +kernel
theorem dX8_isAllowed_114 : decode cX8_isAllowed 114 = .ok (.if_icmp .ne 21, 3) := by decide +kernel
theorem dX8_isAllowed_117 : decode cX8_isAllowed 117 = .ok (.iload_n 3, 1) := by decide +kernel
theorem dX8_isAllowed_118 : decode cX8_isAllowed 118 = .ok (.aload_n 0, 1) := by decide +kernel
theorem dX8_isAllowed_119 : decode cX8_isAllowed 119 = .ok (.getfield 13, 3) := by decide +kernel
theorem dX8_isAllowed_122 : decode cX8_isAllowed 122 = .ok (.iload 5, 2) := by decide +kernel
theorem dX8_isAllowed_124 : decode cX8_isAllowed 124 = .ok (.iaload, 1) := by decide +kernel
theorem dX8_isAllowed_125 : decode cX8_isAllowed 125 = .ok (.ishr, 1) := by decide +kernel
theorem dX8_isAllowed_126 : decode cX8_isAllowed 126 = .ok (.iconst 1, 1) := by decide +kernel
theorem dX8_isAllowed_127 : decode cX8_isAllowed 127 = .ok (.iand, 1) := by decide +kernel
theorem dX8_isAllowed_128 : decode cX8_isAllowed 128 = .ok (.ifCond .ne 7, 3) := by decide +kernel
theorem dX8_isAllowed_131 : decode cX8_isAllowed 131 = .ok (.iconst 1, 1) := by decide +kernel
theorem dX8_isAllowed_132 : decode cX8_isAllowed 132 = .ok (.goto 4, 3) := by decide +kernel
theorem dX8_isAllowed_135 : decode cX8_isAllowed 135 = .ok (.iconst 0, 1) := by decide +kernel
theorem dX8_isAllowed_136 : decode cX8_isAllowed 136 = .ok (.iand, 1) := by decide +kernel
theorem dX8_isAllowed_137 : decode cX8_isAllowed 137 = .ok (.istore_n 1, 1) := by decide +kernel
theorem dX8_isAllowed_138 : decode cX8_isAllowed 138 = .ok (.aload_n 0, 1) := by decide +kernel
theorem dX8_isAllowed_139 : decode cX8_isAllowed 139 = .ok (.iload 5, 2) := by decide +kernel
theorem dX8_isAllowed_141 : decode cX8_isAllowed 141 = .ok (.invokevirtual 88, 3) := by decide +kernel
theorem dX8_isAllowed_144 : decode cX8_isAllowed 144 = .ok (.iload_n 1, 1) := by decide +kernel
theorem dX8_isAllowed_145 : decode cX8_isAllowed 145 = .ok (.iload 4, 2) := by decide +kernel
theorem dX8_isAllowed_147 : decode cX8_isAllowed 147 = .ok (.iconst 1, 1) := by decide +kernel
theorem dX8_isAllowed_148 : decode cX8_isAllowed 148 = .ok (.if_icmp .ne 17, 3) := by decide +kernel
theorem dX8_isAllowed_151 : decode cX8_isAllowed 151 = .ok (.aload_n 0, 1) := by decide +kernel
theorem dX8_isAllowed_152 : decode cX8_isAllowed 152 = .ok (.iload_n 3, 1) := by decide +kernel
theorem dX8_isAllowed_153 : decode cX8_isAllowed 153 = .ok (.iload 5, 2) := by decide +kernel
theorem dX8_isAllowed_155 : decode cX8_isAllowed 155 = .ok (.invokevirtual 95, 3) := by decide +kernel
theorem dX8_isAllowed_158 : decode cX8_isAllowed 158 = .ok (.ifCond .eq 7, 3) := by decide +kernel
theorem dX8_isAllowed_161 : decode cX8_isAllowed 161 = .ok (.iconst 1, 1) := by decide +kernel
theorem dX8_isAllowed_162 : decode cX8_isAllowed 162 = .ok (.goto 4, 3) := by decide +kernel
theorem dX8_isAllowed_165 : decode cX8_isAllowed 165 = .ok (.iconst 0, 1) := by decide +kernel
theorem dX8_isAllowed_166 : decode cX8_isAllowed 166 = .ok (.iand, 1) := by decide +kernel
theorem dX8_isAllowed_167 : decode cX8_isAllowed 167 = .ok (.istore_n 1, 1) := by decide +kernel
theorem dX8_isAllowed_168 : decode cX8_isAllowed 168 = .ok (.iinc 2 1, 3) := by decide +kernel
theorem dX8_isAllowed_171 : decode cX8_isAllowed 171 = .ok (.goto (-167), 3) := by decide +kernel
theorem dX8_isAllowed_174 : decode cX8_isAllowed 174 = .ok (.iload_n 1, 1) := by decide +kernel
theorem dX8_isAllowed_175 : decode cX8_isAllowed 175 = .ok (.ireturn, 1) := by decide +kernel
set_option maxRecDepth 20000 in
theorem ggX8_define_X8_isIn : GoodIn wsX8_define wsX8_isIn := goodIn_r _ [8] (by decide +kernel) (by decide +kernel)
set_option maxRecDepth 20000 in
theorem gX8_define_X8_isIn : GoodIn wsX8_define (va_wsS RX8 69 yX8_isIn wsX8_isIn) := goodIn_app (goodIn_of _ (by decide +kernel)) ggX8_define_X8_isIn
set_option maxRecDepth 20000 in
theorem ggX8_define_X8_isLine : GoodIn wsX8_define wsX8_isLine := goodIn_r _ [11, 5, 6, 7, 8] (by decide +kernel) (by decide +kernel)
set_option maxRecDepth 20000 in
theorem gX8_define_X8_isLine : GoodIn wsX8_define (va_wsS RX8 98 yX8_isLine wsX8_isLine) := goodIn_app (goodIn_of _ (by decide +kernel)) ggX8_define_X8_isLine
set_option maxRecDepth 20000 in
theorem ggX8_define_X8_isAllowed : GoodIn wsX8_define wsX8_isAllowed := goodIn_r _ [15, 2, 3, 16, 17, 18, 7, 19, 20, 4, 21, 22, 23, 24, 25, 26, 27, 28, 29, 30, 31, 32, 33, 34, 35, 36, 37, 38, 39, 40, 41, 42, 43, 44, 45, 46, 47, 48, 49, 50, 51, 52, 53, 54, 55, 56, 57, 58, 59, 60, 61, 62, 63, 64, 65, 66, 67, 68] (by decide +kernel) (by decide +kernel)
set_option maxRecDepth 20000 in
theorem gX8_define_X8_isAllowed : GoodIn wsX8_define (wsV RX8 101 RX8 yX8_isAllowed wsX8_isAllowed) := goodIn_app (goodIn_of _ (by decide +kernel)) ggX8_define_X8_isAllowed
theorem dX8_define_0 : decode cX8_define 0 = .ok (.iload_n 2, 1) := by decide +kernel
theorem dX8_define_1 : decode cX8_define 1 = .ok (.iconst 1, 1) := by decide +kernel
theorem dX8_define_2 : decode cX8_define 2 = .ok (.if_icmp .eq 24, 3) := by decide +kernel
theorem dX8_define_5 : decode cX8_define 5 = .ok (.iload_n 2, 1) := by decide +kernel
theorem dX8_define_6 : decode cX8_define 6 = .ok (.iconst 2, 1) := by decide +kernel
theorem dX8_define_7 : decode cX8_define 7 = .ok (.if_icmp .eq 19, 3) := by decide +kernel
theorem dX8_define_10 : decode cX8_define 10 = .ok (.iload_n 2, 1) := by decide +kernel
theorem dX8_define_11 : decode cX8_define 11 = .ok (.iconst 4, 1) := by decide +kernel
theorem dX8_define_12 : decode cX8_define 12 = .ok (.if_icmp .eq 14, 3) := by decide +kernel
theorem dX8_define_15 : decode cX8_define 15 = .ok (.iload_n 2, 1) := by decide +kernel
theorem dX8_define_16 : decode cX8_define 16 = .ok (.iconst 5, 1) := by decide +kernel
theorem dX8_define_17 : decode cX8_define 17 = .ok (.if_icmp .eq 9, 3) := by decide +kernel
theorem dX8_define_20 : decode cX8_define 20 = .ok (.iload_n 2, 1) := by decide +kernel
theorem dX8_define_21 : decode cX8_define 21 = .ok (.bipush 8, 2) := by decide +kernel
theorem dX8_define_23 : decode cX8_define 23 = .ok (.if_icmp .ne 7, 3) := by decide +kernel
theorem dX8_define_26 : decode cX8_define 26 = .ok (.iconst 1, 1) := by decide +kernel
theorem dX8_define_27 : decode cX8_define 27 = .ok (.goto 4, 3) := by decide +kernel
theorem dX8_define_30 : decode cX8_define 30 = .ok (.iconst 0, 1) := by decide +kernel
theorem dX8_define_31 : decode cX8_define 31 = .ok (.istore 5, 2) := by decide +kernel
theorem dX8_define_33 : decode cX8_define 33 = .ok (.iload_n 2, 1) := by decide +kernel
theorem dX8_define_34 : decode cX8_define 34 = .ok (.iconst 0, 1) := by decide +kernel
theorem dX8_define_35 : decode cX8_define 35 = .ok (.bipush 8, 2) := by decide +kernel
theorem dX8_define_37 : decode cX8_define 37 = .ok (.invokestatic 69, 3) := by decide +kernel
theorem dX8_define_40 : decode cX8_define 40 = .ok (.istore 6, 2) := by decide +kernel
theorem dX8_define_42 : decode cX8_define 42 = .ok (.iload_n 1, 1) := by decide +kernel
theorem dX8_define_43 : decode cX8_define 43 = .ok (.invokestatic 98, 3) := by decide +kernel
theorem dX8_define_46 : decode cX8_define 46 = .ok (.ifCond .eq 36, 3) := by decide +kernel
theorem dX8_define_49 : decode cX8_define 49 = .ok (.iload 6, 2) := by decide +kernel
theorem dX8_define_51 : decode cX8_define 51 = .ok (.ifCond .eq 14, 3) := by decide +kernel
theorem dX8_define_54 : decode cX8_define 54 = .ok (.iload_n 2, 1) := by decide +kernel
theorem dX8_define_55 : decode cX8_define 55 = .ok (.ifCond .eq 10, 3) := by decide +kernel
theorem dX8_define_58 : decode cX8_define 58 = .ok (.iload_n 3, 1) := by decide +kernel
theorem dX8_define_59 : decode cX8_define 59 = .ok (.invokestatic 98, 3) := by decide +kernel
theorem dX8_define_62 : decode cX8_define 62 = .ok (.ifCond .eq 20, 3) := by decide +kernel
theorem dX8_define_65 : decode cX8_define 65 = .ok (.iload 5, 2) := by decide +kernel
theorem dX8_define_67 : decode cX8_define 67 = .ok (.ifCond .eq 11, 3) := by decide +kernel
theorem dX8_define_70 : decode cX8_define 70 = .ok (.iload 4, 2) := by decide +kernel
theorem dX8_define_72 : decode cX8_define 72 = .ok (.invokestatic 98, 3) := by decide +kernel
theorem dX8_define_75 : decode cX8_define 75 = .ok (.ifCond .eq 7, 3) := by decide +kernel
theorem dX8_define_78 : decode cX8_define 78 = .ok (.iconst 1, 1) := by decide +kernel
theorem dX8_define_79 : decode cX8_define 79 = .ok (.goto 4, 3) := by decide +kernel
theorem dX8_define_82 : decode cX8_define 82 = .ok (.iconst 0, 1) := by decide +kernel
theorem dX8_define_83 : decode cX8_define 83 = .ok (.istore 7, 2) := by decide +kernel
theorem dX8_define_85 : decode cX8_define 85 = .ok (.aload_n 0, 1) := by decide +kernel
theorem dX8_define_86 : decode cX8_define 86 = .ok (.iload 7, 2) := by decide +kernel
theorem dX8_define_88 : decode cX8_define 88 = .ok (.ifCond .ne 7, 3) := by decide +kernel
theorem dX8_define_91 : decode cX8_define 91 = .ok (.iconst 1, 1) := by decide +kernel
theorem dX8_define_92 : decode cX8_define 92 = .ok (.goto 30, 3) := by decide +kernel
theorem dX8_define_95 : decode cX8_define 95 = .ok (.iload 6, 2) := by decide +kernel
theorem dX8_define_97 : decode cX8_define 97 = .ok (.ifCond .eq 20, 3) := by decide +kernel
theorem dX8_define_100 : decode cX8_define 100 = .ok (.iload_n 2, 1) := by decide +kernel
theorem dX8_define_101 : decode cX8_define 101 = .ok (.iconst 3, 1) := by decide +kernel
theorem dX8_define_102 : decode cX8_define 102 = .ok (.if_icmp .ne 19, 3) := by decide +kernel
theorem dX8_define_105 : decode cX8_define 105 = .ok (.iload 4, 2) := by decide +kernel
theorem dX8_define_107 : decode cX8_define 107 = .ok (.iconst 0, 1) := by decide +kernel
theorem dX8_define_108 : decode cX8_define 108 = .ok (.sipush 1000, 3) := by decide +kernel
theorem dX8_define_111 : decode cX8_define 111 = .ok (.invokestatic 69, 3) := by decide +kernel
theorem dX8_define_114 : decode cX8_define 114 = .ok (.ifCond .ne 7, 3) := by decide +kernel
theorem dX8_define_117 : decode cX8_define 117 = .ok (.iconst 2, 1) := by decide +kernel
theorem dX8_define_118 : decode cX8_define 118 = .ok (.goto 4, 3) := by decide +kernel
theorem dX8_define_121 : decode cX8_define 121 = .ok (.iconst 0, 1) := by decide +kernel
theorem dX8_define_122 : decode cX8_define 122 = .ok (.putfield 65, 3) := by decide +kernel
theorem dX8_define_125 : decode cX8_define 125 = .ok (.aload_n 0, 1) := by decide +kernel
theorem dX8_define_126 : decode cX8_define 126 = .ok (.getfield 65, 3) := by decide +kernel
theorem dX8_define_129 : decode cX8_define 129 = .ok (.ifCond .le 4, 3) := by decide +kernel
theorem dX8_define_132 : decode cX8_define 132 = .ok (.return_, 1) := by decide +kernel
theorem dX8_define_133 : decode cX8_define 133 = .ok (.aload_n 0, 1) := by decide +kernel
theorem dX8_define_134 : decode cX8_define 134 = .ok (.getfield 7, 3) := by decide +kernel
theorem dX8_define_137 : decode cX8_define 137 = .ok (.iload_n 1, 1) := by decide +kernel
theorem dX8_define_138 : decode cX8_define 138 = .ok (.iaload, 1) := by decide +kernel
theorem dX8_define_139 : decode cX8_define 139 = .ok (.istore 8, 2) := by decide +kernel
theorem dX8_define_141 : decode cX8_define 141 = .ok (.aload_n 0, 1) := by decide +kernel
theorem dX8_define_142 : decode cX8_define 142 = .ok (.getfield 13, 3) := by decide +kernel
theorem dX8_define_145 : decode cX8_define 145 = .ok (.iload_n 1, 1) := by decide +kernel
theorem dX8_define_146 : decode cX8_define 146 = .ok (.iaload, 1) := by decide +kernel
theorem dX8_define_147 : decode cX8_define 147 = .ok (.istore 9, 2) := by decide +kernel
theorem dX8_define_149 : decode cX8_define 149 = .ok (.aload_n 0, 1) := by decide +kernel
theorem dX8_define_150 : decode cX8_define 150 = .ok (.getfield 16, 3) := by decide +kernel
theorem dX8_define_153 : decode cX8_define 153 = .ok (.iload_n 1, 1) := by decide +kernel
theorem dX8_define_154 : decode cX8_define 154 = .ok (.iaload, 1) := by decide +kernel
theorem dX8_define_155 : decode cX8_define 155 = .ok (.istore 10, 2) := by decide +kernel
theorem dX8_define_157 : decode cX8_define 157 = .ok (.aload_n 0, 1) := by decide +kernel
theorem dX8_define_158 : decode cX8_define 158 = .ok (.getfield 7, 3) := by decide +kernel
theorem dX8_define_161 : decode cX8_define 161 = .ok (.iload_n 1, 1) := by decide +kernel
theorem dX8_define_162 : decode cX8_define 162 = .ok (.iload_n 2, 1) := by decide +kernel
theorem dX8_define_163 : decode cX8_define 163 = .ok (.iastore, 1) := by decide +kernel
theorem dX8_define_164 : decode cX8_define 164 = .ok (.aload_n 0, 1) := by decide +kernel
theorem dX8_define_165 : decode cX8_define 165 = .ok (.getfield 13, 3) := by decide +kernel
theorem dX8_define_168 : decode cX8_define 168 = .ok (.iload_n 1, 1) := by decide +kernel
theorem dX8_define_169 : decode cX8_define 169 = .ok (.iload_n 3, 1) := by decide +kernel
theorem dX8_define_170 : decode cX8_define 170 = .ok (.iastore, 1) := by decide +kernel
theorem dX8_define_171 : decode cX8_define 171 = .ok (.aload_n 0, 1) := by decide +kernel
theorem dX8_define_172 : decode cX8_define 172 = .ok (.getfield 16, 3) := by decide +kernel
theorem dX8_define_175 : decode cX8_define 175 = .ok (.iload_n 1, 1) := by decide +kernel
theorem dX8_define_176 : decode cX8_define 176 = .ok (.iload 4, 2) := by decide +kernel
theorem dX8_define_178 : decode cX8_define 178 = .ok (.iastore, 1) := by decide +kernel
theorem dX8_define_179 : decode cX8_define 179 = .ok (.aload_n 0, 1) := by decide +kernel
theorem dX8_define_180 : decode cX8_define 180 = .ok (.invokevirtual 101, 3) := by decide +kernel
theorem dX8_define_183 : decode cX8_define 183 = .ok (.ifCond .ne 32, 3) := by decide +kernel
theorem dX8_define_186 : decode cX8_define 186 = .ok (.aload_n 0, 1) := by decide +kernel
theorem dX8_define_187 : decode cX8_define 187 = .ok (.getfield 7, 3) := by decide +kernel
theorem dX8_define_190 : decode cX8_define 190 = .ok (.iload_n 1, 1) := by decide +kernel
theorem dX8_define_191 : decode cX8_define 191 = .ok (.iload 8, 2) := by decide +kernel
theorem dX8_define_193 : decode cX8_define 193 = .ok (.iastore, 1) := by decide +kernel
theorem dX8_define_194 : decode cX8_define 194 = .ok (.aload_n 0, 1) := by decide +kernel
theorem dX8_define_195 : decode cX8_define 195 = .ok (.getfield 13, 3) := by decide +kernel
theorem dX8_define_198 : decode cX8_define 198 = .ok (.iload_n 1, 1) := by decide +kernel
theorem dX8_define_199 : decode cX8_define 199 = .ok (.iload 9, 2) := by decide +kernel
theorem dX8_define_201 : decode cX8_define 201 = .ok (.iastore, 1) := by decide +kernel
theorem dX8_define_202 : decode cX8_define 202 = .ok (.aload_n 0, 1) := by decide +kernel
theorem dX8_define_203 : decode cX8_define 203 = .ok (.getfield 16, 3) := by decide +kernel
theorem dX8_define_206 : decode cX8_define 206 = .ok (.iload_n 1, 1) := by decide +kernel
theorem dX8_define_207 : decode cX8_define 207 = .ok (.iload 10, 2) := by decide +kernel
theorem dX8_define_209 : decode cX8_define 209 = .ok (.iastore, 1) := by decide +kernel
theorem dX8_define_210 : decode cX8_define 210 = .ok (.aload_n 0, 1) := by decide +kernel
theorem dX8_define_211 : decode cX8_define 211 = .ok (.iconst 3, 1) := by decide +kernel
theorem dX8_define_212 : decode cX8_define 212 = .ok (.putfield 65, 3) := by decide +kernel
theorem dX8_define_215 : decode cX8_define 215 = .ok (.return_, 1) := by decide +kernel
set_option maxRecDepth 20000 in
theorem ggX8_answer_X8_isLine : GoodIn wsX8_answer wsX8_isLine := goodIn_r _ [7, 8, 9, 6, 10] (by decide +kernel) (by decide +kernel)
set_option maxRecDepth 20000 in
theorem gX8_answer_X8_isLine : GoodIn wsX8_answer (va_wsS RX8 98 yX8_isLine wsX8_isLine) := goodIn_app (goodIn_of _ (by decide +kernel)) ggX8_answer_X8_isLine
set_option maxRecDepth 20000 in
theorem ggX8_answer_X8_isIn : GoodIn wsX8_answer wsX8_isIn := goodIn_r _ [10] (by decide +kernel) (by decide +kernel)
set_option maxRecDepth 20000 in
theorem gX8_answer_X8_isIn : GoodIn wsX8_answer (va_wsS RX8 69 yX8_isIn wsX8_isIn) := goodIn_app (goodIn_of _ (by decide +kernel)) ggX8_answer_X8_isIn
theorem dX8_answer_0 : decode cX8_answer 0 = .ok (.aload_n 0, 1) := by decide +kernel
theorem dX8_answer_1 : decode cX8_answer 1 = .ok (.iload_n 1, 1) := by decide +kernel
theorem dX8_answer_2 : decode cX8_answer 2 = .ok (.invokestatic 98, 3) := by decide +kernel
theorem dX8_answer_5 : decode cX8_answer 5 = .ok (.ifCond .ne 7, 3) := by decide +kernel
theorem dX8_answer_8 : decode cX8_answer 8 = .ok (.iconst 1, 1) := by decide +kernel
theorem dX8_answer_9 : decode cX8_answer 9 = .ok (.goto 18, 3) := by decide +kernel
theorem dX8_answer_12 : decode cX8_answer 12 = .ok (.iload_n 2, 1) := by decide +kernel
theorem dX8_answer_13 : decode cX8_answer 13 = .ok (.iconst 0, 1) := by decide +kernel
theorem dX8_answer_14 : decode cX8_answer 14 = .ok (.ldc 105, 2) := by decide +kernel
theorem dX8_answer_16 : decode cX8_answer 16 = .ok (.invokestatic 69, 3) := by decide +kernel
theorem dX8_answer_19 : decode cX8_answer 19 = .ok (.ifCond .eq 7, 3) := by decide +kernel
theorem dX8_answer_22 : decode cX8_answer 22 = .ok (.iconst 0, 1) := by decide +kernel
theorem dX8_answer_23 : decode cX8_answer 23 = .ok (.goto 4, 3) := by decide +kernel
theorem dX8_answer_26 : decode cX8_answer 26 = .ok (.iconst 2, 1) := by decide +kernel
theorem dX8_answer_27 : decode cX8_answer 27 = .ok (.putfield 65, 3) := by decide +kernel
theorem dX8_answer_30 : decode cX8_answer 30 = .ok (.aload_n 0, 1) := by decide +kernel
theorem dX8_answer_31 : decode cX8_answer 31 = .ok (.getfield 65, 3) := by decide +kernel
theorem dX8_answer_34 : decode cX8_answer 34 = .ok (.ifCond .le 5, 3) := by decide +kernel
theorem dX8_answer_37 : decode cX8_answer 37 = .ok (.iconst 0, 1) := by decide +kernel
theorem dX8_answer_38 : decode cX8_answer 38 = .ok (.ireturn, 1) := by decide +kernel
theorem dX8_answer_39 : decode cX8_answer 39 = .ok (.aload_n 0, 1) := by decide +kernel
theorem dX8_answer_40 : decode cX8_answer 40 = .ok (.getfield 19, 3) := by decide +kernel
theorem dX8_answer_43 : decode cX8_answer 43 = .ok (.iload_n 1, 1) := by decide +kernel
theorem dX8_answer_44 : decode cX8_answer 44 = .ok (.iaload, 1) := by decide +kernel
theorem dX8_answer_45 : decode cX8_answer 45 = .ok (.istore_n 3, 1) := by decide +kernel
theorem dX8_answer_46 : decode cX8_answer 46 = .ok (.aload_n 0, 1) := by decide +kernel
theorem dX8_answer_47 : decode cX8_answer 47 = .ok (.getfield 19, 3) := by decide +kernel
theorem dX8_answer_50 : decode cX8_answer 50 = .ok (.iload_n 1, 1) := by decide +kernel
theorem dX8_answer_51 : decode cX8_answer 51 = .ok (.iload_n 2, 1) := by decide +kernel
theorem dX8_answer_52 : decode cX8_answer 52 = .ok (.iastore, 1) := by decide +kernel
theorem dX8_answer_53 : decode cX8_answer 53 = .ok (.iload_n 3, 1) := by decide +kernel
theorem dX8_answer_54 : decode cX8_answer 54 = .ok (.ireturn, 1) := by decide +kernel
set_option maxRecDepth 20000 in
theorem ggX8_kindOf_X8_isLine : GoodIn wsX8_kindOf wsX8_isLine := goodIn_r _ [6, 7, 8, 5, 9] (by decide +kernel) (by decide +kernel)
set_option maxRecDepth 20000 in
theorem gX8_kindOf_X8_isLine : GoodIn wsX8_kindOf (va_wsS RX8 98 yX8_isLine wsX8_isLine) := goodIn_app (goodIn_of _ (by decide +kernel)) ggX8_kindOf_X8_isLine
theorem dX8_kindOf_0 : decode cX8_kindOf 0 = .ok (.aload_n 0, 1) := by decide +kernel
theorem dX8_kindOf_1 : decode cX8_kindOf 1 = .ok (.iload_n 1, 1) := by decide +kernel
theorem dX8_kindOf_2 : decode cX8_kindOf 2 = .ok (.invokestatic 98, 3) := by decide +kernel
theorem dX8_kindOf_5 : decode cX8_kindOf 5 = .ok (.ifCond .eq 7, 3) := by decide +kernel
theorem dX8_kindOf_8 : decode cX8_kindOf 8 = .ok (.iconst 0, 1) := by decide +kernel
theorem dX8_kindOf_9 : decode cX8_kindOf 9 = .ok (.goto 4, 3) := by decide +kernel
theorem dX8_kindOf_12 : decode cX8_kindOf 12 = .ok (.iconst 1, 1) := by decide +kernel
theorem dX8_kindOf_13 : decode cX8_kindOf 13 = .ok (.putfield 65, 3) := by decide +kernel
theorem dX8_kindOf_16 : decode cX8_kindOf 16 = .ok (.aload_n 0, 1) := by decide +kernel
theorem dX8_kindOf_17 : decode cX8_kindOf 17 = .ok (.getfield 65, 3) := by decide +kernel
theorem dX8_kindOf_20 : decode cX8_kindOf 20 = .ok (.ifCond .le 7, 3) := by decide +kernel
theorem dX8_kindOf_23 : decode cX8_kindOf 23 = .ok (.iconst 0, 1) := by decide +kernel
theorem dX8_kindOf_24 : decode cX8_kindOf 24 = .ok (.goto 9, 3) := by decide +kernel
theorem dX8_kindOf_27 : decode cX8_kindOf 27 = .ok (.aload_n 0, 1) := by decide +kernel
theorem dX8_kindOf_28 : decode cX8_kindOf 28 = .ok (.getfield 7, 3) := by decide +kernel
theorem dX8_kindOf_31 : decode cX8_kindOf 31 = .ok (.iload_n 1, 1) := by decide +kernel
theorem dX8_kindOf_32 : decode cX8_kindOf 32 = .ok (.iaload, 1) := by decide +kernel
theorem dX8_kindOf_33 : decode cX8_kindOf 33 = .ok (.ireturn, 1) := by decide +kernel
theorem dX8_taxed_0 : decode cX8_taxed 0 = .ok (.iconst 0, 1) := by decide +kernel
theorem dX8_taxed_1 : decode cX8_taxed 1 = .ok (.istore_n 2, 1) := by decide +kernel
theorem dX8_taxed_2 : decode cX8_taxed 2 = .ok (.iconst 0, 1) := by decide +kernel
theorem dX8_taxed_3 : decode cX8_taxed 3 = .ok (.istore_n 3, 1) := by decide +kernel
theorem dX8_taxed_4 : decode cX8_taxed 4 = .ok (.iload_n 3, 1) := by decide +kernel
theorem dX8_taxed_5 : decode cX8_taxed 5 = .ok (.aload_n 0, 1) := by decide +kernel
theorem dX8_taxed_6 : decode cX8_taxed 6 = .ok (.getfield 106, 3) := by decide +kernel
theorem dX8_taxed_9 : decode cX8_taxed 9 = .ok (.if_icmp .ge 132, 3) := by decide +kernel
theorem dX8_taxed_12 : decode cX8_taxed 12 = .ok (.ldc 109, 2) := by decide +kernel
theorem dX8_taxed_14 : decode cX8_taxed 14 = .ok (.istore 4, 2) := by decide +kernel
theorem dX8_taxed_16 : decode cX8_taxed 16 = .ok (.iconst 0, 1) := by decide +kernel
theorem dX8_taxed_17 : decode cX8_taxed 17 = .ok (.istore 5, 2) := by decide +kernel
theorem dX8_taxed_19 : decode cX8_taxed 19 = .ok (.iload 5, 2) := by decide +kernel
theorem dX8_taxed_21 : decode cX8_taxed 21 = .ok (.aload_n 0, 1) := by decide +kernel
theorem dX8_taxed_22 : decode cX8_taxed 22 = .ok (.getfield 106, 3) := by decide +kernel
theorem dX8_taxed_25 : decode cX8_taxed 25 = .ok (.if_icmp .ge 51, 3) := by decide +kernel
theorem dX8_taxed_28 : decode cX8_taxed 28 = .ok (.aload_n 0, 1) := by decide +kernel
theorem dX8_taxed_29 : decode cX8_taxed 29 = .ok (.getfield 22, 3) := by decide +kernel
theorem dX8_taxed_32 : decode cX8_taxed 32 = .ok (.iload 5, 2) := by decide +kernel
theorem dX8_taxed_34 : decode cX8_taxed 34 = .ok (.iaload, 1) := by decide +kernel
theorem dX8_taxed_35 : decode cX8_taxed 35 = .ok (.aload_n 0, 1) := by decide +kernel
theorem dX8_taxed_36 : decode cX8_taxed 36 = .ok (.getfield 22, 3) := by decide +kernel
theorem dX8_taxed_39 : decode cX8_taxed 39 = .ok (.iload_n 3, 1) := by decide +kernel
theorem dX8_taxed_40 : decode cX8_taxed 40 = .ok (.iaload, 1) := by decide +kernel
theorem dX8_taxed_41 : decode cX8_taxed 41 = .ok (.if_icmp .le 25, 3) := by decide +kernel
theorem dX8_taxed_44 : decode cX8_taxed 44 = .ok (.aload_n 0, 1) := by decide +kernel
theorem dX8_taxed_45 : decode cX8_taxed 45 = .ok (.getfield 22, 3) := by decide +kernel
theorem dX8_taxed_48 : decode cX8_taxed 48 = .ok (.iload 5, 2) := by decide +kernel
theorem dX8_taxed_50 : decode cX8_taxed 50 = .ok (.iaload, 1) := by decide +kernel
theorem dX8_taxed_51 : decode cX8_taxed 51 = .ok (.iload 4, 2) := by decide +kernel
theorem dX8_taxed_53 : decode cX8_taxed 53 = .ok (.if_icmp .ge 13, 3) := by decide +kernel
theorem dX8_taxed_56 : decode cX8_taxed 56 = .ok (.aload_n 0, 1) := by decide +kernel
theorem dX8_taxed_57 : decode cX8_taxed 57 = .ok (.getfield 22, 3) := by decide +kernel
theorem dX8_taxed_60 : decode cX8_taxed 60 = .ok (.iload 5, 2) := by decide +kernel
theorem dX8_taxed_62 : decode cX8_taxed 62 = .ok (.iaload, 1) := by decide +kernel
theorem dX8_taxed_63 : decode cX8_taxed 63 = .ok (.goto 5, 3) := by decide +kernel
theorem dX8_taxed_66 : decode cX8_taxed 66 = .ok (.iload 4, 2) := by decide +kernel
theorem dX8_taxed_68 : decode cX8_taxed 68 = .ok (.istore 4, 2) := by decide +kernel
theorem dX8_taxed_70 : decode cX8_taxed 70 = .ok (.iinc 5 1, 3) := by decide +kernel
theorem dX8_taxed_73 : decode cX8_taxed 73 = .ok (.goto (-54), 3) := by decide +kernel
theorem dX8_taxed_76 : decode cX8_taxed 76 = .ok (.iload_n 1, 1) := by decide +kernel
theorem dX8_taxed_77 : decode cX8_taxed 77 = .ok (.iload 4, 2) := by decide +kernel
theorem dX8_taxed_79 : decode cX8_taxed 79 = .ok (.if_icmp .ge 7, 3) := by decide +kernel
theorem dX8_taxed_82 : decode cX8_taxed 82 = .ok (.iload_n 1, 1) := by decide +kernel
theorem dX8_taxed_83 : decode cX8_taxed 83 = .ok (.goto 5, 3) := by decide +kernel
theorem dX8_taxed_86 : decode cX8_taxed 86 = .ok (.iload 4, 2) := by decide +kernel
theorem dX8_taxed_88 : decode cX8_taxed 88 = .ok (.istore 5, 2) := by decide +kernel
theorem dX8_taxed_90 : decode cX8_taxed 90 = .ok (.iload 5, 2) := by decide +kernel
theorem dX8_taxed_92 : decode cX8_taxed 92 = .ok (.aload_n 0, 1) := by decide +kernel
theorem dX8_taxed_93 : decode cX8_taxed 93 = .ok (.getfield 22, 3) := by decide +kernel
theorem dX8_taxed_96 : decode cX8_taxed 96 = .ok (.iload_n 3, 1) := by decide +kernel
theorem dX8_taxed_97 : decode cX8_taxed 97 = .ok (.iaload, 1) := by decide +kernel
theorem dX8_taxed_98 : decode cX8_taxed 98 = .ok (.if_icmp .le 16, 3) := by decide +kernel
theorem dX8_taxed_101 : decode cX8_taxed 101 = .ok (.iload 5, 2) := by decide +kernel
theorem dX8_taxed_103 : decode cX8_taxed 103 = .ok (.aload_n 0, 1) := by decide +kernel
theorem dX8_taxed_104 : decode cX8_taxed 104 = .ok (.getfield 22, 3) := by decide +kernel
theorem dX8_taxed_107 : decode cX8_taxed 107 = .ok (.iload_n 3, 1) := by decide +kernel
theorem dX8_taxed_108 : decode cX8_taxed 108 = .ok (.iaload, 1) := by decide +kernel
theorem dX8_taxed_109 : decode cX8_taxed 109 = .ok (.isub, 1) := by decide +kernel
theorem dX8_taxed_110 : decode cX8_taxed 110 = .ok (.i2l, 1) := by decide +kernel
theorem dX8_taxed_111 : decode cX8_taxed 111 = .ok (.goto 4, 3) := by decide +kernel
theorem dX8_taxed_114 : decode cX8_taxed 114 = .ok (.lconst 0, 1) := by decide +kernel
theorem dX8_taxed_115 : decode cX8_taxed 115 = .ok (.lstore 6, 2) := by decide +kernel
theorem dX8_taxed_117 : decode cX8_taxed 117 = .ok (.iload_n 2, 1) := by decide +kernel
theorem dX8_taxed_118 : decode cX8_taxed 118 = .ok (.lload 6, 2) := by decide +kernel
theorem dX8_taxed_120 : decode cX8_taxed 120 = .ok (.aload_n 0, 1) := by decide +kernel
theorem dX8_taxed_121 : decode cX8_taxed 121 = .ok (.getfield 25, 3) := by decide +kernel
theorem dX8_taxed_124 : decode cX8_taxed 124 = .ok (.iload_n 3, 1) := by decide +kernel
theorem dX8_taxed_125 : decode cX8_taxed 125 = .ok (.iaload, 1) := by decide +kernel
theorem dX8_taxed_126 : decode cX8_taxed 126 = .ok (.i2l, 1) := by decide +kernel
theorem dX8_taxed_127 : decode cX8_taxed 127 = .ok (.lmul, 1) := by decide +kernel
theorem dX8_taxed_128 : decode cX8_taxed 128 = .ok (.ldc2_w 110, 3) := by decide +kernel
theorem dX8_taxed_131 : decode cX8_taxed 131 = .ok (.ldiv, 1) := by decide +kernel
theorem dX8_taxed_132 : decode cX8_taxed 132 = .ok (.l2i, 1) := by decide +kernel
theorem dX8_taxed_133 : decode cX8_taxed 133 = .ok (.iadd, 1) := by decide +kernel
theorem dX8_taxed_134 : decode cX8_taxed 134 = .ok (.istore_n 2, 1) := by decide +kernel
theorem dX8_taxed_135 : decode cX8_taxed 135 = .ok (.iinc 3 1, 3) := by decide +kernel
theorem dX8_taxed_138 : decode cX8_taxed 138 = .ok (.goto (-134), 3) := by decide +kernel
theorem dX8_taxed_141 : decode cX8_taxed 141 = .ok (.iload_n 2, 1) := by decide +kernel
theorem dX8_taxed_142 : decode cX8_taxed 142 = .ok (.ireturn, 1) := by decide +kernel
theorem dX8_all_0 : decode cX8_all 0 = .ok (.iconst 0, 1) := by decide +kernel
theorem dX8_all_1 : decode cX8_all 1 = .ok (.istore_n 1, 1) := by decide +kernel
theorem dX8_all_2 : decode cX8_all 2 = .ok (.iconst 0, 1) := by decide +kernel
theorem dX8_all_3 : decode cX8_all 3 = .ok (.istore_n 2, 1) := by decide +kernel
theorem dX8_all_4 : decode cX8_all 4 = .ok (.iload_n 2, 1) := by decide +kernel
theorem dX8_all_5 : decode cX8_all 5 = .ok (.aload_n 0, 1) := by decide +kernel
theorem dX8_all_6 : decode cX8_all 6 = .ok (.getfield 112, 3) := by decide +kernel
theorem dX8_all_9 : decode cX8_all 9 = .ok (.if_icmp .ge 18, 3) := by decide +kernel
theorem dX8_all_12 : decode cX8_all 12 = .ok (.iload_n 1, 1) := by decide +kernel
theorem dX8_all_13 : decode cX8_all 13 = .ok (.aload_n 0, 1) := by decide +kernel
theorem dX8_all_14 : decode cX8_all 14 = .ok (.getfield 28, 3) := by decide +kernel
theorem dX8_all_17 : decode cX8_all 17 = .ok (.iload_n 2, 1) := by decide +kernel
theorem dX8_all_18 : decode cX8_all 18 = .ok (.iaload, 1) := by decide +kernel
theorem dX8_all_19 : decode cX8_all 19 = .ok (.iadd, 1) := by decide +kernel
theorem dX8_all_20 : decode cX8_all 20 = .ok (.istore_n 1, 1) := by decide +kernel
theorem dX8_all_21 : decode cX8_all 21 = .ok (.iinc 2 1, 3) := by decide +kernel
theorem dX8_all_24 : decode cX8_all 24 = .ok (.goto (-20), 3) := by decide +kernel
theorem dX8_all_27 : decode cX8_all 27 = .ok (.iload_n 1, 1) := by decide +kernel
theorem dX8_all_28 : decode cX8_all 28 = .ok (.ireturn, 1) := by decide +kernel
set_option maxRecDepth 20000 in
theorem ggX8_works_X8_usesFirst : GoodIn wsX8_works wsX8_usesFirst := goodIn_r _ [12, 1, 30, 31, 32, 33, 34, 35, 36, 37, 38, 39, 40, 41, 42, 43, 44, 45, 46, 47, 48, 49, 50, 51, 52, 53] (by decide +kernel) (by decide +kernel)
set_option maxRecDepth 20000 in
theorem gX8_works_X8_usesFirst : GoodIn wsX8_works (wsV RX8 73 RX8 yX8_usesFirst wsX8_usesFirst) := goodIn_app (goodIn_of _ (by decide +kernel)) ggX8_works_X8_usesFirst
set_option maxRecDepth 20000 in
theorem ggX8_works_X8_usesSecond : GoodIn wsX8_works wsX8_usesSecond := goodIn_r _ [16, 1, 30, 31, 32, 33, 34, 35, 36, 37, 38, 39, 40, 41, 42, 43, 44, 45, 46, 47, 48, 49, 50, 51, 52, 53] (by decide +kernel) (by decide +kernel)
set_option maxRecDepth 20000 in
theorem gX8_works_X8_usesSecond : GoodIn wsX8_works (wsV RX8 77 RX8 yX8_usesSecond wsX8_usesSecond) := goodIn_app (goodIn_of _ (by decide +kernel)) ggX8_works_X8_usesSecond
set_option maxRecDepth 20000 in
theorem ggX8_works_X8_taxed : GoodIn wsX8_works wsX8_taxed := goodIn_r _ [20, 21, 6, 22, 23, 7, 30, 31, 32, 33, 34, 35, 36, 37, 38, 39, 40, 41, 42, 43, 44, 45, 46, 47, 48, 49, 50, 51, 52, 53] (by decide +kernel) (by decide +kernel)
set_option maxRecDepth 20000 in
theorem gX8_works_X8_taxed : GoodIn wsX8_works (wsV RX8 115 RX8 yX8_taxed wsX8_taxed) := goodIn_app (goodIn_of _ (by decide +kernel)) ggX8_works_X8_taxed
set_option maxRecDepth 20000 in
theorem ggX8_works_X8_all : GoodIn wsX8_works wsX8_all := goodIn_r _ [27, 28, 29, 30, 31, 32, 33, 34, 35, 36, 37, 38, 39, 40, 41, 42, 43, 44, 45, 46, 47, 48, 49, 50, 51, 52, 53] (by decide +kernel) (by decide +kernel)
set_option maxRecDepth 20000 in
theorem gX8_works_X8_all : GoodIn wsX8_works (wsV RX8 118 RX8 yX8_all wsX8_all) := goodIn_app (goodIn_of _ (by decide +kernel)) ggX8_works_X8_all
theorem dX8_works_0 : decode cX8_works 0 = .ok (.aload_n 0, 1) := by decide +kernel
theorem dX8_works_1 : decode cX8_works 1 = .ok (.getfield 7, 3) := by decide +kernel
theorem dX8_works_4 : decode cX8_works 4 = .ok (.iload_n 1, 1) := by decide +kernel
theorem dX8_works_5 : decode cX8_works 5 = .ok (.iaload, 1) := by decide +kernel
theorem dX8_works_6 : decode cX8_works 6 = .ok (.istore_n 3, 1) := by decide +kernel
theorem dX8_works_7 : decode cX8_works 7 = .ok (.aload_n 0, 1) := by decide +kernel
theorem dX8_works_8 : decode cX8_works 8 = .ok (.iload_n 1, 1) := by decide +kernel
theorem dX8_works_9 : decode cX8_works 9 = .ok (.invokevirtual 73, 3) := by decide +kernel
theorem dX8_works_12 : decode cX8_works 12 = .ok (.ifCond .eq 19, 3) := by decide +kernel
theorem dX8_works_15 : decode cX8_works 15 = .ok (.aload_n 0, 1) := by decide +kernel
theorem dX8_works_16 : decode cX8_works 16 = .ok (.getfield 40, 3) := by decide +kernel
theorem dX8_works_19 : decode cX8_works 19 = .ok (.iload_n 2, 1) := by decide +kernel
theorem dX8_works_20 : decode cX8_works 20 = .ok (.aload_n 0, 1) := by decide +kernel
theorem dX8_works_21 : decode cX8_works 21 = .ok (.getfield 13, 3) := by decide +kernel
theorem dX8_works_24 : decode cX8_works 24 = .ok (.iload_n 1, 1) := by decide +kernel
theorem dX8_works_25 : decode cX8_works 25 = .ok (.iaload, 1) := by decide +kernel
theorem dX8_works_26 : decode cX8_works 26 = .ok (.iadd, 1) := by decide +kernel
theorem dX8_works_27 : decode cX8_works 27 = .ok (.iaload, 1) := by decide +kernel
theorem dX8_works_28 : decode cX8_works 28 = .ok (.goto 4, 3) := by decide +kernel
theorem dX8_works_31 : decode cX8_works 31 = .ok (.iconst 0, 1) := by decide +kernel
theorem dX8_works_32 : decode cX8_works 32 = .ok (.istore 4, 2) := by decide +kernel
theorem dX8_works_34 : decode cX8_works 34 = .ok (.aload_n 0, 1) := by decide +kernel
theorem dX8_works_35 : decode cX8_works 35 = .ok (.iload_n 1, 1) := by decide +kernel
theorem dX8_works_36 : decode cX8_works 36 = .ok (.invokevirtual 77, 3) := by decide +kernel
theorem dX8_works_39 : decode cX8_works 39 = .ok (.ifCond .eq 19, 3) := by decide +kernel
theorem dX8_works_42 : decode cX8_works 42 = .ok (.aload_n 0, 1) := by decide +kernel
theorem dX8_works_43 : decode cX8_works 43 = .ok (.getfield 40, 3) := by decide +kernel
theorem dX8_works_46 : decode cX8_works 46 = .ok (.iload_n 2, 1) := by decide +kernel
theorem dX8_works_47 : decode cX8_works 47 = .ok (.aload_n 0, 1) := by decide +kernel
theorem dX8_works_48 : decode cX8_works 48 = .ok (.getfield 16, 3) := by decide +kernel
theorem dX8_works_51 : decode cX8_works 51 = .ok (.iload_n 1, 1) := by decide +kernel
theorem dX8_works_52 : decode cX8_works 52 = .ok (.iaload, 1) := by decide +kernel
theorem dX8_works_53 : decode cX8_works 53 = .ok (.iadd, 1) := by decide +kernel
theorem dX8_works_54 : decode cX8_works 54 = .ok (.iaload, 1) := by decide +kernel
theorem dX8_works_55 : decode cX8_works 55 = .ok (.goto 4, 3) := by decide +kernel
theorem dX8_works_58 : decode cX8_works 58 = .ok (.iconst 0, 1) := by decide +kernel
theorem dX8_works_59 : decode cX8_works 59 = .ok (.istore 5, 2) := by decide +kernel
theorem dX8_works_61 : decode cX8_works 61 = .ok (.iload_n 3, 1) := by decide +kernel
theorem dX8_works_62 : decode cX8_works 62 = .ok (.ifCond .ne 10, 3) := by decide +kernel
theorem dX8_works_65 : decode cX8_works 65 = .ok (.aload_n 0, 1) := by decide +kernel
theorem dX8_works_66 : decode cX8_works 66 = .ok (.getfield 19, 3) := by decide +kernel
theorem dX8_works_69 : decode cX8_works 69 = .ok (.iload_n 1, 1) := by decide +kernel
theorem dX8_works_70 : decode cX8_works 70 = .ok (.iaload, 1) := by decide +kernel
theorem dX8_works_71 : decode cX8_works 71 = .ok (.ireturn, 1) := by decide +kernel
theorem dX8_works_72 : decode cX8_works 72 = .ok (.iload_n 3, 1) := by decide +kernel
theorem dX8_works_73 : decode cX8_works 73 = .ok (.iconst 1, 1) := by decide +kernel
theorem dX8_works_74 : decode cX8_works 74 = .ok (.if_icmp .ne 24, 3) := by decide +kernel
theorem dX8_works_77 : decode cX8_works 77 = .ok (.iload 4, 2) := by decide +kernel
theorem dX8_works_79 : decode cX8_works 79 = .ok (.ldc 109, 2) := by decide +kernel
theorem dX8_works_81 : decode cX8_works 81 = .ok (.iload 5, 2) := by decide +kernel
theorem dX8_works_83 : decode cX8_works 83 = .ok (.isub, 1) := by decide +kernel
theorem dX8_works_84 : decode cX8_works 84 = .ok (.if_icmp .le 8, 3) := by decide +kernel
theorem dX8_works_87 : decode cX8_works 87 = .ok (.ldc 109, 2) := by decide +kernel
theorem dX8_works_89 : decode cX8_works 89 = .ok (.goto 8, 3) := by decide +kernel
theorem dX8_works_92 : decode cX8_works 92 = .ok (.iload 4, 2) := by decide +kernel
theorem dX8_works_94 : decode cX8_works 94 = .ok (.iload 5, 2) := by decide +kernel
theorem dX8_works_96 : decode cX8_works 96 = .ok (.iadd, 1) := by decide +kernel
theorem dX8_works_97 : decode cX8_works 97 = .ok (.ireturn, 1) := by decide +kernel
theorem dX8_works_98 : decode cX8_works 98 = .ok (.iload_n 3, 1) := by decide +kernel
theorem dX8_works_99 : decode cX8_works 99 = .ok (.iconst 2, 1) := by decide +kernel
theorem dX8_works_100 : decode cX8_works 100 = .ok (.if_icmp .ne 20, 3) := by decide +kernel
theorem dX8_works_103 : decode cX8_works 103 = .ok (.iload 4, 2) := by decide +kernel
theorem dX8_works_105 : decode cX8_works 105 = .ok (.iload 5, 2) := by decide +kernel
theorem dX8_works_107 : decode cX8_works 107 = .ok (.if_icmp .le 11, 3) := by decide +kernel
theorem dX8_works_110 : decode cX8_works 110 = .ok (.iload 4, 2) := by decide +kernel
theorem dX8_works_112 : decode cX8_works 112 = .ok (.iload 5, 2) := by decide +kernel
theorem dX8_works_114 : decode cX8_works 114 = .ok (.isub, 1) := by decide +kernel
theorem dX8_works_115 : decode cX8_works 115 = .ok (.goto 4, 3) := by decide +kernel
theorem dX8_works_118 : decode cX8_works 118 = .ok (.iconst 0, 1) := by decide +kernel
theorem dX8_works_119 : decode cX8_works 119 = .ok (.ireturn, 1) := by decide +kernel
theorem dX8_works_120 : decode cX8_works 120 = .ok (.iload_n 3, 1) := by decide +kernel
theorem dX8_works_121 : decode cX8_works 121 = .ok (.iconst 3, 1) := by decide +kernel
theorem dX8_works_122 : decode cX8_works 122 = .ok (.if_icmp .ne 20, 3) := by decide +kernel
theorem dX8_works_125 : decode cX8_works 125 = .ok (.iload 4, 2) := by decide +kernel
theorem dX8_works_127 : decode cX8_works 127 = .ok (.i2l, 1) := by decide +kernel
theorem dX8_works_128 : decode cX8_works 128 = .ok (.aload_n 0, 1) := by decide +kernel
theorem dX8_works_129 : decode cX8_works 129 = .ok (.getfield 16, 3) := by decide +kernel
theorem dX8_works_132 : decode cX8_works 132 = .ok (.iload_n 1, 1) := by decide +kernel
theorem dX8_works_133 : decode cX8_works 133 = .ok (.iaload, 1) := by decide +kernel
theorem dX8_works_134 : decode cX8_works 134 = .ok (.i2l, 1) := by decide +kernel
theorem dX8_works_135 : decode cX8_works 135 = .ok (.lmul, 1) := by decide +kernel
theorem dX8_works_136 : decode cX8_works 136 = .ok (.ldc2_w 110, 3) := by decide +kernel
theorem dX8_works_139 : decode cX8_works 139 = .ok (.ldiv, 1) := by decide +kernel
theorem dX8_works_140 : decode cX8_works 140 = .ok (.l2i, 1) := by decide +kernel
theorem dX8_works_141 : decode cX8_works 141 = .ok (.ireturn, 1) := by decide +kernel
theorem dX8_works_142 : decode cX8_works 142 = .ok (.iload_n 3, 1) := by decide +kernel
theorem dX8_works_143 : decode cX8_works 143 = .ok (.iconst 5, 1) := by decide +kernel
theorem dX8_works_144 : decode cX8_works 144 = .ok (.if_icmp .ne 18, 3) := by decide +kernel
theorem dX8_works_147 : decode cX8_works 147 = .ok (.iload 4, 2) := by decide +kernel
theorem dX8_works_149 : decode cX8_works 149 = .ok (.iload 5, 2) := by decide +kernel
theorem dX8_works_151 : decode cX8_works 151 = .ok (.if_icmp .le 8, 3) := by decide +kernel
theorem dX8_works_154 : decode cX8_works 154 = .ok (.iload 4, 2) := by decide +kernel
theorem dX8_works_156 : decode cX8_works 156 = .ok (.goto 5, 3) := by decide +kernel
theorem dX8_works_159 : decode cX8_works 159 = .ok (.iload 5, 2) := by decide +kernel
theorem dX8_works_161 : decode cX8_works 161 = .ok (.ireturn, 1) := by decide +kernel
theorem dX8_works_162 : decode cX8_works 162 = .ok (.iload_n 3, 1) := by decide +kernel
theorem dX8_works_163 : decode cX8_works 163 = .ok (.bipush 6, 2) := by decide +kernel
theorem dX8_works_165 : decode cX8_works 165 = .ok (.if_icmp .ne 10, 3) := by decide +kernel
theorem dX8_works_168 : decode cX8_works 168 = .ok (.aload_n 0, 1) := by decide +kernel
theorem dX8_works_169 : decode cX8_works 169 = .ok (.iload 4, 2) := by decide +kernel
theorem dX8_works_171 : decode cX8_works 171 = .ok (.invokevirtual 115, 3) := by decide +kernel
theorem dX8_works_174 : decode cX8_works 174 = .ok (.ireturn, 1) := by decide +kernel
theorem dX8_works_175 : decode cX8_works 175 = .ok (.iload_n 3, 1) := by decide +kernel
theorem dX8_works_176 : decode cX8_works 176 = .ok (.bipush 7, 2) := by decide +kernel
theorem dX8_works_178 : decode cX8_works 178 = .ok (.if_icmp .ne 10, 3) := by decide +kernel
theorem dX8_works_181 : decode cX8_works 181 = .ok (.aload_n 0, 1) := by decide +kernel
theorem dX8_works_182 : decode cX8_works 182 = .ok (.invokevirtual 118, 3) := by decide +kernel
theorem dX8_works_185 : decode cX8_works 185 = .ok (.goto 5, 3) := by decide +kernel
theorem dX8_works_188 : decode cX8_works 188 = .ok (.iload 5, 2) := by decide +kernel
theorem dX8_works_190 : decode cX8_works 190 = .ok (.istore 6, 2) := by decide +kernel
theorem dX8_works_192 : decode cX8_works 192 = .ok (.iload 4, 2) := by decide +kernel
theorem dX8_works_194 : decode cX8_works 194 = .ok (.iload 6, 2) := by decide +kernel
theorem dX8_works_196 : decode cX8_works 196 = .ok (.if_icmp .ge 8, 3) := by decide +kernel
theorem dX8_works_199 : decode cX8_works 199 = .ok (.iload 4, 2) := by decide +kernel
theorem dX8_works_201 : decode cX8_works 201 = .ok (.goto 5, 3) := by decide +kernel
theorem dX8_works_204 : decode cX8_works 204 = .ok (.iload 6, 2) := by decide +kernel
theorem dX8_works_206 : decode cX8_works 206 = .ok (.ireturn, 1) := by decide +kernel
set_option maxRecDepth 20000 in
theorem ggX8_passes_X8_usesFirst : GoodIn wsX8_passes wsX8_usesFirst := goodIn_r _ [9, 10, 35, 36, 37, 38, 39, 40, 41, 42, 43, 44, 45, 46, 47, 48, 49, 50, 51, 52, 53, 54, 55, 56, 57, 58] (by decide +kernel) (by decide +kernel)
set_option maxRecDepth 20000 in
theorem gX8_passes_X8_usesFirst : GoodIn wsX8_passes (wsV RX8 73 RX8 yX8_usesFirst wsX8_usesFirst) := goodIn_app (goodIn_of _ (by decide +kernel)) ggX8_passes_X8_usesFirst
set_option maxRecDepth 20000 in
theorem ggX8_passes_X8_usesSecond : GoodIn wsX8_passes wsX8_usesSecond := goodIn_r _ [14, 10, 35, 36, 37, 38, 39, 40, 41, 42, 43, 44, 45, 46, 47, 48, 49, 50, 51, 52, 53, 54, 55, 56, 57, 58] (by decide +kernel) (by decide +kernel)
set_option maxRecDepth 20000 in
theorem gX8_passes_X8_usesSecond : GoodIn wsX8_passes (wsV RX8 77 RX8 yX8_usesSecond wsX8_usesSecond) := goodIn_app (goodIn_of _ (by decide +kernel)) ggX8_passes_X8_usesSecond
set_option maxRecDepth 20000 in
theorem ggX8_passes_X8_works : GoodIn wsX8_passes wsX8_works := goodIn_r _ [18, 10, 4, 2, 3, 19, 20, 21, 5, 6, 7, 8, 9, 11, 12, 13, 14, 22, 23, 24, 25, 26, 27, 28, 29, 30, 31, 32, 33, 34, 35, 36, 37, 38, 39, 40, 41, 42, 43, 44, 45, 46, 47, 48, 49, 50, 51, 52, 53, 54, 55, 56, 57, 58] (by decide +kernel) (by decide +kernel)
set_option maxRecDepth 20000 in
theorem gX8_passes_X8_works : GoodIn wsX8_passes (wsV RX8 122 RX8 yX8_works wsX8_works) := goodIn_app (goodIn_of _ (by decide +kernel)) ggX8_passes_X8_works
theorem dX8_passes_0 : decode cX8_passes 0 = .ok (.iconst 0, 1) := by decide +kernel
theorem dX8_passes_1 : decode cX8_passes 1 = .ok (.istore_n 2, 1) := by decide +kernel
theorem dX8_passes_2 : decode cX8_passes 2 = .ok (.iload_n 2, 1) := by decide +kernel
theorem dX8_passes_3 : decode cX8_passes 3 = .ok (.bipush 16, 2) := by decide +kernel
theorem dX8_passes_5 : decode cX8_passes 5 = .ok (.if_icmp .ge 127, 3) := by decide +kernel
theorem dX8_passes_8 : decode cX8_passes 8 = .ok (.iconst 0, 1) := by decide +kernel
theorem dX8_passes_9 : decode cX8_passes 9 = .ok (.istore_n 3, 1) := by decide +kernel
theorem dX8_passes_10 : decode cX8_passes 10 = .ok (.iload_n 3, 1) := by decide +kernel
theorem dX8_passes_11 : decode cX8_passes 11 = .ok (.bipush 16, 2) := by decide +kernel
theorem dX8_passes_13 : decode cX8_passes 13 = .ok (.if_icmp .ge 113, 3) := by decide +kernel
theorem dX8_passes_16 : decode cX8_passes 16 = .ok (.aload_n 0, 1) := by decide +kernel
theorem dX8_passes_17 : decode cX8_passes 17 = .ok (.iload_n 3, 1) := by decide +kernel
theorem dX8_passes_18 : decode cX8_passes 18 = .ok (.invokevirtual 73, 3) := by decide +kernel
theorem dX8_passes_21 : decode cX8_passes 21 = .ok (.ifCond .eq 19, 3) := by decide +kernel
theorem dX8_passes_24 : decode cX8_passes 24 = .ok (.aload_n 0, 1) := by decide +kernel
theorem dX8_passes_25 : decode cX8_passes 25 = .ok (.getfield 43, 3) := by decide +kernel
theorem dX8_passes_28 : decode cX8_passes 28 = .ok (.iload_n 1, 1) := by decide +kernel
theorem dX8_passes_29 : decode cX8_passes 29 = .ok (.aload_n 0, 1) := by decide +kernel
theorem dX8_passes_30 : decode cX8_passes 30 = .ok (.getfield 13, 3) := by decide +kernel
theorem dX8_passes_33 : decode cX8_passes 33 = .ok (.iload_n 3, 1) := by decide +kernel
theorem dX8_passes_34 : decode cX8_passes 34 = .ok (.iaload, 1) := by decide +kernel
theorem dX8_passes_35 : decode cX8_passes 35 = .ok (.iadd, 1) := by decide +kernel
theorem dX8_passes_36 : decode cX8_passes 36 = .ok (.baload, 1) := by decide +kernel
theorem dX8_passes_37 : decode cX8_passes 37 = .ok (.ifCond .eq 7, 3) := by decide +kernel
theorem dX8_passes_40 : decode cX8_passes 40 = .ok (.iconst 1, 1) := by decide +kernel
theorem dX8_passes_41 : decode cX8_passes 41 = .ok (.goto 4, 3) := by decide +kernel
theorem dX8_passes_44 : decode cX8_passes 44 = .ok (.iconst 0, 1) := by decide +kernel
theorem dX8_passes_45 : decode cX8_passes 45 = .ok (.istore 4, 2) := by decide +kernel
theorem dX8_passes_47 : decode cX8_passes 47 = .ok (.iload 4, 2) := by decide +kernel
theorem dX8_passes_49 : decode cX8_passes 49 = .ok (.aload_n 0, 1) := by decide +kernel
theorem dX8_passes_50 : decode cX8_passes 50 = .ok (.iload_n 3, 1) := by decide +kernel
theorem dX8_passes_51 : decode cX8_passes 51 = .ok (.invokevirtual 77, 3) := by decide +kernel
theorem dX8_passes_54 : decode cX8_passes 54 = .ok (.ifCond .eq 19, 3) := by decide +kernel
theorem dX8_passes_57 : decode cX8_passes 57 = .ok (.aload_n 0, 1) := by decide +kernel
theorem dX8_passes_58 : decode cX8_passes 58 = .ok (.getfield 43, 3) := by decide +kernel
theorem dX8_passes_61 : decode cX8_passes 61 = .ok (.iload_n 1, 1) := by decide +kernel
theorem dX8_passes_62 : decode cX8_passes 62 = .ok (.aload_n 0, 1) := by decide +kernel
theorem dX8_passes_63 : decode cX8_passes 63 = .ok (.getfield 16, 3) := by decide +kernel
theorem dX8_passes_66 : decode cX8_passes 66 = .ok (.iload_n 3, 1) := by decide +kernel
theorem dX8_passes_67 : decode cX8_passes 67 = .ok (.iaload, 1) := by decide +kernel
theorem dX8_passes_68 : decode cX8_passes 68 = .ok (.iadd, 1) := by decide +kernel
theorem dX8_passes_69 : decode cX8_passes 69 = .ok (.baload, 1) := by decide +kernel
theorem dX8_passes_70 : decode cX8_passes 70 = .ok (.ifCond .eq 7, 3) := by decide +kernel
theorem dX8_passes_73 : decode cX8_passes 73 = .ok (.iconst 1, 1) := by decide +kernel
theorem dX8_passes_74 : decode cX8_passes 74 = .ok (.goto 4, 3) := by decide +kernel
theorem dX8_passes_77 : decode cX8_passes 77 = .ok (.iconst 0, 1) := by decide +kernel
theorem dX8_passes_78 : decode cX8_passes 78 = .ok (.iand, 1) := by decide +kernel
theorem dX8_passes_79 : decode cX8_passes 79 = .ok (.istore 4, 2) := by decide +kernel
theorem dX8_passes_81 : decode cX8_passes 81 = .ok (.iload 4, 2) := by decide +kernel
theorem dX8_passes_83 : decode cX8_passes 83 = .ok (.ifCond .eq 37, 3) := by decide +kernel
theorem dX8_passes_86 : decode cX8_passes 86 = .ok (.aload_n 0, 1) := by decide +kernel
theorem dX8_passes_87 : decode cX8_passes 87 = .ok (.getfield 43, 3) := by decide +kernel
theorem dX8_passes_90 : decode cX8_passes 90 = .ok (.iload_n 1, 1) := by decide +kernel
theorem dX8_passes_91 : decode cX8_passes 91 = .ok (.iload_n 3, 1) := by decide +kernel
theorem dX8_passes_92 : decode cX8_passes 92 = .ok (.iadd, 1) := by decide +kernel
theorem dX8_passes_93 : decode cX8_passes 93 = .ok (.baload, 1) := by decide +kernel
theorem dX8_passes_94 : decode cX8_passes 94 = .ok (.ifCond .ne 26, 3) := by decide +kernel
theorem dX8_passes_97 : decode cX8_passes 97 = .ok (.aload_n 0, 1) := by decide +kernel
theorem dX8_passes_98 : decode cX8_passes 98 = .ok (.getfield 40, 3) := by decide +kernel
theorem dX8_passes_101 : decode cX8_passes 101 = .ok (.iload_n 1, 1) := by decide +kernel
theorem dX8_passes_102 : decode cX8_passes 102 = .ok (.iload_n 3, 1) := by decide +kernel
theorem dX8_passes_103 : decode cX8_passes 103 = .ok (.iadd, 1) := by decide +kernel
theorem dX8_passes_104 : decode cX8_passes 104 = .ok (.aload_n 0, 1) := by decide +kernel
theorem dX8_passes_105 : decode cX8_passes 105 = .ok (.iload_n 3, 1) := by decide +kernel
theorem dX8_passes_106 : decode cX8_passes 106 = .ok (.iload_n 1, 1) := by decide +kernel
theorem dX8_passes_107 : decode cX8_passes 107 = .ok (.invokevirtual 122, 3) := by decide +kernel
theorem dX8_passes_110 : decode cX8_passes 110 = .ok (.iastore, 1) := by decide +kernel
theorem dX8_passes_111 : decode cX8_passes 111 = .ok (.aload_n 0, 1) := by decide +kernel
theorem dX8_passes_112 : decode cX8_passes 112 = .ok (.getfield 43, 3) := by decide +kernel
theorem dX8_passes_115 : decode cX8_passes 115 = .ok (.iload_n 1, 1) := by decide +kernel
theorem dX8_passes_116 : decode cX8_passes 116 = .ok (.iload_n 3, 1) := by decide +kernel
theorem dX8_passes_117 : decode cX8_passes 117 = .ok (.iadd, 1) := by decide +kernel
theorem dX8_passes_118 : decode cX8_passes 118 = .ok (.iconst 1, 1) := by decide +kernel
theorem dX8_passes_119 : decode cX8_passes 119 = .ok (.bastore, 1) := by decide +kernel
theorem dX8_passes_120 : decode cX8_passes 120 = .ok (.iinc 3 1, 3) := by decide +kernel
theorem dX8_passes_123 : decode cX8_passes 123 = .ok (.goto (-113), 3) := by decide +kernel
theorem dX8_passes_126 : decode cX8_passes 126 = .ok (.iinc 2 1, 3) := by decide +kernel
theorem dX8_passes_129 : decode cX8_passes 129 = .ok (.goto (-127), 3) := by decide +kernel
theorem dX8_passes_132 : decode cX8_passes 132 = .ok (.return_, 1) := by decide +kernel
set_option maxRecDepth 20000 in
theorem ggX8_tries_X8_passes : GoodIn wsX8_tries wsX8_passes := goodIn_r _ [8, 2, 9, 3, 1, 10, 11, 12, 7, 13, 14, 15, 16, 17, 18, 19, 20, 21, 22, 23, 24, 25, 26, 27, 28, 29, 30, 31, 32, 33, 34, 35, 36, 37, 38, 39, 40, 41, 42, 43, 44, 45, 46, 47, 48, 49, 50, 51, 52, 53, 54, 55, 56, 57, 58, 59, 60, 61, 62] (by decide +kernel) (by decide +kernel)
set_option maxRecDepth 20000 in
theorem gX8_tries_X8_passes : GoodIn wsX8_tries (wsV RX8 126 RX8 yX8_passes wsX8_passes) := goodIn_app (goodIn_of _ (by decide +kernel)) ggX8_tries_X8_passes
theorem dX8_tries_0 : decode cX8_tries 0 = .ok (.iconst 0, 1) := by decide +kernel
theorem dX8_tries_1 : decode cX8_tries 1 = .ok (.istore_n 3, 1) := by decide +kernel
theorem dX8_tries_2 : decode cX8_tries 2 = .ok (.iload_n 3, 1) := by decide +kernel
theorem dX8_tries_3 : decode cX8_tries 3 = .ok (.bipush 16, 2) := by decide +kernel
theorem dX8_tries_5 : decode cX8_tries 5 = .ok (.if_icmp .ge 39, 3) := by decide +kernel
theorem dX8_tries_8 : decode cX8_tries 8 = .ok (.aload_n 0, 1) := by decide +kernel
theorem dX8_tries_9 : decode cX8_tries 9 = .ok (.getfield 40, 3) := by decide +kernel
theorem dX8_tries_12 : decode cX8_tries 12 = .ok (.bipush 16, 2) := by decide +kernel
theorem dX8_tries_14 : decode cX8_tries 14 = .ok (.iload_n 3, 1) := by decide +kernel
theorem dX8_tries_15 : decode cX8_tries 15 = .ok (.iadd, 1) := by decide +kernel
theorem dX8_tries_16 : decode cX8_tries 16 = .ok (.aload_n 0, 1) := by decide +kernel
theorem dX8_tries_17 : decode cX8_tries 17 = .ok (.getfield 40, 3) := by decide +kernel
theorem dX8_tries_20 : decode cX8_tries 20 = .ok (.iload_n 3, 1) := by decide +kernel
theorem dX8_tries_21 : decode cX8_tries 21 = .ok (.iaload, 1) := by decide +kernel
theorem dX8_tries_22 : decode cX8_tries 22 = .ok (.iastore, 1) := by decide +kernel
theorem dX8_tries_23 : decode cX8_tries 23 = .ok (.aload_n 0, 1) := by decide +kernel
theorem dX8_tries_24 : decode cX8_tries 24 = .ok (.getfield 43, 3) := by decide +kernel
theorem dX8_tries_27 : decode cX8_tries 27 = .ok (.bipush 16, 2) := by decide +kernel
theorem dX8_tries_29 : decode cX8_tries 29 = .ok (.iload_n 3, 1) := by decide +kernel
theorem dX8_tries_30 : decode cX8_tries 30 = .ok (.iadd, 1) := by decide +kernel
theorem dX8_tries_31 : decode cX8_tries 31 = .ok (.aload_n 0, 1) := by decide +kernel
theorem dX8_tries_32 : decode cX8_tries 32 = .ok (.getfield 43, 3) := by decide +kernel
theorem dX8_tries_35 : decode cX8_tries 35 = .ok (.iload_n 3, 1) := by decide +kernel
theorem dX8_tries_36 : decode cX8_tries 36 = .ok (.baload, 1) := by decide +kernel
theorem dX8_tries_37 : decode cX8_tries 37 = .ok (.bastore, 1) := by decide +kernel
theorem dX8_tries_38 : decode cX8_tries 38 = .ok (.iinc 3 1, 3) := by decide +kernel
theorem dX8_tries_41 : decode cX8_tries 41 = .ok (.goto (-39), 3) := by decide +kernel
theorem dX8_tries_44 : decode cX8_tries 44 = .ok (.aload_n 0, 1) := by decide +kernel
theorem dX8_tries_45 : decode cX8_tries 45 = .ok (.getfield 40, 3) := by decide +kernel
theorem dX8_tries_48 : decode cX8_tries 48 = .ok (.bipush 16, 2) := by decide +kernel
theorem dX8_tries_50 : decode cX8_tries 50 = .ok (.iload_n 1, 1) := by decide +kernel
theorem dX8_tries_51 : decode cX8_tries 51 = .ok (.iadd, 1) := by decide +kernel
theorem dX8_tries_52 : decode cX8_tries 52 = .ok (.iload_n 2, 1) := by decide +kernel
theorem dX8_tries_53 : decode cX8_tries 53 = .ok (.iastore, 1) := by decide +kernel
theorem dX8_tries_54 : decode cX8_tries 54 = .ok (.aload_n 0, 1) := by decide +kernel
theorem dX8_tries_55 : decode cX8_tries 55 = .ok (.getfield 43, 3) := by decide +kernel
theorem dX8_tries_58 : decode cX8_tries 58 = .ok (.bipush 16, 2) := by decide +kernel
theorem dX8_tries_60 : decode cX8_tries 60 = .ok (.iload_n 1, 1) := by decide +kernel
theorem dX8_tries_61 : decode cX8_tries 61 = .ok (.iadd, 1) := by decide +kernel
theorem dX8_tries_62 : decode cX8_tries 62 = .ok (.iconst 1, 1) := by decide +kernel
theorem dX8_tries_63 : decode cX8_tries 63 = .ok (.bastore, 1) := by decide +kernel
theorem dX8_tries_64 : decode cX8_tries 64 = .ok (.aload_n 0, 1) := by decide +kernel
theorem dX8_tries_65 : decode cX8_tries 65 = .ok (.bipush 16, 2) := by decide +kernel
theorem dX8_tries_67 : decode cX8_tries 67 = .ok (.invokevirtual 126, 3) := by decide +kernel
theorem dX8_tries_70 : decode cX8_tries 70 = .ok (.aload_n 0, 1) := by decide +kernel
theorem dX8_tries_71 : decode cX8_tries 71 = .ok (.getfield 43, 3) := by decide +kernel
theorem dX8_tries_74 : decode cX8_tries 74 = .ok (.bipush 16, 2) := by decide +kernel
theorem dX8_tries_76 : decode cX8_tries 76 = .ok (.aload_n 0, 1) := by decide +kernel
theorem dX8_tries_77 : decode cX8_tries 77 = .ok (.getfield 16, 3) := by decide +kernel
theorem dX8_tries_80 : decode cX8_tries 80 = .ok (.iload_n 1, 1) := by decide +kernel
theorem dX8_tries_81 : decode cX8_tries 81 = .ok (.iaload, 1) := by decide +kernel
theorem dX8_tries_82 : decode cX8_tries 82 = .ok (.iadd, 1) := by decide +kernel
theorem dX8_tries_83 : decode cX8_tries 83 = .ok (.baload, 1) := by decide +kernel
theorem dX8_tries_84 : decode cX8_tries 84 = .ok (.ireturn, 1) := by decide +kernel
set_option maxRecDepth 20000 in
theorem ggX8_halves_X8_tries : GoodIn wsX8_halves wsX8_tries := goodIn_r _ [9, 1, 4, 3, 10, 11, 12, 8, 13, 2, 14, 15, 16, 17, 18, 19, 20, 21, 22, 23, 24, 25, 26, 27, 28, 29, 30, 31, 32, 33, 34, 35, 36, 37, 38, 39, 40, 41, 42, 43, 44, 45, 46, 47, 48, 49, 50, 51, 52, 53, 54, 55, 56, 57, 58, 59, 60, 61, 62, 63, 64, 65, 66] (by decide +kernel) (by decide +kernel)
set_option maxRecDepth 20000 in
theorem gX8_halves_X8_tries : GoodIn wsX8_halves (wsV RX8 129 RX8 yX8_tries wsX8_tries) := goodIn_app (goodIn_of _ (by decide +kernel)) ggX8_halves_X8_tries
theorem dX8_halves_0 : decode cX8_halves 0 = .ok (.iconst 0, 1) := by decide +kernel
theorem dX8_halves_1 : decode cX8_halves 1 = .ok (.istore_n 2, 1) := by decide +kernel
theorem dX8_halves_2 : decode cX8_halves 2 = .ok (.aload_n 0, 1) := by decide +kernel
theorem dX8_halves_3 : decode cX8_halves 3 = .ok (.getfield 40, 3) := by decide +kernel
theorem dX8_halves_6 : decode cX8_halves 6 = .ok (.aload_n 0, 1) := by decide +kernel
theorem dX8_halves_7 : decode cX8_halves 7 = .ok (.getfield 13, 3) := by decide +kernel
theorem dX8_halves_10 : decode cX8_halves 10 = .ok (.iload_n 1, 1) := by decide +kernel
theorem dX8_halves_11 : decode cX8_halves 11 = .ok (.iaload, 1) := by decide +kernel
theorem dX8_halves_12 : decode cX8_halves 12 = .ok (.iaload, 1) := by decide +kernel
theorem dX8_halves_13 : decode cX8_halves 13 = .ok (.istore_n 3, 1) := by decide +kernel
theorem dX8_halves_14 : decode cX8_halves 14 = .ok (.iload_n 2, 1) := by decide +kernel
theorem dX8_halves_15 : decode cX8_halves 15 = .ok (.iload_n 3, 1) := by decide +kernel
theorem dX8_halves_16 : decode cX8_halves 16 = .ok (.if_icmp .ge 53, 3) := by decide +kernel
theorem dX8_halves_19 : decode cX8_halves 19 = .ok (.iload_n 3, 1) := by decide +kernel
theorem dX8_halves_20 : decode cX8_halves 20 = .ok (.iload_n 3, 1) := by decide +kernel
theorem dX8_halves_21 : decode cX8_halves 21 = .ok (.iload_n 2, 1) := by decide +kernel
theorem dX8_halves_22 : decode cX8_halves 22 = .ok (.isub, 1) := by decide +kernel
theorem dX8_halves_23 : decode cX8_halves 23 = .ok (.iconst 2, 1) := by decide +kernel
theorem dX8_halves_24 : decode cX8_halves 24 = .ok (.idiv, 1) := by decide +kernel
theorem dX8_halves_25 : decode cX8_halves 25 = .ok (.isub, 1) := by decide +kernel
theorem dX8_halves_26 : decode cX8_halves 26 = .ok (.istore 4, 2) := by decide +kernel
theorem dX8_halves_28 : decode cX8_halves 28 = .ok (.aload_n 0, 1) := by decide +kernel
theorem dX8_halves_29 : decode cX8_halves 29 = .ok (.iload_n 1, 1) := by decide +kernel
theorem dX8_halves_30 : decode cX8_halves 30 = .ok (.iload 4, 2) := by decide +kernel
theorem dX8_halves_32 : decode cX8_halves 32 = .ok (.invokevirtual 129, 3) := by decide +kernel
theorem dX8_halves_35 : decode cX8_halves 35 = .ok (.pop, 1) := by decide +kernel
theorem dX8_halves_36 : decode cX8_halves 36 = .ok (.iload 4, 2) := by decide +kernel
theorem dX8_halves_38 : decode cX8_halves 38 = .ok (.aload_n 0, 1) := by decide +kernel
theorem dX8_halves_39 : decode cX8_halves 39 = .ok (.getfield 40, 3) := by decide +kernel
theorem dX8_halves_42 : decode cX8_halves 42 = .ok (.bipush 16, 2) := by decide +kernel
theorem dX8_halves_44 : decode cX8_halves 44 = .ok (.aload_n 0, 1) := by decide +kernel
theorem dX8_halves_45 : decode cX8_halves 45 = .ok (.getfield 16, 3) := by decide +kernel
theorem dX8_halves_48 : decode cX8_halves 48 = .ok (.iload_n 1, 1) := by decide +kernel
theorem dX8_halves_49 : decode cX8_halves 49 = .ok (.iaload, 1) := by decide +kernel
theorem dX8_halves_50 : decode cX8_halves 50 = .ok (.iadd, 1) := by decide +kernel
theorem dX8_halves_51 : decode cX8_halves 51 = .ok (.iaload, 1) := by decide +kernel
theorem dX8_halves_52 : decode cX8_halves 52 = .ok (.if_icmp .gt 9, 3) := by decide +kernel
theorem dX8_halves_55 : decode cX8_halves 55 = .ok (.iload 4, 2) := by decide +kernel
theorem dX8_halves_57 : decode cX8_halves 57 = .ok (.istore_n 2, 1) := by decide +kernel
theorem dX8_halves_58 : decode cX8_halves 58 = .ok (.goto 8, 3) := by decide +kernel
theorem dX8_halves_61 : decode cX8_halves 61 = .ok (.iload 4, 2) := by decide +kernel
theorem dX8_halves_63 : decode cX8_halves 63 = .ok (.iconst 1, 1) := by decide +kernel
theorem dX8_halves_64 : decode cX8_halves 64 = .ok (.isub, 1) := by decide +kernel
theorem dX8_halves_65 : decode cX8_halves 65 = .ok (.istore_n 3, 1) := by decide +kernel
theorem dX8_halves_66 : decode cX8_halves 66 = .ok (.goto (-52), 3) := by decide +kernel
theorem dX8_halves_69 : decode cX8_halves 69 = .ok (.aload_n 0, 1) := by decide +kernel
theorem dX8_halves_70 : decode cX8_halves 70 = .ok (.getfield 40, 3) := by decide +kernel
theorem dX8_halves_73 : decode cX8_halves 73 = .ok (.iload_n 1, 1) := by decide +kernel
theorem dX8_halves_74 : decode cX8_halves 74 = .ok (.iload_n 2, 1) := by decide +kernel
theorem dX8_halves_75 : decode cX8_halves 75 = .ok (.iastore, 1) := by decide +kernel
theorem dX8_halves_76 : decode cX8_halves 76 = .ok (.aload_n 0, 1) := by decide +kernel
theorem dX8_halves_77 : decode cX8_halves 77 = .ok (.getfield 43, 3) := by decide +kernel
theorem dX8_halves_80 : decode cX8_halves 80 = .ok (.iload_n 1, 1) := by decide +kernel
theorem dX8_halves_81 : decode cX8_halves 81 = .ok (.iconst 1, 1) := by decide +kernel
theorem dX8_halves_82 : decode cX8_halves 82 = .ok (.bastore, 1) := by decide +kernel
theorem dX8_halves_83 : decode cX8_halves 83 = .ok (.return_, 1) := by decide +kernel
set_option maxRecDepth 20000 in
theorem ggX8_solves_X8_passes : GoodIn wsX8_solves wsX8_passes := goodIn_r _ [9, 1, 4, 10, 2, 11, 12, 13, 8, 14, 3, 15, 16, 17, 18, 19, 20, 21, 22, 23, 24, 25, 26, 27, 28, 29, 30, 31, 32, 33, 34, 35, 36, 37, 38, 47, 48, 49, 50, 51, 52, 53, 54, 55, 56, 57, 58, 59, 60, 61, 62, 63, 64, 65, 66, 67, 68, 69, 70] (by decide +kernel) (by decide +kernel)
set_option maxRecDepth 20000 in
theorem gX8_solves_X8_passes : GoodIn wsX8_solves (wsV RX8 126 RX8 yX8_passes wsX8_passes) := goodIn_app (goodIn_of _ (by decide +kernel)) ggX8_solves_X8_passes
set_option maxRecDepth 20000 in
theorem ggX8_solves_X8_tries : GoodIn wsX8_solves wsX8_tries := goodIn_r _ [42, 2, 1, 10, 5, 6, 7, 8, 9, 4, 11, 12, 13, 14, 3, 15, 16, 17, 18, 19, 20, 21, 22, 23, 24, 25, 26, 27, 28, 29, 30, 31, 32, 33, 34, 35, 36, 37, 38, 47, 48, 49, 50, 51, 52, 53, 54, 55, 56, 57, 58, 59, 60, 61, 62, 63, 64, 65, 66, 67, 68, 69, 70] (by decide +kernel) (by decide +kernel)
set_option maxRecDepth 20000 in
theorem gX8_solves_X8_tries : GoodIn wsX8_solves (wsV RX8 129 RX8 yX8_tries wsX8_tries) := goodIn_app (goodIn_of _ (by decide +kernel)) ggX8_solves_X8_tries
set_option maxRecDepth 20000 in
theorem ggX8_solves_X8_halves : GoodIn wsX8_solves wsX8_halves := goodIn_r _ [46, 2, 4, 10, 1, 39, 40, 41, 8, 42, 5, 6, 7, 9, 11, 12, 13, 14, 3, 15, 16, 17, 18, 19, 20, 21, 22, 23, 24, 25, 26, 27, 28, 29, 30, 31, 32, 33, 34, 35, 36, 37, 38, 47, 48, 49, 50, 51, 52, 53, 54, 55, 56, 57, 58, 59, 60, 61, 62, 63, 64, 65, 66, 67, 68, 69, 70] (by decide +kernel) (by decide +kernel)
set_option maxRecDepth 20000 in
theorem gX8_solves_X8_halves : GoodIn wsX8_solves (wsV RX8 132 RX8 yX8_halves wsX8_halves) := goodIn_app (goodIn_of _ (by decide +kernel)) ggX8_solves_X8_halves
theorem dX8_solves_0 : decode cX8_solves 0 = .ok (.iconst 0, 1) := by decide +kernel
theorem dX8_solves_1 : decode cX8_solves 1 = .ok (.istore_n 3, 1) := by decide +kernel
theorem dX8_solves_2 : decode cX8_solves 2 = .ok (.iload_n 3, 1) := by decide +kernel
theorem dX8_solves_3 : decode cX8_solves 3 = .ok (.bipush 16, 2) := by decide +kernel
theorem dX8_solves_5 : decode cX8_solves 5 = .ok (.if_icmp .ge 41, 3) := by decide +kernel
theorem dX8_solves_8 : decode cX8_solves 8 = .ok (.aload_n 0, 1) := by decide +kernel
theorem dX8_solves_9 : decode cX8_solves 9 = .ok (.getfield 43, 3) := by decide +kernel
theorem dX8_solves_12 : decode cX8_solves 12 = .ok (.iload_n 3, 1) := by decide +kernel
theorem dX8_solves_13 : decode cX8_solves 13 = .ok (.iload_n 3, 1) := by decide +kernel
theorem dX8_solves_14 : decode cX8_solves 14 = .ok (.iload_n 1, 1) := by decide +kernel
theorem dX8_solves_15 : decode cX8_solves 15 = .ok (.if_icmp .ne 7, 3) := by decide +kernel
theorem dX8_solves_18 : decode cX8_solves 18 = .ok (.iconst 1, 1) := by decide +kernel
theorem dX8_solves_19 : decode cX8_solves 19 = .ok (.goto 4, 3) := by decide +kernel
theorem dX8_solves_22 : decode cX8_solves 22 = .ok (.iconst 0, 1) := by decide +kernel
theorem dX8_solves_23 : decode cX8_solves 23 = .ok (.bastore, 1) := by decide +kernel
theorem dX8_solves_24 : decode cX8_solves 24 = .ok (.aload_n 0, 1) := by decide +kernel
theorem dX8_solves_25 : decode cX8_solves 25 = .ok (.getfield 40, 3) := by decide +kernel
theorem dX8_solves_28 : decode cX8_solves 28 = .ok (.iload_n 3, 1) := by decide +kernel
theorem dX8_solves_29 : decode cX8_solves 29 = .ok (.iload_n 3, 1) := by decide +kernel
theorem dX8_solves_30 : decode cX8_solves 30 = .ok (.iload_n 1, 1) := by decide +kernel
theorem dX8_solves_31 : decode cX8_solves 31 = .ok (.if_icmp .ne 7, 3) := by decide +kernel
theorem dX8_solves_34 : decode cX8_solves 34 = .ok (.iload_n 2, 1) := by decide +kernel
theorem dX8_solves_35 : decode cX8_solves 35 = .ok (.goto 4, 3) := by decide +kernel
