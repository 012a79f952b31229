theorem dX0_init_0 : decode cX0_init 0 = .ok (.aload_n 0, 1) := by decide +kernel
theorem dX0_init_1 : decode cX0_init 1 = .ok (.invokespecial 3, 3) := by decide +kernel
theorem dX0_init_4 : decode cX0_init 4 = .ok (.aload_n 0, 1) := by decide +kernel
theorem dX0_init_5 : decode cX0_init 5 = .ok (.bipush 37, 2) := by decide +kernel
theorem dX0_init_7 : decode cX0_init 7 = .ok (.newarray .int, 2) := by decide +kernel
theorem dX0_init_9 : decode cX0_init 9 = .ok (.putfield 9, 3) := by decide +kernel
theorem dX0_init_12 : decode cX0_init 12 = .ok (.return_, 1) := by decide +kernel
set_option maxRecDepth 20000 in
theorem ggX0_countFor_X7_cells : GoodIn wsX0_countFor wsX7_cells := goodIn_r _ [6, 7, 8, 9, 5, 10, 11, 41] (by decide +kernel) (by decide +kernel)
set_option maxRecDepth 20000 in
theorem gX0_countFor_X7_cells : GoodIn wsX0_countFor (wsV RX0 15 RX7 yX7_cells wsX7_cells) := goodIn_app (goodIn_of _ (by decide +kernel)) ggX0_countFor_X7_cells
set_option maxRecDepth 20000 in
theorem ggX0_countFor_X0_divideByHooks : GoodIn wsX0_countFor wsX0_divideByHooks := goodIn_r _ [16, 1, 17, 18, 19, 5, 20, 21, 22, 23, 24, 11, 25, 26, 27, 28, 7, 8, 9, 10, 29, 30, 31, 32, 40, 41] (by decide +kernel) (by decide +kernel)
set_option maxRecDepth 20000 in
theorem gX0_countFor_X0_divideByHooks : GoodIn wsX0_countFor (wsV RX0 21 RX0 yX0_divideByHooks wsX0_divideByHooks) := goodIn_app (goodIn_of _ (by decide +kernel)) ggX0_countFor_X0_divideByHooks
set_option maxRecDepth 20000 in
theorem ggX0_countFor_X0_powerOf : GoodIn wsX0_countFor wsX0_powerOf := goodIn_r _ [36, 1, 37, 38, 15, 39, 40] (by decide +kernel) (by decide +kernel)
set_option maxRecDepth 20000 in
theorem gX0_countFor_X0_powerOf : GoodIn wsX0_countFor (wsV RX0 28 RX0 yX0_powerOf wsX0_powerOf) := goodIn_app (goodIn_of _ (by decide +kernel)) ggX0_countFor_X0_powerOf
theorem dX0_countFor_0 : decode cX0_countFor 0 = .ok (.aload_n 1, 1) := by decide +kernel
theorem dX0_countFor_1 : decode cX0_countFor 1 = .ok (.invokevirtual 15, 3) := by decide +kernel
theorem dX0_countFor_4 : decode cX0_countFor 4 = .ok (.istore_n 2, 1) := by decide +kernel
theorem dX0_countFor_5 : decode cX0_countFor 5 = .ok (.iconst 0, 1) := by decide +kernel
theorem dX0_countFor_6 : decode cX0_countFor 6 = .ok (.istore_n 3, 1) := by decide +kernel
theorem dX0_countFor_7 : decode cX0_countFor 7 = .ok (.iload_n 3, 1) := by decide +kernel
theorem dX0_countFor_8 : decode cX0_countFor 8 = .ok (.bipush 36, 2) := by decide +kernel
theorem dX0_countFor_10 : decode cX0_countFor 10 = .ok (.if_icmp .gt 30, 3) := by decide +kernel
theorem dX0_countFor_13 : decode cX0_countFor 13 = .ok (.aload_n 0, 1) := by decide +kernel
theorem dX0_countFor_14 : decode cX0_countFor 14 = .ok (.getfield 9, 3) := by decide +kernel
theorem dX0_countFor_17 : decode cX0_countFor 17 = .ok (.iload_n 3, 1) := by decide +kernel
theorem dX0_countFor_18 : decode cX0_countFor 18 = .ok (.iload_n 3, 1) := by decide +kernel
theorem dX0_countFor_19 : decode cX0_countFor 19 = .ok (.iconst 1, 1) := by decide +kernel
theorem dX0_countFor_20 : decode cX0_countFor 20 = .ok (.if_icmp .lt 12, 3) := by decide +kernel
theorem dX0_countFor_23 : decode cX0_countFor 23 = .ok (.iload_n 3, 1) := by decide +kernel
theorem dX0_countFor_24 : decode cX0_countFor 24 = .ok (.iload_n 2, 1) := by decide +kernel
theorem dX0_countFor_25 : decode cX0_countFor 25 = .ok (.if_icmp .gt 7, 3) := by decide +kernel
theorem dX0_countFor_28 : decode cX0_countFor 28 = .ok (.iconst 1, 1) := by decide +kernel
theorem dX0_countFor_29 : decode cX0_countFor 29 = .ok (.goto 4, 3) := by decide +kernel
theorem dX0_countFor_32 : decode cX0_countFor 32 = .ok (.iconst 0, 1) := by decide +kernel
theorem dX0_countFor_33 : decode cX0_countFor 33 = .ok (.iastore, 1) := by decide +kernel
theorem dX0_countFor_34 : decode cX0_countFor 34 = .ok (.iinc 3 1, 3) := by decide +kernel
theorem dX0_countFor_37 : decode cX0_countFor 37 = .ok (.goto (-30), 3) := by decide +kernel
theorem dX0_countFor_40 : decode cX0_countFor 40 = .ok (.aload_n 0, 1) := by decide +kernel
theorem dX0_countFor_41 : decode cX0_countFor 41 = .ok (.aload_n 1, 1) := by decide +kernel
theorem dX0_countFor_42 : decode cX0_countFor 42 = .ok (.invokevirtual 21, 3) := by decide +kernel
theorem dX0_countFor_45 : decode cX0_countFor 45 = .ok (.lconst 1, 1) := by decide +kernel
theorem dX0_countFor_46 : decode cX0_countFor 46 = .ok (.lstore_n 3, 1) := by decide +kernel
theorem dX0_countFor_47 : decode cX0_countFor 47 = .ok (.getstatic 25, 3) := by decide +kernel
theorem dX0_countFor_50 : decode cX0_countFor 50 = .ok (.astore 5, 2) := by decide +kernel
theorem dX0_countFor_52 : decode cX0_countFor 52 = .ok (.aload 5, 2) := by decide +kernel
theorem dX0_countFor_54 : decode cX0_countFor 54 = .ok (.arraylength, 1) := by decide +kernel
theorem dX0_countFor_55 : decode cX0_countFor 55 = .ok (.istore 6, 2) := by decide +kernel
theorem dX0_countFor_57 : decode cX0_countFor 57 = .ok (.iconst 0, 1) := by decide +kernel
theorem dX0_countFor_58 : decode cX0_countFor 58 = .ok (.istore 7, 2) := by decide +kernel
theorem dX0_countFor_60 : decode cX0_countFor 60 = .ok (.iload 7, 2) := by decide +kernel
theorem dX0_countFor_62 : decode cX0_countFor 62 = .ok (.iload 6, 2) := by decide +kernel
theorem dX0_countFor_64 : decode cX0_countFor 64 = .ok (.if_icmp .ge 46, 3) := by decide +kernel
theorem dX0_countFor_67 : decode cX0_countFor 67 = .ok (.aload 5, 2) := by decide +kernel
theorem dX0_countFor_69 : decode cX0_countFor 69 = .ok (.iload 7, 2) := by decide +kernel
theorem dX0_countFor_71 : decode cX0_countFor 71 = .ok (.iaload, 1) := by decide +kernel
theorem dX0_countFor_72 : decode cX0_countFor 72 = .ok (.istore 8, 2) := by decide +kernel
theorem dX0_countFor_74 : decode cX0_countFor 74 = .ok (.aload_n 0, 1) := by decide +kernel
theorem dX0_countFor_75 : decode cX0_countFor 75 = .ok (.iload 8, 2) := by decide +kernel
theorem dX0_countFor_77 : decode cX0_countFor 77 = .ok (.invokevirtual 28, 3) := by decide +kernel
theorem dX0_countFor_80 : decode cX0_countFor 80 = .ok (.istore 9, 2) := by decide +kernel
theorem dX0_countFor_82 : decode cX0_countFor 82 = .ok (.iconst 0, 1) := by decide +kernel
theorem dX0_countFor_83 : decode cX0_countFor 83 = .ok (.istore 10, 2) := by decide +kernel
theorem dX0_countFor_85 : decode cX0_countFor 85 = .ok (.iload 10, 2) := by decide +kernel
theorem dX0_countFor_87 : decode cX0_countFor 87 = .ok (.iload 9, 2) := by decide +kernel
theorem dX0_countFor_89 : decode cX0_countFor 89 = .ok (.if_icmp .ge 15, 3) := by decide +kernel
theorem dX0_countFor_92 : decode cX0_countFor 92 = .ok (.lload_n 3, 1) := by decide +kernel
theorem dX0_countFor_93 : decode cX0_countFor 93 = .ok (.iload 8, 2) := by decide +kernel
theorem dX0_countFor_95 : decode cX0_countFor 95 = .ok (.i2l, 1) := by decide +kernel
theorem dX0_countFor_96 : decode cX0_countFor 96 = .ok (.lmul, 1) := by decide +kernel
theorem dX0_countFor_97 : decode cX0_countFor 97 = .ok (.lstore_n 3, 1) := by decide +kernel
theorem dX0_countFor_98 : decode cX0_countFor 98 = .ok (.iinc 10 1, 3) := by decide +kernel
theorem dX0_countFor_101 : decode cX0_countFor 101 = .ok (.goto (-16), 3) := by decide +kernel
theorem dX0_countFor_104 : decode cX0_countFor 104 = .ok (.iinc 7 1, 3) := by decide +kernel
theorem dX0_countFor_107 : decode cX0_countFor 107 = .ok (.goto (-47), 3) := by decide +kernel
theorem dX0_countFor_110 : decode cX0_countFor 110 = .ok (.lload_n 3, 1) := by decide +kernel
theorem dX0_countFor_111 : decode cX0_countFor 111 = .ok (.lreturn, 1) := by decide +kernel
set_option maxRecDepth 20000 in
theorem ggX0_divideByHooks_X7_has : GoodIn wsX0_divideByHooks wsX7_has := goodIn_r _ [6, 7, 8, 9, 5, 10, 11, 25] (by decide +kernel) (by decide +kernel)
set_option maxRecDepth 20000 in
theorem gX0_divideByHooks_X7_has : GoodIn wsX0_divideByHooks (wsV RX0 32 RX7 yX7_has wsX7_has) := goodIn_app (goodIn_of _ (by decide +kernel)) ggX0_divideByHooks_X7_has
set_option maxRecDepth 20000 in
theorem ggX0_divideByHooks_X7_hookOf : GoodIn wsX0_divideByHooks wsX7_hookOf := goodIn_r _ [15, 16, 17, 18, 5, 19, 11, 20, 21, 22, 23, 7, 8, 9, 10, 25] (by decide +kernel) (by decide +kernel)
set_option maxRecDepth 20000 in
theorem gX0_divideByHooks_X7_hookOf : GoodIn wsX0_divideByHooks (wsV RX0 36 RX7 yX7_hookOf wsX7_hookOf) := goodIn_app (goodIn_of _ (by decide +kernel)) ggX0_divideByHooks_X7_hookOf
theorem dX0_divideByHooks_0 : decode cX0_divideByHooks 0 = .ok (.iconst 0, 1) := by decide +kernel
theorem dX0_divideByHooks_1 : decode cX0_divideByHooks 1 = .ok (.istore_n 2, 1) := by decide +kernel
theorem dX0_divideByHooks_2 : decode cX0_divideByHooks 2 = .ok (.iload_n 2, 1) := by decide +kernel
theorem dX0_divideByHooks_3 : decode cX0_divideByHooks 3 = .ok (.bipush 6, 2) := by decide +kernel
theorem dX0_divideByHooks_5 : decode cX0_divideByHooks 5 = .ok (.if_icmp .ge 68, 3) := by decide +kernel
theorem dX0_divideByHooks_8 : decode cX0_divideByHooks 8 = .ok (.iconst 0, 1) := by decide +kernel
theorem dX0_divideByHooks_9 : decode cX0_divideByHooks 9 = .ok (.istore_n 3, 1) := by decide +kernel
theorem dX0_divideByHooks_10 : decode cX0_divideByHooks 10 = .ok (.iload_n 3, 1) := by decide +kernel
theorem dX0_divideByHooks_11 : decode cX0_divideByHooks 11 = .ok (.bipush 6, 2) := by decide +kernel
theorem dX0_divideByHooks_13 : decode cX0_divideByHooks 13 = .ok (.if_icmp .ge 54, 3) := by decide +kernel
theorem dX0_divideByHooks_16 : decode cX0_divideByHooks 16 = .ok (.aload_n 1, 1) := by decide +kernel
theorem dX0_divideByHooks_17 : decode cX0_divideByHooks 17 = .ok (.iload_n 2, 1) := by decide +kernel
theorem dX0_divideByHooks_18 : decode cX0_divideByHooks 18 = .ok (.iload_n 3, 1) := by decide +kernel
theorem dX0_divideByHooks_19 : decode cX0_divideByHooks 19 = .ok (.invokevirtual 32, 3) := by decide +kernel
theorem dX0_divideByHooks_22 : decode cX0_divideByHooks 22 = .ok (.ifCond .eq 12, 3) := by decide +kernel
theorem dX0_divideByHooks_25 : decode cX0_divideByHooks 25 = .ok (.aload_n 1, 1) := by decide +kernel
theorem dX0_divideByHooks_26 : decode cX0_divideByHooks 26 = .ok (.iload_n 2, 1) := by decide +kernel
theorem dX0_divideByHooks_27 : decode cX0_divideByHooks 27 = .ok (.iload_n 3, 1) := by decide +kernel
theorem dX0_divideByHooks_28 : decode cX0_divideByHooks 28 = .ok (.invokevirtual 36, 3) := by decide +kernel
theorem dX0_divideByHooks_31 : decode cX0_divideByHooks 31 = .ok (.goto 4, 3) := by decide +kernel
theorem dX0_divideByHooks_34 : decode cX0_divideByHooks 34 = .ok (.iconst 0, 1) := by decide +kernel
theorem dX0_divideByHooks_35 : decode cX0_divideByHooks 35 = .ok (.istore 4, 2) := by decide +kernel
theorem dX0_divideByHooks_37 : decode cX0_divideByHooks 37 = .ok (.iload 4, 2) := by decide +kernel
theorem dX0_divideByHooks_39 : decode cX0_divideByHooks 39 = .ok (.iconst 1, 1) := by decide +kernel
theorem dX0_divideByHooks_40 : decode cX0_divideByHooks 40 = .ok (.if_icmp .lt 21, 3) := by decide +kernel
theorem dX0_divideByHooks_43 : decode cX0_divideByHooks 43 = .ok (.iload 4, 2) := by decide +kernel
theorem dX0_divideByHooks_45 : decode cX0_divideByHooks 45 = .ok (.bipush 36, 2) := by decide +kernel
theorem dX0_divideByHooks_47 : decode cX0_divideByHooks 47 = .ok (.if_icmp .gt 14, 3) := by decide +kernel
theorem dX0_divideByHooks_50 : decode cX0_divideByHooks 50 = .ok (.aload_n 0, 1) := by decide +kernel
theorem dX0_divideByHooks_51 : decode cX0_divideByHooks 51 = .ok (.getfield 9, 3) := by decide +kernel
theorem dX0_divideByHooks_54 : decode cX0_divideByHooks 54 = .ok (.iload 4, 2) := by decide +kernel
theorem dX0_divideByHooks_56 : decode cX0_divideByHooks 56 = .ok (.dup2, 1) := by decide +kernel
theorem dX0_divideByHooks_57 : decode cX0_divideByHooks 57 = .ok (.iaload, 1) := by decide +kernel
theorem dX0_divideByHooks_58 : decode cX0_divideByHooks 58 = .ok (.iconst 1, 1) := by decide +kernel
theorem dX0_divideByHooks_59 : decode cX0_divideByHooks 59 = .ok (.isub, 1) := by decide +kernel
theorem dX0_divideByHooks_60 : decode cX0_divideByHooks 60 = .ok (.iastore, 1) := by decide +kernel
theorem dX0_divideByHooks_61 : decode cX0_divideByHooks 61 = .ok (.iinc 3 1, 3) := by decide +kernel
theorem dX0_divideByHooks_64 : decode cX0_divideByHooks 64 = .ok (.goto (-54), 3) := by decide +kernel
theorem dX0_divideByHooks_67 : decode cX0_divideByHooks 67 = .ok (.iinc 2 1, 3) := by decide +kernel
theorem dX0_divideByHooks_70 : decode cX0_divideByHooks 70 = .ok (.goto (-68), 3) := by decide +kernel
theorem dX0_divideByHooks_73 : decode cX0_divideByHooks 73 = .ok (.return_, 1) := by decide +kernel
set_option maxRecDepth 20000 in
theorem ggX0_powerOf_X0_powerIn : GoodIn wsX0_powerOf wsX0_powerIn := goodIn_r _ [5] (by decide +kernel) (by decide +kernel)
set_option maxRecDepth 20000 in
theorem gX0_powerOf_X0_powerIn : GoodIn wsX0_powerOf (va_wsS RX0 40 yX0_powerIn wsX0_powerIn) := goodIn_app (goodIn_of _ (by decide +kernel)) ggX0_powerOf_X0_powerIn
theorem dX0_powerOf_0 : decode cX0_powerOf 0 = .ok (.iconst 0, 1) := by decide +kernel
theorem dX0_powerOf_1 : decode cX0_powerOf 1 = .ok (.istore_n 2, 1) := by decide +kernel
theorem dX0_powerOf_2 : decode cX0_powerOf 2 = .ok (.iconst 1, 1) := by decide +kernel
theorem dX0_powerOf_3 : decode cX0_powerOf 3 = .ok (.istore_n 3, 1) := by decide +kernel
theorem dX0_powerOf_4 : decode cX0_powerOf 4 = .ok (.iload_n 3, 1) := by decide +kernel
theorem dX0_powerOf_5 : decode cX0_powerOf 5 = .ok (.bipush 36, 2) := by decide +kernel
theorem dX0_powerOf_7 : decode cX0_powerOf 7 = .ok (.if_icmp .gt 24, 3) := by decide +kernel
theorem dX0_powerOf_10 : decode cX0_powerOf 10 = .ok (.iload_n 2, 1) := by decide +kernel
theorem dX0_powerOf_11 : decode cX0_powerOf 11 = .ok (.aload_n 0, 1) := by decide +kernel
theorem dX0_powerOf_12 : decode cX0_powerOf 12 = .ok (.getfield 9, 3) := by decide +kernel
theorem dX0_powerOf_15 : decode cX0_powerOf 15 = .ok (.iload_n 3, 1) := by decide +kernel
theorem dX0_powerOf_16 : decode cX0_powerOf 16 = .ok (.iaload, 1) := by decide +kernel
theorem dX0_powerOf_17 : decode cX0_powerOf 17 = .ok (.iload_n 3, 1) := by decide +kernel
theorem dX0_powerOf_18 : decode cX0_powerOf 18 = .ok (.iload_n 1, 1) := by decide +kernel
theorem dX0_powerOf_19 : decode cX0_powerOf 19 = .ok (.invokestatic 40, 3) := by decide +kernel
theorem dX0_powerOf_22 : decode cX0_powerOf 22 = .ok (.imul, 1) := by decide +kernel
theorem dX0_powerOf_23 : decode cX0_powerOf 23 = .ok (.iadd, 1) := by decide +kernel
theorem dX0_powerOf_24 : decode cX0_powerOf 24 = .ok (.istore_n 2, 1) := by decide +kernel
theorem dX0_powerOf_25 : decode cX0_powerOf 25 = .ok (.iinc 3 1, 3) := by decide +kernel
theorem dX0_powerOf_28 : decode cX0_powerOf 28 = .ok (.goto (-24), 3) := by decide +kernel
theorem dX0_powerOf_31 : decode cX0_powerOf 31 = .ok (.iload_n 2, 1) := by decide +kernel
theorem dX0_powerOf_32 : decode cX0_powerOf 32 = .ok (.ireturn, 1) := by decide +kernel
theorem dX0_powerIn_0 : decode cX0_powerIn 0 = .ok (.iconst 0, 1) := by decide +kernel
theorem dX0_powerIn_1 : decode cX0_powerIn 1 = .ok (.istore_n 2, 1) := by decide +kernel
theorem dX0_powerIn_2 : decode cX0_powerIn 2 = .ok (.iload_n 1, 1) := by decide +kernel
theorem dX0_powerIn_3 : decode cX0_powerIn 3 = .ok (.istore_n 3, 1) := by decide +kernel
theorem dX0_powerIn_4 : decode cX0_powerIn 4 = .ok (.iload_n 3, 1) := by decide +kernel
theorem dX0_powerIn_5 : decode cX0_powerIn 5 = .ok (.iconst 1, 1) := by decide +kernel
theorem dX0_powerIn_6 : decode cX0_powerIn 6 = .ok (.if_icmp .le 25, 3) := by decide +kernel
theorem dX0_powerIn_9 : decode cX0_powerIn 9 = .ok (.iload_n 3, 1) := by decide +kernel
theorem dX0_powerIn_10 : decode cX0_powerIn 10 = .ok (.bipush 36, 2) := by decide +kernel
theorem dX0_powerIn_12 : decode cX0_powerIn 12 = .ok (.if_icmp .gt 19, 3) := by decide +kernel
theorem dX0_powerIn_15 : decode cX0_powerIn 15 = .ok (.iload_n 0, 1) := by decide +kernel
theorem dX0_powerIn_16 : decode cX0_powerIn 16 = .ok (.iload_n 3, 1) := by decide +kernel
theorem dX0_powerIn_17 : decode cX0_powerIn 17 = .ok (.irem, 1) := by decide +kernel
theorem dX0_powerIn_18 : decode cX0_powerIn 18 = .ok (.ifCond .ne 6, 3) := by decide +kernel
theorem dX0_powerIn_21 : decode cX0_powerIn 21 = .ok (.iinc 2 1, 3) := by decide +kernel
theorem dX0_powerIn_24 : decode cX0_powerIn 24 = .ok (.iload_n 3, 1) := by decide +kernel
theorem dX0_powerIn_25 : decode cX0_powerIn 25 = .ok (.iload_n 1, 1) := by decide +kernel
theorem dX0_powerIn_26 : decode cX0_powerIn 26 = .ok (.imul, 1) := by decide +kernel
theorem dX0_powerIn_27 : decode cX0_powerIn 27 = .ok (.istore_n 3, 1) := by decide +kernel
theorem dX0_powerIn_28 : decode cX0_powerIn 28 = .ok (.goto (-24), 3) := by decide +kernel
theorem dX0_powerIn_31 : decode cX0_powerIn 31 = .ok (.iload_n 2, 1) := by decide +kernel
theorem dX0_powerIn_32 : decode cX0_powerIn 32 = .ok (.ireturn, 1) := by decide +kernel
theorem dX1_init_0 : decode cX1_init 0 = .ok (.aload_n 0, 1) := by decide +kernel
theorem dX1_init_1 : decode cX1_init 1 = .ok (.invokespecial 3, 3) := by decide +kernel
theorem dX1_init_4 : decode cX1_init 4 = .ok (.aload_n 0, 1) := by decide +kernel
theorem dX1_init_5 : decode cX1_init 5 = .ok (.bipush 6, 2) := by decide +kernel
theorem dX1_init_7 : decode cX1_init 7 = .ok (.newarray .int, 2) := by decide +kernel
theorem dX1_init_9 : decode cX1_init 9 = .ok (.putfield 9, 3) := by decide +kernel
theorem dX1_init_12 : decode cX1_init 12 = .ok (.aload_n 0, 1) := by decide +kernel
theorem dX1_init_13 : decode cX1_init 13 = .ok (.bipush (-9), 2) := by decide +kernel
theorem dX1_init_15 : decode cX1_init 15 = .ok (.putfield 15, 3) := by decide +kernel
theorem dX1_init_18 : decode cX1_init 18 = .ok (.aload_n 0, 1) := by decide +kernel
theorem dX1_init_19 : decode cX1_init 19 = .ok (.bipush (-9), 2) := by decide +kernel
theorem dX1_init_21 : decode cX1_init 21 = .ok (.putfield 19, 3) := by decide +kernel
theorem dX1_init_24 : decode cX1_init 24 = .ok (.return_, 1) := by decide +kernel
theorem dX1_sum_0 : decode cX1_sum 0 = .ok (.aload_n 0, 1) := by decide +kernel
theorem dX1_sum_1 : decode cX1_sum 1 = .ok (.getfield 15, 3) := by decide +kernel
theorem dX1_sum_4 : decode cX1_sum 4 = .ok (.ireturn, 1) := by decide +kernel
theorem dX1_end_0 : decode cX1_end 0 = .ok (.aload_n 0, 1) := by decide +kernel
theorem dX1_end_1 : decode cX1_end 1 = .ok (.getfield 19, 3) := by decide +kernel
theorem dX1_end_4 : decode cX1_end 4 = .ok (.ireturn, 1) := by decide +kernel
set_option maxRecDepth 20000 in
theorem ggX1_search_X1_goOverRow : GoodIn wsX1_search wsX1_goOverRow := goodIn_r _ [8, 3, 9, 10, 11, 12, 13, 14, 15, 16, 17, 18, 19, 20, 21, 22, 23, 40, 41, 42, 43] (by decide +kernel) (by decide +kernel)
set_option maxRecDepth 20000 in
theorem gX1_search_X1_goOverRow : GoodIn wsX1_search (wsV RX1 22 RX1 yX1_goOverRow wsX1_goOverRow) := goodIn_app (goodIn_of _ (by decide +kernel)) ggX1_search_X1_goOverRow
set_option maxRecDepth 20000 in
theorem ggX1_search_X7_hasCorner : GoodIn wsX1_search wsX7_hasCorner := goodIn_r _ [27, 28, 29, 30, 16, 31, 22, 43] (by decide +kernel) (by decide +kernel)
set_option maxRecDepth 20000 in
theorem gX1_search_X7_hasCorner : GoodIn wsX1_search (wsV RX1 26 RX7 yX7_hasCorner wsX7_hasCorner) := goodIn_app (goodIn_of _ (by decide +kernel)) ggX1_search_X7_hasCorner
set_option maxRecDepth 20000 in
theorem ggX1_search_X7_rowLength : GoodIn wsX1_search wsX7_rowLength := goodIn_r _ [31, 22, 43] (by decide +kernel) (by decide +kernel)
set_option maxRecDepth 20000 in
theorem gX1_search_X7_rowLength : GoodIn wsX1_search (wsV RX1 32 RX7 yX7_rowLength wsX7_rowLength) := goodIn_app (goodIn_of _ (by decide +kernel)) ggX1_search_X7_rowLength
set_option maxRecDepth 20000 in
theorem ggX1_search_X1_endAt : GoodIn wsX1_search wsX1_endAt := goodIn_r _ [36, 3, 1, 2, 37, 38, 39, 40, 41, 42] (by decide +kernel) (by decide +kernel)
set_option maxRecDepth 20000 in
theorem gX1_search_X1_endAt : GoodIn wsX1_search (wsV RX1 36 RX1 yX1_endAt wsX1_endAt) := goodIn_app (goodIn_of _ (by decide +kernel)) ggX1_search_X1_endAt
theorem dX1_search_0 : decode cX1_search 0 = .ok (.aload_n 0, 1) := by decide +kernel
theorem dX1_search_1 : decode cX1_search 1 = .ok (.bipush (-9), 2) := by decide +kernel
theorem dX1_search_3 : decode cX1_search 3 = .ok (.putfield 15, 3) := by decide +kernel
theorem dX1_search_6 : decode cX1_search 6 = .ok (.aload_n 0, 1) := by decide +kernel
theorem dX1_search_7 : decode cX1_search 7 = .ok (.bipush (-9), 2) := by decide +kernel
theorem dX1_search_9 : decode cX1_search 9 = .ok (.putfield 19, 3) := by decide +kernel
theorem dX1_search_12 : decode cX1_search 12 = .ok (.iconst 0, 1) := by decide +kernel
theorem dX1_search_13 : decode cX1_search 13 = .ok (.istore_n 2, 1) := by decide +kernel
theorem dX1_search_14 : decode cX1_search 14 = .ok (.iload_n 2, 1) := by decide +kernel
theorem dX1_search_15 : decode cX1_search 15 = .ok (.bipush 6, 2) := by decide +kernel
theorem dX1_search_17 : decode cX1_search 17 = .ok (.if_icmp .ge 16, 3) := by decide +kernel
theorem dX1_search_20 : decode cX1_search 20 = .ok (.aload_n 0, 1) := by decide +kernel
theorem dX1_search_21 : decode cX1_search 21 = .ok (.getfield 9, 3) := by decide +kernel
theorem dX1_search_24 : decode cX1_search 24 = .ok (.iload_n 2, 1) := by decide +kernel
theorem dX1_search_25 : decode cX1_search 25 = .ok (.iconst 0, 1) := by decide +kernel
theorem dX1_search_26 : decode cX1_search 26 = .ok (.iastore, 1) := by decide +kernel
theorem dX1_search_27 : decode cX1_search 27 = .ok (.iinc 2 1, 3) := by decide +kernel
theorem dX1_search_30 : decode cX1_search 30 = .ok (.goto (-16), 3) := by decide +kernel
theorem dX1_search_33 : decode cX1_search 33 = .ok (.iconst 0, 1) := by decide +kernel
theorem dX1_search_34 : decode cX1_search 34 = .ok (.istore_n 2, 1) := by decide +kernel
theorem dX1_search_35 : decode cX1_search 35 = .ok (.iload_n 2, 1) := by decide +kernel
theorem dX1_search_36 : decode cX1_search 36 = .ok (.bipush 6, 2) := by decide +kernel
theorem dX1_search_38 : decode cX1_search 38 = .ok (.if_icmp .ge 35, 3) := by decide +kernel
theorem dX1_search_41 : decode cX1_search 41 = .ok (.aload_n 0, 1) := by decide +kernel
theorem dX1_search_42 : decode cX1_search 42 = .ok (.aload_n 1, 1) := by decide +kernel
theorem dX1_search_43 : decode cX1_search 43 = .ok (.iload_n 2, 1) := by decide +kernel
theorem dX1_search_44 : decode cX1_search 44 = .ok (.invokevirtual 22, 3) := by decide +kernel
theorem dX1_search_47 : decode cX1_search 47 = .ok (.aload_n 1, 1) := by decide +kernel
theorem dX1_search_48 : decode cX1_search 48 = .ok (.iload_n 2, 1) := by decide +kernel
theorem dX1_search_49 : decode cX1_search 49 = .ok (.invokevirtual 26, 3) := by decide +kernel
theorem dX1_search_52 : decode cX1_search 52 = .ok (.ifCond .eq 15, 3) := by decide +kernel
theorem dX1_search_55 : decode cX1_search 55 = .ok (.aload_n 0, 1) := by decide +kernel
theorem dX1_search_56 : decode cX1_search 56 = .ok (.iload_n 2, 1) := by decide +kernel
theorem dX1_search_57 : decode cX1_search 57 = .ok (.aload_n 1, 1) := by decide +kernel
theorem dX1_search_58 : decode cX1_search 58 = .ok (.iload_n 2, 1) := by decide +kernel
theorem dX1_search_59 : decode cX1_search 59 = .ok (.invokevirtual 32, 3) := by decide +kernel
theorem dX1_search_62 : decode cX1_search 62 = .ok (.iconst 1, 1) := by decide +kernel
theorem dX1_search_63 : decode cX1_search 63 = .ok (.isub, 1) := by decide +kernel
theorem dX1_search_64 : decode cX1_search 64 = .ok (.invokevirtual 36, 3) := by decide +kernel
theorem dX1_search_67 : decode cX1_search 67 = .ok (.iinc 2 1, 3) := by decide +kernel
theorem dX1_search_70 : decode cX1_search 70 = .ok (.goto (-35), 3) := by decide +kernel
theorem dX1_search_73 : decode cX1_search 73 = .ok (.return_, 1) := by decide +kernel
set_option maxRecDepth 20000 in
theorem ggX1_goOverRow_X7_has : GoodIn wsX1_goOverRow wsX7_has := goodIn_r _ [10, 11, 12, 13, 9, 14, 15, 20] (by decide +kernel) (by decide +kernel)
set_option maxRecDepth 20000 in
theorem gX1_goOverRow_X7_has : GoodIn wsX1_goOverRow (wsV RX1 40 RX7 yX7_has wsX7_has) := goodIn_app (goodIn_of _ (by decide +kernel)) ggX1_goOverRow_X7_has
set_option maxRecDepth 20000 in
theorem ggX1_goOverRow_X7_at : GoodIn wsX1_goOverRow wsX7_at := goodIn_r _ [14, 15, 20] (by decide +kernel) (by decide +kernel)
set_option maxRecDepth 20000 in
theorem gX1_goOverRow_X7_at : GoodIn wsX1_goOverRow (wsV RX1 44 RX7 yX7_at wsX7_at) := goodIn_app (goodIn_of _ (by decide +kernel)) ggX1_goOverRow_X7_at
theorem dX1_goOverRow_0 : decode cX1_goOverRow 0 = .ok (.iconst 0, 1) := by decide +kernel
theorem dX1_goOverRow_1 : decode cX1_goOverRow 1 = .ok (.istore_n 3, 1) := by decide +kernel
theorem dX1_goOverRow_2 : decode cX1_goOverRow 2 = .ok (.iconst 0, 1) := by decide +kernel
theorem dX1_goOverRow_3 : decode cX1_goOverRow 3 = .ok (.istore 4, 2) := by decide +kernel
theorem dX1_goOverRow_5 : decode cX1_goOverRow 5 = .ok (.iload 4, 2) := by decide +kernel
theorem dX1_goOverRow_7 : decode cX1_goOverRow 7 = .ok (.bipush 6, 2) := by decide +kernel
theorem dX1_goOverRow_9 : decode cX1_goOverRow 9 = .ok (.if_icmp .ge 47, 3) := by decide +kernel
theorem dX1_goOverRow_12 : decode cX1_goOverRow 12 = .ok (.aload_n 1, 1) := by decide +kernel
theorem dX1_goOverRow_13 : decode cX1_goOverRow 13 = .ok (.iload_n 2, 1) := by decide +kernel
theorem dX1_goOverRow_14 : decode cX1_goOverRow 14 = .ok (.iload 4, 2) := by decide +kernel
theorem dX1_goOverRow_16 : decode cX1_goOverRow 16 = .ok (.invokevirtual 40, 3) := by decide +kernel
theorem dX1_goOverRow_19 : decode cX1_goOverRow 19 = .ok (.ifCond .eq 31, 3) := by decide +kernel
theorem dX1_goOverRow_22 : decode cX1_goOverRow 22 = .ok (.aload_n 1, 1) := by decide +kernel
theorem dX1_goOverRow_23 : decode cX1_goOverRow 23 = .ok (.iload_n 2, 1) := by decide +kernel
theorem dX1_goOverRow_24 : decode cX1_goOverRow 24 = .ok (.iload 4, 2) := by decide +kernel
theorem dX1_goOverRow_26 : decode cX1_goOverRow 26 = .ok (.invokevirtual 44, 3) := by decide +kernel
theorem dX1_goOverRow_29 : decode cX1_goOverRow 29 = .ok (.aload_n 0, 1) := by decide +kernel
theorem dX1_goOverRow_30 : decode cX1_goOverRow 30 = .ok (.getfield 9, 3) := by decide +kernel
theorem dX1_goOverRow_33 : decode cX1_goOverRow 33 = .ok (.iload 4, 2) := by decide +kernel
theorem dX1_goOverRow_35 : decode cX1_goOverRow 35 = .ok (.iaload, 1) := by decide +kernel
theorem dX1_goOverRow_36 : decode cX1_goOverRow 36 = .ok (.iload_n 3, 1) := by decide +kernel
theorem dX1_goOverRow_37 : decode cX1_goOverRow 37 = .ok (.invokestatic 48, 3) := by decide +kernel
theorem dX1_goOverRow_40 : decode cX1_goOverRow 40 = .ok (.iadd, 1) := by decide +kernel
theorem dX1_goOverRow_41 : decode cX1_goOverRow 41 = .ok (.istore_n 3, 1) := by decide +kernel
theorem dX1_goOverRow_42 : decode cX1_goOverRow 42 = .ok (.aload_n 0, 1) := by decide +kernel
theorem dX1_goOverRow_43 : decode cX1_goOverRow 43 = .ok (.getfield 9, 3) := by decide +kernel
theorem dX1_goOverRow_46 : decode cX1_goOverRow 46 = .ok (.iload 4, 2) := by decide +kernel
theorem dX1_goOverRow_48 : decode cX1_goOverRow 48 = .ok (.iload_n 3, 1) := by decide +kernel
theorem dX1_goOverRow_49 : decode cX1_goOverRow 49 = .ok (.iastore, 1) := by decide +kernel
theorem dX1_goOverRow_50 : decode cX1_goOverRow 50 = .ok (.iinc 4 1, 3) := by decide +kernel
theorem dX1_goOverRow_53 : decode cX1_goOverRow 53 = .ok (.goto (-48), 3) := by decide +kernel
theorem dX1_goOverRow_56 : decode cX1_goOverRow 56 = .ok (.return_, 1) := by decide +kernel
set_option maxRecDepth 20000 in
theorem ggX1_endAt_X9_placeOf : GoodIn wsX1_endAt wsX9_placeOf := goodIn_r _ [6] (by decide +kernel) (by decide +kernel)
set_option maxRecDepth 20000 in
theorem gX1_endAt_X9_placeOf_n53 : GoodIn wsX1_endAt (wsX9_placeOf) := ggX1_endAt_X9_placeOf
theorem dX1_endAt_0 : decode cX1_endAt 0 = .ok (.iload_n 2, 1) := by decide +kernel
theorem dX1_endAt_1 : decode cX1_endAt 1 = .ok (.ifCond .lt 41, 3) := by decide +kernel
theorem dX1_endAt_4 : decode cX1_endAt 4 = .ok (.iload_n 2, 1) := by decide +kernel
theorem dX1_endAt_5 : decode cX1_endAt 5 = .ok (.bipush 6, 2) := by decide +kernel
theorem dX1_endAt_7 : decode cX1_endAt 7 = .ok (.if_icmp .ge 35, 3) := by decide +kernel
theorem dX1_endAt_10 : decode cX1_endAt 10 = .ok (.aload_n 0, 1) := by decide +kernel
theorem dX1_endAt_11 : decode cX1_endAt 11 = .ok (.getfield 9, 3) := by decide +kernel
theorem dX1_endAt_14 : decode cX1_endAt 14 = .ok (.iload_n 2, 1) := by decide +kernel
theorem dX1_endAt_15 : decode cX1_endAt 15 = .ok (.iaload, 1) := by decide +kernel
theorem dX1_endAt_16 : decode cX1_endAt 16 = .ok (.aload_n 0, 1) := by decide +kernel
theorem dX1_endAt_17 : decode cX1_endAt 17 = .ok (.getfield 15, 3) := by decide +kernel
theorem dX1_endAt_20 : decode cX1_endAt 20 = .ok (.if_icmp .le 22, 3) := by decide +kernel
theorem dX1_endAt_23 : decode cX1_endAt 23 = .ok (.aload_n 0, 1) := by decide +kernel
theorem dX1_endAt_24 : decode cX1_endAt 24 = .ok (.aload_n 0, 1) := by decide +kernel
theorem dX1_endAt_25 : decode cX1_endAt 25 = .ok (.getfield 9, 3) := by decide +kernel
theorem dX1_endAt_28 : decode cX1_endAt 28 = .ok (.iload_n 2, 1) := by decide +kernel
theorem dX1_endAt_29 : decode cX1_endAt 29 = .ok (.iaload, 1) := by decide +kernel
theorem dX1_endAt_30 : decode cX1_endAt 30 = .ok (.putfield 15, 3) := by decide +kernel
theorem dX1_endAt_33 : decode cX1_endAt 33 = .ok (.aload_n 0, 1) := by decide +kernel
theorem dX1_endAt_34 : decode cX1_endAt 34 = .ok (.iload_n 1, 1) := by decide +kernel
theorem dX1_endAt_35 : decode cX1_endAt 35 = .ok (.iload_n 2, 1) := by decide +kernel
theorem dX1_endAt_36 : decode cX1_endAt 36 = .ok (.invokestatic 53, 3) := by decide +kernel
theorem dX1_endAt_39 : decode cX1_endAt 39 = .ok (.putfield 19, 3) := by decide +kernel
theorem dX1_endAt_42 : decode cX1_endAt 42 = .ok (.return_, 1) := by decide +kernel
set_option maxRecDepth 20000 in
theorem ggX2_init_X7_init : GoodIn wsX2_init wsX7_init := goodIn_r _ [11, 12, 2, 3, 13, 14, 15, 16, 17, 6, 18, 19] (by decide +kernel) (by decide +kernel)
set_option maxRecDepth 20000 in
theorem gX2_init_X7_init : GoodIn wsX2_init (wsX7_init) := ggX2_init_X7_init
theorem dX2_init_0 : decode cX2_init 0 = .ok (.aload_n 0, 1) := by decide +kernel
theorem dX2_init_1 : decode cX2_init 1 = .ok (.invokespecial 3, 3) := by decide +kernel
theorem dX2_init_4 : decode cX2_init 4 = .ok (.aload_n 0, 1) := by decide +kernel
theorem dX2_init_5 : decode cX2_init 5 = .ok (.new 9, 3) := by decide +kernel
theorem dX2_init_8 : decode cX2_init 8 = .ok (.dup, 1) := by decide +kernel
theorem dX2_init_9 : decode cX2_init 9 = .ok (.invokespecial 11, 3) := by decide +kernel
theorem dX2_init_12 : decode cX2_init 12 = .ok (.putfield 12, 3) := by decide +kernel
theorem dX2_init_15 : decode cX2_init 15 = .ok (.aload_n 0, 1) := by decide +kernel
theorem dX2_init_16 : decode cX2_init 16 = .ok (.new 9, 3) := by decide +kernel
theorem dX2_init_19 : decode cX2_init 19 = .ok (.dup, 1) := by decide +kernel
theorem dX2_init_20 : decode cX2_init 20 = .ok (.invokespecial 11, 3) := by decide +kernel
theorem dX2_init_23 : decode cX2_init 23 = .ok (.putfield 18, 3) := by decide +kernel
theorem dX2_init_26 : decode cX2_init 26 = .ok (.return_, 1) := by decide +kernel
theorem dX2_table_0 : decode cX2_table 0 = .ok (.iload_n 1, 1) := by decide +kernel
theorem dX2_table_1 : decode cX2_table 1 = .ok (.ifCond .ne 10, 3) := by decide +kernel
theorem dX2_table_4 : decode cX2_table 4 = .ok (.aload_n 0, 1) := by decide +kernel
theorem dX2_table_5 : decode cX2_table 5 = .ok (.getfield 12, 3) := by decide +kernel
theorem dX2_table_8 : decode cX2_table 8 = .ok (.goto 7, 3) := by decide +kernel
theorem dX2_table_11 : decode cX2_table 11 = .ok (.aload_n 0, 1) := by decide +kernel
theorem dX2_table_12 : decode cX2_table 12 = .ok (.getfield 18, 3) := by decide +kernel
theorem dX2_table_15 : decode cX2_table 15 = .ok (.areturn, 1) := by decide +kernel
set_option maxRecDepth 20000 in
theorem ggX2_copyFrom_X7_copyFrom : GoodIn wsX2_copyFrom wsX7_copyFrom := goodIn_r _ [7, 8, 9, 10, 11, 12, 15] (by decide +kernel) (by decide +kernel)
set_option maxRecDepth 20000 in
theorem gX2_copyFrom_X7_copyFrom : GoodIn wsX2_copyFrom (wsV RX2 21 RX7 yX7_copyFrom wsX7_copyFrom) := goodIn_app (goodIn_of _ (by decide +kernel)) ggX2_copyFrom_X7_copyFrom
theorem dX2_copyFrom_0 : decode cX2_copyFrom 0 = .ok (.aload_n 0, 1) := by decide +kernel
theorem dX2_copyFrom_1 : decode cX2_copyFrom 1 = .ok (.getfield 12, 3) := by decide +kernel
theorem dX2_copyFrom_4 : decode cX2_copyFrom 4 = .ok (.aload_n 1, 1) := by decide +kernel
theorem dX2_copyFrom_5 : decode cX2_copyFrom 5 = .ok (.getfield 12, 3) := by decide +kernel
theorem dX2_copyFrom_8 : decode cX2_copyFrom 8 = .ok (.invokevirtual 21, 3) := by decide +kernel
theorem dX2_copyFrom_11 : decode cX2_copyFrom 11 = .ok (.aload_n 0, 1) := by decide +kernel
theorem dX2_copyFrom_12 : decode cX2_copyFrom 12 = .ok (.getfield 18, 3) := by decide +kernel
theorem dX2_copyFrom_15 : decode cX2_copyFrom 15 = .ok (.aload_n 1, 1) := by decide +kernel
theorem dX2_copyFrom_16 : decode cX2_copyFrom 16 = .ok (.getfield 18, 3) := by decide +kernel
theorem dX2_copyFrom_19 : decode cX2_copyFrom 19 = .ok (.invokevirtual 21, 3) := by decide +kernel
theorem dX2_copyFrom_22 : decode cX2_copyFrom 22 = .ok (.return_, 1) := by decide +kernel
set_option maxRecDepth 20000 in
theorem ggX2_writeTo_X7_writeTo : GoodIn wsX2_writeTo wsX7_writeTo := goodIn_r _ [7, 8, 9, 10, 11, 12, 15] (by decide +kernel) (by decide +kernel)
set_option maxRecDepth 20000 in
theorem gX2_writeTo_X7_writeTo : GoodIn wsX2_writeTo (wsV RX2 25 RX7 yX7_writeTo wsX7_writeTo) := goodIn_app (goodIn_of _ (by decide +kernel)) ggX2_writeTo_X7_writeTo
theorem dX2_writeTo_0 : decode cX2_writeTo 0 = .ok (.aload_n 0, 1) := by decide +kernel
theorem dX2_writeTo_1 : decode cX2_writeTo 1 = .ok (.getfield 12, 3) := by decide +kernel
theorem dX2_writeTo_4 : decode cX2_writeTo 4 = .ok (.aload_n 1, 1) := by decide +kernel
theorem dX2_writeTo_5 : decode cX2_writeTo 5 = .ok (.iload_n 2, 1) := by decide +kernel
theorem dX2_writeTo_6 : decode cX2_writeTo 6 = .ok (.invokevirtual 25, 3) := by decide +kernel
theorem dX2_writeTo_9 : decode cX2_writeTo 9 = .ok (.aload_n 0, 1) := by decide +kernel
theorem dX2_writeTo_10 : decode cX2_writeTo 10 = .ok (.getfield 18, 3) := by decide +kernel
theorem dX2_writeTo_13 : decode cX2_writeTo 13 = .ok (.aload_n 1, 1) := by decide +kernel
theorem dX2_writeTo_14 : decode cX2_writeTo 14 = .ok (.iload_n 2, 1) := by decide +kernel
theorem dX2_writeTo_15 : decode cX2_writeTo 15 = .ok (.bipush 36, 2) := by decide +kernel
theorem dX2_writeTo_17 : decode cX2_writeTo 17 = .ok (.iadd, 1) := by decide +kernel
theorem dX2_writeTo_18 : decode cX2_writeTo 18 = .ok (.invokevirtual 25, 3) := by decide +kernel
theorem dX2_writeTo_21 : decode cX2_writeTo 21 = .ok (.return_, 1) := by decide +kernel
set_option maxRecDepth 20000 in
theorem ggX2_readFrom_X7_readFrom : GoodIn wsX2_readFrom wsX7_readFrom := goodIn_r _ [7, 8, 9, 10, 11, 12, 15] (by decide +kernel) (by decide +kernel)
set_option maxRecDepth 20000 in
theorem gX2_readFrom_X7_readFrom : GoodIn wsX2_readFrom (wsV RX2 29 RX7 yX7_readFrom wsX7_readFrom) := goodIn_app (goodIn_of _ (by decide +kernel)) ggX2_readFrom_X7_readFrom
theorem dX2_readFrom_0 : decode cX2_readFrom 0 = .ok (.aload_n 0, 1) := by decide +kernel
theorem dX2_readFrom_1 : decode cX2_readFrom 1 = .ok (.getfield 12, 3) := by decide +kernel
theorem dX2_readFrom_4 : decode cX2_readFrom 4 = .ok (.aload_n 1, 1) := by decide +kernel
theorem dX2_readFrom_5 : decode cX2_readFrom 5 = .ok (.iload_n 2, 1) := by decide +kernel
theorem dX2_readFrom_6 : decode cX2_readFrom 6 = .ok (.invokevirtual 29, 3) := by decide +kernel
theorem dX2_readFrom_9 : decode cX2_readFrom 9 = .ok (.aload_n 0, 1) := by decide +kernel
theorem dX2_readFrom_10 : decode cX2_readFrom 10 = .ok (.getfield 18, 3) := by decide +kernel
theorem dX2_readFrom_13 : decode cX2_readFrom 13 = .ok (.aload_n 1, 1) := by decide +kernel
theorem dX2_readFrom_14 : decode cX2_readFrom 14 = .ok (.iload_n 2, 1) := by decide +kernel
theorem dX2_readFrom_15 : decode cX2_readFrom 15 = .ok (.bipush 36, 2) := by decide +kernel
theorem dX2_readFrom_17 : decode cX2_readFrom 17 = .ok (.iadd, 1) := by decide +kernel
theorem dX2_readFrom_18 : decode cX2_readFrom 18 = .ok (.invokevirtual 29, 3) := by decide +kernel
theorem dX2_readFrom_21 : decode cX2_readFrom 21 = .ok (.return_, 1) := by decide +kernel
set_option maxRecDepth 20000 in
theorem ggX2_wipe_X7_wipe : GoodIn wsX2_wipe wsX7_wipe := goodIn_r _ [7, 8, 11] (by decide +kernel) (by decide +kernel)
set_option maxRecDepth 20000 in
theorem gX2_wipe_X7_wipe : GoodIn wsX2_wipe (wsV RX2 32 RX7 yX7_wipe wsX7_wipe) := goodIn_app (goodIn_of _ (by decide +kernel)) ggX2_wipe_X7_wipe
theorem dX2_wipe_0 : decode cX2_wipe 0 = .ok (.aload_n 0, 1) := by decide +kernel
theorem dX2_wipe_1 : decode cX2_wipe 1 = .ok (.getfield 12, 3) := by decide +kernel
theorem dX2_wipe_4 : decode cX2_wipe 4 = .ok (.invokevirtual 32, 3) := by decide +kernel
theorem dX2_wipe_7 : decode cX2_wipe 7 = .ok (.aload_n 0, 1) := by decide +kernel
theorem dX2_wipe_8 : decode cX2_wipe 8 = .ok (.getfield 18, 3) := by decide +kernel
theorem dX2_wipe_11 : decode cX2_wipe 11 = .ok (.invokevirtual 32, 3) := by decide +kernel
theorem dX2_wipe_14 : decode cX2_wipe 14 = .ok (.return_, 1) := by decide +kernel
set_option maxRecDepth 20000 in
theorem ggX2_swap_X7_swapWith : GoodIn wsX2_swap wsX7_swapWith := goodIn_r _ [7, 8, 11] (by decide +kernel) (by decide +kernel)
set_option maxRecDepth 20000 in
theorem gX2_swap_X7_swapWith : GoodIn wsX2_swap (wsV RX2 35 RX7 yX7_swapWith wsX7_swapWith) := goodIn_app (goodIn_of _ (by decide +kernel)) ggX2_swap_X7_swapWith
theorem dX2_swap_0 : decode cX2_swap 0 = .ok (.aload_n 0, 1) := by decide +kernel
theorem dX2_swap_1 : decode cX2_swap 1 = .ok (.getfield 12, 3) := by decide +kernel
theorem dX2_swap_4 : decode cX2_swap 4 = .ok (.aload_n 0, 1) := by decide +kernel
theorem dX2_swap_5 : decode cX2_swap 5 = .ok (.getfield 18, 3) := by decide +kernel
theorem dX2_swap_8 : decode cX2_swap 8 = .ok (.invokevirtual 35, 3) := by decide +kernel
theorem dX2_swap_11 : decode cX2_swap 11 = .ok (.return_, 1) := by decide +kernel
set_option maxRecDepth 20000 in
theorem ggX2_cells_X7_cells : GoodIn wsX2_cells wsX7_cells := goodIn_r _ [7, 8, 9, 10, 6, 11, 12, 15] (by decide +kernel) (by decide +kernel)
set_option maxRecDepth 20000 in
theorem gX2_cells_X7_cells : GoodIn wsX2_cells (wsV RX2 38 RX7 yX7_cells wsX7_cells) := goodIn_app (goodIn_of _ (by decide +kernel)) ggX2_cells_X7_cells
theorem dX2_cells_0 : decode cX2_cells 0 = .ok (.aload_n 0, 1) := by decide +kernel
theorem dX2_cells_1 : decode cX2_cells 1 = .ok (.getfield 12, 3) := by decide +kernel
theorem dX2_cells_4 : decode cX2_cells 4 = .ok (.invokevirtual 38, 3) := by decide +kernel
theorem dX2_cells_7 : decode cX2_cells 7 = .ok (.aload_n 0, 1) := by decide +kernel
theorem dX2_cells_8 : decode cX2_cells 8 = .ok (.getfield 18, 3) := by decide +kernel
theorem dX2_cells_11 : decode cX2_cells 11 = .ok (.invokevirtual 38, 3) := by decide +kernel
theorem dX2_cells_14 : decode cX2_cells 14 = .ok (.iadd, 1) := by decide +kernel
theorem dX2_cells_15 : decode cX2_cells 15 = .ok (.ireturn, 1) := by decide +kernel
set_option maxRecDepth 20000 in
theorem ggX2_moveOver_X2_table : GoodIn wsX2_moveOver wsX2_table := goodIn_r _ [5, 6, 7, 53, 54] (by decide +kernel) (by decide +kernel)
set_option maxRecDepth 20000 in
theorem gX2_moveOver_X2_table : GoodIn wsX2_moveOver (wsV RX2 42 RX2 yX2_table wsX2_table) := goodIn_app (goodIn_of _ (by decide +kernel)) ggX2_moveOver_X2_table
set_option maxRecDepth 20000 in
theorem ggX2_moveOver_X7_at : GoodIn wsX2_moveOver wsX7_at := goodIn_r _ [12, 13, 55] (by decide +kernel) (by decide +kernel)
set_option maxRecDepth 20000 in
theorem gX2_moveOver_X7_at : GoodIn wsX2_moveOver (wsV RX2 46 RX7 yX7_at wsX7_at) := goodIn_app (goodIn_of _ (by decide +kernel)) ggX2_moveOver_X7_at
set_option maxRecDepth 20000 in
theorem ggX2_moveOver_X7_takeAway : GoodIn wsX2_moveOver wsX7_takeAway := goodIn_r _ [17, 18, 19, 20, 11, 21, 13, 22, 23, 24, 25, 26, 9, 10, 12, 27, 28, 29, 30, 31, 32, 33, 34, 35, 36, 55] (by decide +kernel) (by decide +kernel)
set_option maxRecDepth 20000 in
theorem gX2_moveOver_X7_takeAway : GoodIn wsX2_moveOver (wsV RX2 50 RX7 yX7_takeAway wsX7_takeAway) := goodIn_app (goodIn_of _ (by decide +kernel)) ggX2_moveOver_X7_takeAway
set_option maxRecDepth 20000 in
theorem ggX2_moveOver_X7_takeIn : GoodIn wsX2_moveOver wsX7_takeIn := goodIn_r _ [40, 41, 42, 43, 11, 44, 45, 46, 47, 48, 13, 30, 31, 32, 33, 34, 35, 36, 18, 19, 20, 21, 49, 50, 51, 52, 26, 9, 10, 12, 55] (by decide +kernel) (by decide +kernel)
set_option maxRecDepth 20000 in
theorem gX2_moveOver_X7_takeIn : GoodIn wsX2_moveOver (wsV RX2 53 RX7 yX7_takeIn wsX7_takeIn) := goodIn_app (goodIn_of _ (by decide +kernel)) ggX2_moveOver_X7_takeIn
theorem dX2_moveOver_0 : decode cX2_moveOver 0 = .ok (.aload_n 0, 1) := by decide +kernel
theorem dX2_moveOver_1 : decode cX2_moveOver 1 = .ok (.iload_n 1, 1) := by decide +kernel
theorem dX2_moveOver_2 : decode cX2_moveOver 2 = .ok (.invokevirtual 42, 3) := by decide +kernel
theorem dX2_moveOver_5 : decode cX2_moveOver 5 = .ok (.astore 4, 2) := by decide +kernel
theorem dX2_moveOver_7 : decode cX2_moveOver 7 = .ok (.aload 4, 2) := by decide +kernel
theorem dX2_moveOver_9 : decode cX2_moveOver 9 = .ok (.iload_n 2, 1) := by decide +kernel
theorem dX2_moveOver_10 : decode cX2_moveOver 10 = .ok (.iload_n 3, 1) := by decide +kernel
theorem dX2_moveOver_11 : decode cX2_moveOver 11 = .ok (.invokevirtual 46, 3) := by decide +kernel
theorem dX2_moveOver_14 : decode cX2_moveOver 14 = .ok (.istore 5, 2) := by decide +kernel
theorem dX2_moveOver_16 : decode cX2_moveOver 16 = .ok (.aload 4, 2) := by decide +kernel
theorem dX2_moveOver_18 : decode cX2_moveOver 18 = .ok (.iload_n 2, 1) := by decide +kernel
theorem dX2_moveOver_19 : decode cX2_moveOver 19 = .ok (.iload_n 3, 1) := by decide +kernel
theorem dX2_moveOver_20 : decode cX2_moveOver 20 = .ok (.invokevirtual 50, 3) := by decide +kernel
theorem dX2_moveOver_23 : decode cX2_moveOver 23 = .ok (.pop, 1) := by decide +kernel
theorem dX2_moveOver_24 : decode cX2_moveOver 24 = .ok (.aload_n 0, 1) := by decide +kernel
theorem dX2_moveOver_25 : decode cX2_moveOver 25 = .ok (.iconst 1, 1) := by decide +kernel
theorem dX2_moveOver_26 : decode cX2_moveOver 26 = .ok (.iload_n 1, 1) := by decide +kernel
theorem dX2_moveOver_27 : decode cX2_moveOver 27 = .ok (.isub, 1) := by decide +kernel
theorem dX2_moveOver_28 : decode cX2_moveOver 28 = .ok (.invokevirtual 42, 3) := by decide +kernel
theorem dX2_moveOver_31 : decode cX2_moveOver 31 = .ok (.iload 5, 2) := by decide +kernel
theorem dX2_moveOver_33 : decode cX2_moveOver 33 = .ok (.invokevirtual 53, 3) := by decide +kernel
theorem dX2_moveOver_36 : decode cX2_moveOver 36 = .ok (.ireturn, 1) := by decide +kernel
set_option maxRecDepth 20000 in
theorem ggX2_cellsUpTo_X7_cellsUpTo : GoodIn wsX2_cellsUpTo wsX7_cellsUpTo := goodIn_r _ [7, 8, 9, 10, 6, 11, 12, 13, 14, 15, 16, 17, 18, 19, 22] (by decide +kernel) (by decide +kernel)
set_option maxRecDepth 20000 in
theorem gX2_cellsUpTo_X7_cellsUpTo : GoodIn wsX2_cellsUpTo (wsV RX2 57 RX7 yX7_cellsUpTo wsX7_cellsUpTo) := goodIn_app (goodIn_of _ (by decide +kernel)) ggX2_cellsUpTo_X7_cellsUpTo
theorem dX2_cellsUpTo_0 : decode cX2_cellsUpTo 0 = .ok (.aload_n 0, 1) := by decide +kernel
theorem dX2_cellsUpTo_1 : decode cX2_cellsUpTo 1 = .ok (.getfield 12, 3) := by decide +kernel
theorem dX2_cellsUpTo_4 : decode cX2_cellsUpTo 4 = .ok (.iload_n 1, 1) := by decide +kernel
theorem dX2_cellsUpTo_5 : decode cX2_cellsUpTo 5 = .ok (.invokevirtual 57, 3) := by decide +kernel
theorem dX2_cellsUpTo_8 : decode cX2_cellsUpTo 8 = .ok (.aload_n 0, 1) := by decide +kernel
theorem dX2_cellsUpTo_9 : decode cX2_cellsUpTo 9 = .ok (.getfield 18, 3) := by decide +kernel
theorem dX2_cellsUpTo_12 : decode cX2_cellsUpTo 12 = .ok (.iload_n 1, 1) := by decide +kernel
theorem dX2_cellsUpTo_13 : decode cX2_cellsUpTo 13 = .ok (.invokevirtual 57, 3) := by decide +kernel
theorem dX2_cellsUpTo_16 : decode cX2_cellsUpTo 16 = .ok (.iadd, 1) := by decide +kernel
theorem dX2_cellsUpTo_17 : decode cX2_cellsUpTo 17 = .ok (.ireturn, 1) := by decide +kernel
set_option maxRecDepth 20000 in
theorem ggX2_kthNumberOfBoth_X2_cellsUpTo : GoodIn wsX2_kthNumberOfBoth wsX2_cellsUpTo := goodIn_r _ [5, 6, 7, 8, 9, 10, 11, 12, 13, 14, 15, 16, 17, 18, 19, 20, 21, 22, 23, 24, 25, 26, 27] (by decide +kernel) (by decide +kernel)
set_option maxRecDepth 20000 in
theorem gX2_kthNumberOfBoth_X2_cellsUpTo : GoodIn wsX2_kthNumberOfBoth (wsV RX2 60 RX2 yX2_cellsUpTo wsX2_cellsUpTo) := goodIn_app (goodIn_of _ (by decide +kernel)) ggX2_kthNumberOfBoth_X2_cellsUpTo
theorem dX2_kthNumberOfBoth_0 : decode cX2_kthNumberOfBoth 0 = .ok (.aload_n 0, 1) := by decide +kernel
theorem dX2_kthNumberOfBoth_1 : decode cX2_kthNumberOfBoth 1 = .ok (.bipush 99, 2) := by decide +kernel
theorem dX2_kthNumberOfBoth_3 : decode cX2_kthNumberOfBoth 3 = .ok (.invokevirtual 60, 3) := by decide +kernel
theorem dX2_kthNumberOfBoth_6 : decode cX2_kthNumberOfBoth 6 = .ok (.iload_n 1, 1) := by decide +kernel
theorem dX2_kthNumberOfBoth_7 : decode cX2_kthNumberOfBoth 7 = .ok (.if_icmp .gt 6, 3) := by decide +kernel
theorem dX2_kthNumberOfBoth_10 : decode cX2_kthNumberOfBoth 10 = .ok (.bipush (-9), 2) := by decide +kernel
theorem dX2_kthNumberOfBoth_12 : decode cX2_kthNumberOfBoth 12 = .ok (.ireturn, 1) := by decide +kernel
theorem dX2_kthNumberOfBoth_13 : decode cX2_kthNumberOfBoth 13 = .ok (.iconst 0, 1) := by decide +kernel
theorem dX2_kthNumberOfBoth_14 : decode cX2_kthNumberOfBoth 14 = .ok (.istore_n 2, 1) := by decide +kernel
theorem dX2_kthNumberOfBoth_15 : decode cX2_kthNumberOfBoth 15 = .ok (.bipush 64, 2) := by decide +kernel
theorem dX2_kthNumberOfBoth_17 : decode cX2_kthNumberOfBoth 17 = .ok (.istore_n 3, 1) := by decide +kernel
theorem dX2_kthNumberOfBoth_18 : decode cX2_kthNumberOfBoth 18 = .ok (.iload_n 3, 1) := by decide +kernel
theorem dX2_kthNumberOfBoth_19 : decode cX2_kthNumberOfBoth 19 = .ok (.ifCond .le 27, 3) := by decide +kernel
theorem dX2_kthNumberOfBoth_22 : decode cX2_kthNumberOfBoth 22 = .ok (.aload_n 0, 1) := by decide +kernel
theorem dX2_kthNumberOfBoth_23 : decode cX2_kthNumberOfBoth 23 = .ok (.iload_n 2, 1) := by decide +kernel
theorem dX2_kthNumberOfBoth_24 : decode cX2_kthNumberOfBoth 24 = .ok (.iload_n 3, 1) := by decide +kernel
theorem dX2_kthNumberOfBoth_25 : decode cX2_kthNumberOfBoth 25 = .ok (.iadd, 1) := by decide +kernel
theorem dX2_kthNumberOfBoth_26 : decode cX2_kthNumberOfBoth 26 = .ok (.iconst 1, 1) := by decide +kernel
theorem dX2_kthNumberOfBoth_27 : decode cX2_kthNumberOfBoth 27 = .ok (.isub, 1) := by decide +kernel
theorem dX2_kthNumberOfBoth_28 : decode cX2_kthNumberOfBoth 28 = .ok (.invokevirtual 60, 3) := by decide +kernel
theorem dX2_kthNumberOfBoth_31 : decode cX2_kthNumberOfBoth 31 = .ok (.iload_n 1, 1) := by decide +kernel
theorem dX2_kthNumberOfBoth_32 : decode cX2_kthNumberOfBoth 32 = .ok (.if_icmp .gt 7, 3) := by decide +kernel
theorem dX2_kthNumberOfBoth_35 : decode cX2_kthNumberOfBoth 35 = .ok (.iload_n 2, 1) := by decide +kernel
theorem dX2_kthNumberOfBoth_36 : decode cX2_kthNumberOfBoth 36 = .ok (.iload_n 3, 1) := by decide +kernel
theorem dX2_kthNumberOfBoth_37 : decode cX2_kthNumberOfBoth 37 = .ok (.iadd, 1) := by decide +kernel
theorem dX2_kthNumberOfBoth_38 : decode cX2_kthNumberOfBoth 38 = .ok (.istore_n 2, 1) := by decide +kernel
theorem dX2_kthNumberOfBoth_39 : decode cX2_kthNumberOfBoth 39 = .ok (.iload_n 3, 1) := by decide +kernel
theorem dX2_kthNumberOfBoth_40 : decode cX2_kthNumberOfBoth 40 = .ok (.iconst 2, 1) := by decide +kernel
theorem dX2_kthNumberOfBoth_41 : decode cX2_kthNumberOfBoth 41 = .ok (.idiv, 1) := by decide +kernel
theorem dX2_kthNumberOfBoth_42 : decode cX2_kthNumberOfBoth 42 = .ok (.istore_n 3, 1) := by decide +kernel
theorem dX2_kthNumberOfBoth_43 : decode cX2_kthNumberOfBoth 43 = .ok (.goto (-25), 3) := by decide +kernel
theorem dX2_kthNumberOfBoth_46 : decode cX2_kthNumberOfBoth 46 = .ok (.iload_n 2, 1) := by decide +kernel
theorem dX2_kthNumberOfBoth_47 : decode cX2_kthNumberOfBoth 47 = .ok (.ireturn, 1) := by decide +kernel
set_option maxRecDepth 20000 in
theorem ggX2_tableOfKth_X7_cellsUpTo : GoodIn wsX2_tableOfKth wsX7_cellsUpTo := goodIn_r _ [7, 8, 9, 10, 6, 11, 12, 13, 14, 15, 16, 17, 18, 19, 22] (by decide +kernel) (by decide +kernel)
set_option maxRecDepth 20000 in
theorem gX2_tableOfKth_X7_cellsUpTo : GoodIn wsX2_tableOfKth (wsV RX2 57 RX7 yX7_cellsUpTo wsX7_cellsUpTo) := goodIn_app (goodIn_of _ (by decide +kernel)) ggX2_tableOfKth_X7_cellsUpTo
theorem dX2_tableOfKth_0 : decode cX2_tableOfKth 0 = .ok (.aload_n 0, 1) := by decide +kernel
theorem dX2_tableOfKth_1 : decode cX2_tableOfKth 1 = .ok (.getfield 12, 3) := by decide +kernel
theorem dX2_tableOfKth_4 : decode cX2_tableOfKth 4 = .ok (.iload_n 2, 1) := by decide +kernel
theorem dX2_tableOfKth_5 : decode cX2_tableOfKth 5 = .ok (.invokevirtual 57, 3) := by decide +kernel
theorem dX2_tableOfKth_8 : decode cX2_tableOfKth 8 = .ok (.aload_n 0, 1) := by decide +kernel
theorem dX2_tableOfKth_9 : decode cX2_tableOfKth 9 = .ok (.getfield 18, 3) := by decide +kernel
theorem dX2_tableOfKth_12 : decode cX2_tableOfKth 12 = .ok (.iload_n 2, 1) := by decide +kernel
theorem dX2_tableOfKth_13 : decode cX2_tableOfKth 13 = .ok (.iconst 1, 1) := by decide +kernel
theorem dX2_tableOfKth_14 : decode cX2_tableOfKth 14 = .ok (.isub, 1) := by decide +kernel
theorem dX2_tableOfKth_15 : decode cX2_tableOfKth 15 = .ok (.invokevirtual 57, 3) := by decide +kernel
theorem dX2_tableOfKth_18 : decode cX2_tableOfKth 18 = .ok (.iadd, 1) := by decide +kernel
theorem dX2_tableOfKth_19 : decode cX2_tableOfKth 19 = .ok (.istore_n 3, 1) := by decide +kernel
theorem dX2_tableOfKth_20 : decode cX2_tableOfKth 20 = .ok (.iload_n 1, 1) := by decide +kernel
theorem dX2_tableOfKth_21 : decode cX2_tableOfKth 21 = .ok (.iload_n 3, 1) := by decide +kernel
theorem dX2_tableOfKth_22 : decode cX2_tableOfKth 22 = .ok (.if_icmp .ge 7, 3) := by decide +kernel
theorem dX2_tableOfKth_25 : decode cX2_tableOfKth 25 = .ok (.iconst 0, 1) := by decide +kernel
theorem dX2_tableOfKth_26 : decode cX2_tableOfKth 26 = .ok (.goto 4, 3) := by decide +kernel
theorem dX2_tableOfKth_29 : decode cX2_tableOfKth 29 = .ok (.iconst 1, 1) := by decide +kernel
theorem dX2_tableOfKth_30 : decode cX2_tableOfKth 30 = .ok (.ireturn, 1) := by decide +kernel
set_option maxRecDepth 20000 in
theorem ggX2_pairsUpTo_X7_has : GoodIn wsX2_pairsUpTo wsX7_has := goodIn_r _ [7, 8, 9, 10, 6, 11, 12, 27] (by decide +kernel) (by decide +kernel)
set_option maxRecDepth 20000 in
theorem gX2_pairsUpTo_X7_has : GoodIn wsX2_pairsUpTo (wsV RX2 61 RX7 yX7_has wsX7_has) := goodIn_app (goodIn_of _ (by decide +kernel)) ggX2_pairsUpTo_X7_has
set_option maxRecDepth 20000 in
theorem ggX2_pairsUpTo_X7_at : GoodIn wsX2_pairsUpTo wsX7_at := goodIn_r _ [11, 12, 27] (by decide +kernel) (by decide +kernel)
set_option maxRecDepth 20000 in
theorem gX2_pairsUpTo_X7_at : GoodIn wsX2_pairsUpTo (wsV RX2 46 RX7 yX7_at wsX7_at) := goodIn_app (goodIn_of _ (by decide +kernel)) ggX2_pairsUpTo_X7_at
set_option maxRecDepth 20000 in
theorem ggX2_pairsUpTo_X7_cellsUpTo : GoodIn wsX2_pairsUpTo wsX7_cellsUpTo := goodIn_r _ [17, 18, 19, 20, 6, 21, 8, 9, 10, 11, 12, 22, 23, 24, 27] (by decide +kernel) (by decide +kernel)
set_option maxRecDepth 20000 in
theorem gX2_pairsUpTo_X7_cellsUpTo : GoodIn wsX2_pairsUpTo (wsV RX2 57 RX7 yX7_cellsUpTo wsX7_cellsUpTo) := goodIn_app (goodIn_of _ (by decide +kernel)) ggX2_pairsUpTo_X7_cellsUpTo
theorem dX2_pairsUpTo_0 : decode cX2_pairsUpTo 0 = .ok (.iconst 0, 1) := by decide +kernel
theorem dX2_pairsUpTo_1 : decode cX2_pairsUpTo 1 = .ok (.istore_n 2, 1) := by decide +kernel
theorem dX2_pairsUpTo_2 : decode cX2_pairsUpTo 2 = .ok (.iconst 0, 1) := by decide +kernel
theorem dX2_pairsUpTo_3 : decode cX2_pairsUpTo 3 = .ok (.istore_n 3, 1) := by decide +kernel
theorem dX2_pairsUpTo_4 : decode cX2_pairsUpTo 4 = .ok (.iload_n 3, 1) := by decide +kernel
theorem dX2_pairsUpTo_5 : decode cX2_pairsUpTo 5 = .ok (.bipush 6, 2) := by decide +kernel
theorem dX2_pairsUpTo_7 : decode cX2_pairsUpTo 7 = .ok (.if_icmp .ge 60, 3) := by decide +kernel
theorem dX2_pairsUpTo_10 : decode cX2_pairsUpTo 10 = .ok (.iconst 0, 1) := by decide +kernel
theorem dX2_pairsUpTo_11 : decode cX2_pairsUpTo 11 = .ok (.istore 4, 2) := by decide +kernel
theorem dX2_pairsUpTo_13 : decode cX2_pairsUpTo 13 = .ok (.iload 4, 2) := by decide +kernel
theorem dX2_pairsUpTo_15 : decode cX2_pairsUpTo 15 = .ok (.bipush 6, 2) := by decide +kernel
theorem dX2_pairsUpTo_17 : decode cX2_pairsUpTo 17 = .ok (.if_icmp .ge 44, 3) := by decide +kernel
theorem dX2_pairsUpTo_20 : decode cX2_pairsUpTo 20 = .ok (.aload_n 0, 1) := by decide +kernel
theorem dX2_pairsUpTo_21 : decode cX2_pairsUpTo 21 = .ok (.getfield 12, 3) := by decide +kernel
theorem dX2_pairsUpTo_24 : decode cX2_pairsUpTo 24 = .ok (.iload_n 3, 1) := by decide +kernel
theorem dX2_pairsUpTo_25 : decode cX2_pairsUpTo 25 = .ok (.iload 4, 2) := by decide +kernel
theorem dX2_pairsUpTo_27 : decode cX2_pairsUpTo 27 = .ok (.invokevirtual 61, 3) := by decide +kernel
theorem dX2_pairsUpTo_30 : decode cX2_pairsUpTo 30 = .ok (.ifCond .eq 25, 3) := by decide +kernel
theorem dX2_pairsUpTo_33 : decode cX2_pairsUpTo 33 = .ok (.iload_n 2, 1) := by decide +kernel
theorem dX2_pairsUpTo_34 : decode cX2_pairsUpTo 34 = .ok (.aload_n 0, 1) := by decide +kernel
theorem dX2_pairsUpTo_35 : decode cX2_pairsUpTo 35 = .ok (.getfield 18, 3) := by decide +kernel
theorem dX2_pairsUpTo_38 : decode cX2_pairsUpTo 38 = .ok (.iload_n 1, 1) := by decide +kernel
theorem dX2_pairsUpTo_39 : decode cX2_pairsUpTo 39 = .ok (.aload_n 0, 1) := by decide +kernel
theorem dX2_pairsUpTo_40 : decode cX2_pairsUpTo 40 = .ok (.getfield 12, 3) := by decide +kernel
theorem dX2_pairsUpTo_43 : decode cX2_pairsUpTo 43 = .ok (.iload_n 3, 1) := by decide +kernel
theorem dX2_pairsUpTo_44 : decode cX2_pairsUpTo 44 = .ok (.iload 4, 2) := by decide +kernel
theorem dX2_pairsUpTo_46 : decode cX2_pairsUpTo 46 = .ok (.invokevirtual 46, 3) := by decide +kernel
theorem dX2_pairsUpTo_49 : decode cX2_pairsUpTo 49 = .ok (.isub, 1) := by decide +kernel
theorem dX2_pairsUpTo_50 : decode cX2_pairsUpTo 50 = .ok (.invokevirtual 57, 3) := by decide +kernel
theorem dX2_pairsUpTo_53 : decode cX2_pairsUpTo 53 = .ok (.iadd, 1) := by decide +kernel
theorem dX2_pairsUpTo_54 : decode cX2_pairsUpTo 54 = .ok (.istore_n 2, 1) := by decide +kernel
theorem dX2_pairsUpTo_55 : decode cX2_pairsUpTo 55 = .ok (.iinc 4 1, 3) := by decide +kernel
theorem dX2_pairsUpTo_58 : decode cX2_pairsUpTo 58 = .ok (.goto (-45), 3) := by decide +kernel
theorem dX2_pairsUpTo_61 : decode cX2_pairsUpTo 61 = .ok (.iinc 3 1, 3) := by decide +kernel
theorem dX2_pairsUpTo_64 : decode cX2_pairsUpTo 64 = .ok (.goto (-60), 3) := by decide +kernel
theorem dX2_pairsUpTo_67 : decode cX2_pairsUpTo 67 = .ok (.iload_n 2, 1) := by decide +kernel
theorem dX2_pairsUpTo_68 : decode cX2_pairsUpTo 68 = .ok (.ireturn, 1) := by decide +kernel
set_option maxRecDepth 20000 in
theorem ggX2_kthSumOfPair_X2_pairsUpTo : GoodIn wsX2_kthSumOfPair wsX2_pairsUpTo := goodIn_r _ [5, 6, 7, 8, 9, 10, 11, 12, 13, 14, 15, 16, 17, 18, 19, 20, 21, 22, 23, 24, 25, 26, 27, 28, 29, 30, 31, 32] (by decide +kernel) (by decide +kernel)
set_option maxRecDepth 20000 in
theorem gX2_kthSumOfPair_X2_pairsUpTo : GoodIn wsX2_kthSumOfPair (wsV RX2 65 RX2 yX2_pairsUpTo wsX2_pairsUpTo) := goodIn_app (goodIn_of _ (by decide +kernel)) ggX2_kthSumOfPair_X2_pairsUpTo
theorem dX2_kthSumOfPair_0 : decode cX2_kthSumOfPair 0 = .ok (.aload_n 0, 1) := by decide +kernel
theorem dX2_kthSumOfPair_1 : decode cX2_kthSumOfPair 1 = .ok (.sipush 198, 3) := by decide +kernel
theorem dX2_kthSumOfPair_4 : decode cX2_kthSumOfPair 4 = .ok (.invokevirtual 65, 3) := by decide +kernel
theorem dX2_kthSumOfPair_7 : decode cX2_kthSumOfPair 7 = .ok (.iload_n 1, 1) := by decide +kernel
theorem dX2_kthSumOfPair_8 : decode cX2_kthSumOfPair 8 = .ok (.if_icmp .gt 6, 3) := by decide +kernel
theorem dX2_kthSumOfPair_11 : decode cX2_kthSumOfPair 11 = .ok (.bipush (-9), 2) := by decide +kernel
theorem dX2_kthSumOfPair_13 : decode cX2_kthSumOfPair 13 = .ok (.ireturn, 1) := by decide +kernel
theorem dX2_kthSumOfPair_14 : decode cX2_kthSumOfPair 14 = .ok (.iconst 0, 1) := by decide +kernel
theorem dX2_kthSumOfPair_15 : decode cX2_kthSumOfPair 15 = .ok (.istore_n 2, 1) := by decide +kernel
theorem dX2_kthSumOfPair_16 : decode cX2_kthSumOfPair 16 = .ok (.sipush 128, 3) := by decide +kernel
theorem dX2_kthSumOfPair_19 : decode cX2_kthSumOfPair 19 = .ok (.istore_n 3, 1) := by decide +kernel
theorem dX2_kthSumOfPair_20 : decode cX2_kthSumOfPair 20 = .ok (.iload_n 3, 1) := by decide +kernel
theorem dX2_kthSumOfPair_21 : decode cX2_kthSumOfPair 21 = .ok (.ifCond .le 27, 3) := by decide +kernel
theorem dX2_kthSumOfPair_24 : decode cX2_kthSumOfPair 24 = .ok (.aload_n 0, 1) := by decide +kernel
theorem dX2_kthSumOfPair_25 : decode cX2_kthSumOfPair 25 = .ok (.iload_n 2, 1) := by decide +kernel
theorem dX2_kthSumOfPair_26 : decode cX2_kthSumOfPair 26 = .ok (.iload_n 3, 1) := by decide +kernel
theorem dX2_kthSumOfPair_27 : decode cX2_kthSumOfPair 27 = .ok (.iadd, 1) := by decide +kernel
theorem dX2_kthSumOfPair_28 : decode cX2_kthSumOfPair 28 = .ok (.iconst 1, 1) := by decide +kernel
theorem dX2_kthSumOfPair_29 : decode cX2_kthSumOfPair 29 = .ok (.isub, 1) := by decide +kernel
theorem dX2_kthSumOfPair_30 : decode cX2_kthSumOfPair 30 = .ok (.invokevirtual 65, 3) := by decide +kernel
theorem dX2_kthSumOfPair_33 : decode cX2_kthSumOfPair 33 = .ok (.iload_n 1, 1) := by decide +kernel
theorem dX2_kthSumOfPair_34 : decode cX2_kthSumOfPair 34 = .ok (.if_icmp .gt 7, 3) := by decide +kernel
theorem dX2_kthSumOfPair_37 : decode cX2_kthSumOfPair 37 = .ok (.iload_n 2, 1) := by decide +kernel
theorem dX2_kthSumOfPair_38 : decode cX2_kthSumOfPair 38 = .ok (.iload_n 3, 1) := by decide +kernel
theorem dX2_kthSumOfPair_39 : decode cX2_kthSumOfPair 39 = .ok (.iadd, 1) := by decide +kernel
theorem dX2_kthSumOfPair_40 : decode cX2_kthSumOfPair 40 = .ok (.istore_n 2, 1) := by decide +kernel
theorem dX2_kthSumOfPair_41 : decode cX2_kthSumOfPair 41 = .ok (.iload_n 3, 1) := by decide +kernel
theorem dX2_kthSumOfPair_42 : decode cX2_kthSumOfPair 42 = .ok (.iconst 2, 1) := by decide +kernel
theorem dX2_kthSumOfPair_43 : decode cX2_kthSumOfPair 43 = .ok (.idiv, 1) := by decide +kernel
theorem dX2_kthSumOfPair_44 : decode cX2_kthSumOfPair 44 = .ok (.istore_n 3, 1) := by decide +kernel
theorem dX2_kthSumOfPair_45 : decode cX2_kthSumOfPair 45 = .ok (.goto (-25), 3) := by decide +kernel
theorem dX2_kthSumOfPair_48 : decode cX2_kthSumOfPair 48 = .ok (.iload_n 2, 1) := by decide +kernel
theorem dX2_kthSumOfPair_49 : decode cX2_kthSumOfPair 49 = .ok (.ireturn, 1) := by decide +kernel
theorem dX3_init_0 : decode cX3_init 0 = .ok (.aload_n 0, 1) := by decide +kernel
theorem dX3_init_1 : decode cX3_init 1 = .ok (.invokespecial 3, 3) := by decide +kernel
theorem dX3_init_4 : decode cX3_init 4 = .ok (.aload_n 0, 1) := by decide +kernel
theorem dX3_init_5 : decode cX3_init 5 = .ok (.sipush 1008, 3) := by decide +kernel
theorem dX3_init_8 : decode cX3_init 8 = .ok (.newarray .int, 2) := by decide +kernel
theorem dX3_init_10 : decode cX3_init 10 = .ok (.putfield 9, 3) := by decide +kernel
theorem dX3_init_13 : decode cX3_init 13 = .ok (.aload_n 0, 1) := by decide +kernel
theorem dX3_init_14 : decode cX3_init 14 = .ok (.iconst 0, 1) := by decide +kernel
theorem dX3_init_15 : decode cX3_init 15 = .ok (.putfield 15, 3) := by decide +kernel
theorem dX3_init_18 : decode cX3_init 18 = .ok (.aload_n 0, 1) := by decide +kernel
theorem dX3_init_19 : decode cX3_init 19 = .ok (.iconst 0, 1) := by decide +kernel
theorem dX3_init_20 : decode cX3_init 20 = .ok (.putfield 19, 3) := by decide +kernel
theorem dX3_init_23 : decode cX3_init 23 = .ok (.return_, 1) := by decide +kernel
theorem dX3_isEmpty_0 : decode cX3_isEmpty 0 = .ok (.aload_n 0, 1) := by decide +kernel
theorem dX3_isEmpty_1 : decode cX3_isEmpty 1 = .ok (.getfield 19, 3) := by decide +kernel
theorem dX3_isEmpty_4 : decode cX3_isEmpty 4 = .ok (.ifCond .ne 7, 3) := by decide +kernel
theorem dX3_isEmpty_7 : decode cX3_isEmpty 7 = .ok (.iconst 1, 1) := by decide +kernel
theorem dX3_isEmpty_8 : decode cX3_isEmpty 8 = .ok (.goto 4, 3) := by decide +kernel
theorem dX3_isEmpty_11 : decode cX3_isEmpty 11 = .ok (.iconst 0, 1) := by decide +kernel
theorem dX3_isEmpty_12 : decode cX3_isEmpty 12 = .ok (.ireturn, 1) := by decide +kernel
theorem dX3_remembered_0 : decode cX3_remembered 0 = .ok (.aload_n 0, 1) := by decide +kernel
theorem dX3_remembered_1 : decode cX3_remembered 1 = .ok (.getfield 19, 3) := by decide +kernel
theorem dX3_remembered_4 : decode cX3_remembered 4 = .ok (.ireturn, 1) := by decide +kernel
theorem dX3_forgetAll_0 : decode cX3_forgetAll 0 = .ok (.aload_n 0, 1) := by decide +kernel
theorem dX3_forgetAll_1 : decode cX3_forgetAll 1 = .ok (.iconst 0, 1) := by decide +kernel
theorem dX3_forgetAll_2 : decode cX3_forgetAll 2 = .ok (.putfield 19, 3) := by decide +kernel
theorem dX3_forgetAll_5 : decode cX3_forgetAll 5 = .ok (.return_, 1) := by decide +kernel
set_option maxRecDepth 20000 in
theorem ggX3_remember_X3_startBehindNewest : GoodIn wsX3_remember wsX3_startBehindNewest := goodIn_r _ [8, 2, 1, 26, 27, 28] (by decide +kernel) (by decide +kernel)
set_option maxRecDepth 20000 in
theorem gX3_remember_X3_startBehindNewest : GoodIn wsX3_remember (wsV RX3 22 RX3 yX3_startBehindNewest wsX3_startBehindNewest) := goodIn_app (goodIn_of _ (by decide +kernel)) ggX3_remember_X3_startBehindNewest
set_option maxRecDepth 20000 in
theorem ggX3_remember_X2_writeTo : GoodIn wsX3_remember wsX2_writeTo := goodIn_r _ [13, 14, 15, 16, 17, 18, 19, 20, 21, 22, 23, 24, 25, 29, 30, 31] (by decide +kernel) (by decide +kernel)
set_option maxRecDepth 20000 in
theorem gX3_remember_X2_writeTo : GoodIn wsX3_remember (wsV RX3 26 RX2 yX2_writeTo wsX2_writeTo) := goodIn_app (goodIn_of _ (by decide +kernel)) ggX3_remember_X2_writeTo
theorem dX3_remember_0 : decode cX3_remember 0 = .ok (.aload_n 0, 1) := by decide +kernel
theorem dX3_remember_1 : decode cX3_remember 1 = .ok (.getfield 19, 3) := by decide +kernel
theorem dX3_remember_4 : decode cX3_remember 4 = .ok (.bipush 14, 2) := by decide +kernel
theorem dX3_remember_6 : decode cX3_remember 6 = .ok (.if_icmp .ne 26, 3) := by decide +kernel
theorem dX3_remember_9 : decode cX3_remember 9 = .ok (.aload_n 0, 1) := by decide +kernel
theorem dX3_remember_10 : decode cX3_remember 10 = .ok (.aload_n 0, 1) := by decide +kernel
theorem dX3_remember_11 : decode cX3_remember 11 = .ok (.getfield 15, 3) := by decide +kernel
theorem dX3_remember_14 : decode cX3_remember 14 = .ok (.iconst 1, 1) := by decide +kernel
theorem dX3_remember_15 : decode cX3_remember 15 = .ok (.iadd, 1) := by decide +kernel
theorem dX3_remember_16 : decode cX3_remember 16 = .ok (.bipush 14, 2) := by decide +kernel
theorem dX3_remember_18 : decode cX3_remember 18 = .ok (.irem, 1) := by decide +kernel
theorem dX3_remember_19 : decode cX3_remember 19 = .ok (.putfield 15, 3) := by decide +kernel
theorem dX3_remember_22 : decode cX3_remember 22 = .ok (.aload_n 0, 1) := by decide +kernel
theorem dX3_remember_23 : decode cX3_remember 23 = .ok (.dup, 1) := by decide +kernel
theorem dX3_remember_24 : decode cX3_remember 24 = .ok (.getfield 19, 3) := by decide +kernel
theorem dX3_remember_27 : decode cX3_remember 27 = .ok (.iconst 1, 1) := by decide +kernel
theorem dX3_remember_28 : decode cX3_remember 28 = .ok (.isub, 1) := by decide +kernel
theorem dX3_remember_29 : decode cX3_remember 29 = .ok (.putfield 19, 3) := by decide +kernel
theorem dX3_remember_32 : decode cX3_remember 32 = .ok (.aload_n 1, 1) := by decide +kernel
theorem dX3_remember_33 : decode cX3_remember 33 = .ok (.aload_n 0, 1) := by decide +kernel
theorem dX3_remember_34 : decode cX3_remember 34 = .ok (.getfield 9, 3) := by decide +kernel
theorem dX3_remember_37 : decode cX3_remember 37 = .ok (.aload_n 0, 1) := by decide +kernel
theorem dX3_remember_38 : decode cX3_remember 38 = .ok (.invokevirtual 22, 3) := by decide +kernel
theorem dX3_remember_41 : decode cX3_remember 41 = .ok (.invokevirtual 26, 3) := by decide +kernel
theorem dX3_remember_44 : decode cX3_remember 44 = .ok (.aload_n 0, 1) := by decide +kernel
theorem dX3_remember_45 : decode cX3_remember 45 = .ok (.dup, 1) := by decide +kernel
theorem dX3_remember_46 : decode cX3_remember 46 = .ok (.getfield 19, 3) := by decide +kernel
theorem dX3_remember_49 : decode cX3_remember 49 = .ok (.iconst 1, 1) := by decide +kernel
theorem dX3_remember_50 : decode cX3_remember 50 = .ok (.iadd, 1) := by decide +kernel
theorem dX3_remember_51 : decode cX3_remember 51 = .ok (.putfield 19, 3) := by decide +kernel
theorem dX3_remember_54 : decode cX3_remember 54 = .ok (.return_, 1) := by decide +kernel
set_option maxRecDepth 20000 in
theorem ggX3_takeBack_X3_startBehindNewest : GoodIn wsX3_takeBack wsX3_startBehindNewest := goodIn_r _ [7, 8, 1, 26, 27, 28] (by decide +kernel) (by decide +kernel)
set_option maxRecDepth 20000 in
theorem gX3_takeBack_X3_startBehindNewest : GoodIn wsX3_takeBack (wsV RX3 22 RX3 yX3_startBehindNewest wsX3_startBehindNewest) := goodIn_app (goodIn_of _ (by decide +kernel)) ggX3_takeBack_X3_startBehindNewest
set_option maxRecDepth 20000 in
theorem ggX3_takeBack_X2_readFrom : GoodIn wsX3_takeBack wsX2_readFrom := goodIn_r _ [13, 14, 15, 16, 17, 18, 19, 20, 21, 22, 23, 24, 25, 29, 30, 31] (by decide +kernel) (by decide +kernel)
set_option maxRecDepth 20000 in
theorem gX3_takeBack_X2_readFrom : GoodIn wsX3_takeBack (wsV RX3 32 RX2 yX2_readFrom wsX2_readFrom) := goodIn_app (goodIn_of _ (by decide +kernel)) ggX3_takeBack_X2_readFrom
theorem dX3_takeBack_0 : decode cX3_takeBack 0 = .ok (.aload_n 0, 1) := by decide +kernel
theorem dX3_takeBack_1 : decode cX3_takeBack 1 = .ok (.getfield 19, 3) := by decide +kernel
theorem dX3_takeBack_4 : decode cX3_takeBack 4 = .ok (.ifCond .le 25, 3) := by decide +kernel
theorem dX3_takeBack_7 : decode cX3_takeBack 7 = .ok (.aload_n 0, 1) := by decide +kernel
theorem dX3_takeBack_8 : decode cX3_takeBack 8 = .ok (.dup, 1) := by decide +kernel
theorem dX3_takeBack_9 : decode cX3_takeBack 9 = .ok (.getfield 19, 3) := by decide +kernel
theorem dX3_takeBack_12 : decode cX3_takeBack 12 = .ok (.iconst 1, 1) := by decide +kernel
theorem dX3_takeBack_13 : decode cX3_takeBack 13 = .ok (.isub, 1) := by decide +kernel
theorem dX3_takeBack_14 : decode cX3_takeBack 14 = .ok (.putfield 19, 3) := by decide +kernel
theorem dX3_takeBack_17 : decode cX3_takeBack 17 = .ok (.aload_n 1, 1) := by decide +kernel
theorem dX3_takeBack_18 : decode cX3_takeBack 18 = .ok (.aload_n 0, 1) := by decide +kernel
theorem dX3_takeBack_19 : decode cX3_takeBack 19 = .ok (.getfield 9, 3) := by decide +kernel
theorem dX3_takeBack_22 : decode cX3_takeBack 22 = .ok (.aload_n 0, 1) := by decide +kernel
theorem dX3_takeBack_23 : decode cX3_takeBack 23 = .ok (.invokevirtual 22, 3) := by decide +kernel
theorem dX3_takeBack_26 : decode cX3_takeBack 26 = .ok (.invokevirtual 32, 3) := by decide +kernel
theorem dX3_takeBack_29 : decode cX3_takeBack 29 = .ok (.return_, 1) := by decide +kernel
theorem dX3_startBehindNewest_0 : decode cX3_startBehindNewest 0 = .ok (.aload_n 0, 1) := by decide +kernel
theorem dX3_startBehindNewest_1 : decode cX3_startBehindNewest 1 = .ok (.getfield 15, 3) := by decide +kernel
theorem dX3_startBehindNewest_4 : decode cX3_startBehindNewest 4 = .ok (.aload_n 0, 1) := by decide +kernel
theorem dX3_startBehindNewest_5 : decode cX3_startBehindNewest 5 = .ok (.getfield 19, 3) := by decide +kernel
theorem dX3_startBehindNewest_8 : decode cX3_startBehindNewest 8 = .ok (.iadd, 1) := by decide +kernel
theorem dX3_startBehindNewest_9 : decode cX3_startBehindNewest 9 = .ok (.bipush 14, 2) := by decide +kernel
theorem dX3_startBehindNewest_11 : decode cX3_startBehindNewest 11 = .ok (.irem, 1) := by decide +kernel
theorem dX3_startBehindNewest_12 : decode cX3_startBehindNewest 12 = .ok (.bipush 72, 2) := by decide +kernel
theorem dX3_startBehindNewest_14 : decode cX3_startBehindNewest 14 = .ok (.imul, 1) := by decide +kernel
theorem dX3_startBehindNewest_15 : decode cX3_startBehindNewest 15 = .ok (.ireturn, 1) := by decide +kernel
set_option maxRecDepth 20000 in
theorem ggX4_init_X2_init : GoodIn wsX4_init wsX2_init := goodIn_r _ [14, 15, 2, 3, 16, 17, 18, 19, 20, 21, 22, 23, 24, 25, 26, 27, 28, 29, 30, 39, 31, 32] (by decide +kernel) (by decide +kernel)
set_option maxRecDepth 20000 in
theorem gX4_init_X2_init_n11 : GoodIn wsX4_init (wsX2_init) := ggX4_init_X2_init
theorem dX4_init_0 : decode cX4_init 0 = .ok (.aload_n 0, 1) := by decide +kernel
theorem dX4_init_1 : decode cX4_init 1 = .ok (.invokespecial 3, 3) := by decide +kernel
theorem dX4_init_4 : decode cX4_init 4 = .ok (.aload_n 0, 1) := by decide +kernel
theorem dX4_init_5 : decode cX4_init 5 = .ok (.new 9, 3) := by decide +kernel
theorem dX4_init_8 : decode cX4_init 8 = .ok (.dup, 1) := by decide +kernel
theorem dX4_init_9 : decode cX4_init 9 = .ok (.invokespecial 11, 3) := by decide +kernel
theorem dX4_init_12 : decode cX4_init 12 = .ok (.putfield 12, 3) := by decide +kernel
theorem dX4_init_15 : decode cX4_init 15 = .ok (.aload_n 0, 1) := by decide +kernel
theorem dX4_init_16 : decode cX4_init 16 = .ok (.iconst 0, 1) := by decide +kernel
theorem dX4_init_17 : decode cX4_init 17 = .ok (.putfield 18, 3) := by decide +kernel
theorem dX4_init_20 : decode cX4_init 20 = .ok (.aload_n 0, 1) := by decide +kernel
theorem dX4_init_21 : decode cX4_init 21 = .ok (.iconst 0, 1) := by decide +kernel
theorem dX4_init_22 : decode cX4_init 22 = .ok (.putfield 22, 3) := by decide +kernel
theorem dX4_init_25 : decode cX4_init 25 = .ok (.aload_n 0, 1) := by decide +kernel
theorem dX4_init_26 : decode cX4_init 26 = .ok (.iconst 0, 1) := by decide +kernel
theorem dX4_init_27 : decode cX4_init 27 = .ok (.putfield 26, 3) := by decide +kernel
theorem dX4_init_30 : decode cX4_init 30 = .ok (.aload_n 0, 1) := by decide +kernel
theorem dX4_init_31 : decode cX4_init 31 = .ok (.iconst 0, 1) := by decide +kernel
theorem dX4_init_32 : decode cX4_init 32 = .ok (.putfield 29, 3) := by decide +kernel
theorem dX4_init_35 : decode cX4_init 35 = .ok (.aload_n 0, 1) := by decide +kernel
theorem dX4_init_36 : decode cX4_init 36 = .ok (.iconst (-1), 1) := by decide +kernel
theorem dX4_init_37 : decode cX4_init 37 = .ok (.putfield 32, 3) := by decide +kernel
theorem dX4_init_40 : decode cX4_init 40 = .ok (.return_, 1) := by decide +kernel
theorem dX4_tables_0 : decode cX4_tables 0 = .ok (.aload_n 0, 1) := by decide +kernel
theorem dX4_tables_1 : decode cX4_tables 1 = .ok (.getfield 12, 3) := by decide +kernel
theorem dX4_tables_4 : decode cX4_tables 4 = .ok (.areturn, 1) := by decide +kernel
set_option maxRecDepth 20000 in
theorem ggX4_read_X2_wipe : GoodIn wsX4_read wsX2_wipe := goodIn_r _ [8, 9, 10, 11, 12, 13, 14, 15, 16, 90, 91, 92] (by decide +kernel) (by decide +kernel)
set_option maxRecDepth 20000 in
theorem gX4_read_X2_wipe : GoodIn wsX4_read (wsV RX4 35 RX2 yX2_wipe wsX2_wipe) := goodIn_app (goodIn_of _ (by decide +kernel)) ggX4_read_X2_wipe
set_option maxRecDepth 20000 in
theorem ggX4_read_X4_begin : GoodIn wsX4_read wsX4_begin := goodIn_r _ [21, 3, 22, 23, 24, 84, 85, 86, 87, 88, 89] (by decide +kernel) (by decide +kernel)
set_option maxRecDepth 20000 in
theorem gX4_read_X4_begin : GoodIn wsX4_read (wsV RX4 38 RX4 yX4_begin wsX4_begin) := goodIn_app (goodIn_of _ (by decide +kernel)) ggX4_read_X4_begin
set_option maxRecDepth 20000 in
theorem ggX4_read_X8_length : GoodIn wsX4_read wsX8_length := goodIn_r _ [29, 30, 93, 94] (by decide +kernel) (by decide +kernel)
set_option maxRecDepth 20000 in
theorem gX4_read_X8_length : GoodIn wsX4_read (wsV RX4 42 RX8 yX8_length wsX8_length) := goodIn_app (goodIn_of _ (by decide +kernel)) ggX4_read_X8_length
set_option maxRecDepth 20000 in
theorem ggX4_read_X8_codeAt : GoodIn wsX4_read wsX8_codeAt := goodIn_r _ [34, 30, 35, 93, 94] (by decide +kernel) (by decide +kernel)
set_option maxRecDepth 20000 in
theorem gX4_read_X8_codeAt : GoodIn wsX4_read (wsV RX4 48 RX8 yX8_codeAt wsX8_codeAt) := goodIn_app (goodIn_of _ (by decide +kernel)) ggX4_read_X8_codeAt
set_option maxRecDepth 20000 in
theorem ggX4_read_X4_takes : GoodIn wsX4_read wsX4_takes := goodIn_r _ [39, 2, 24, 40, 41, 42, 20, 43, 1, 3, 22, 23, 44, 45, 46, 7, 47, 9, 10, 48, 49, 50, 14, 51, 16, 52, 53, 54, 55, 56, 57, 58, 59, 60, 61, 62, 63, 64, 65, 66, 67, 68, 69, 70, 71, 72, 73, 74, 75, 76, 77, 78, 79, 80, 81, 82, 83, 17, 18, 19, 21, 84, 85, 86, 87, 88, 89, 90, 91, 92] (by decide +kernel) (by decide +kernel)
set_option maxRecDepth 20000 in
theorem gX4_read_X4_takes : GoodIn wsX4_read (wsV RX4 52 RX4 yX4_takes wsX4_takes) := goodIn_app (goodIn_of _ (by decide +kernel)) ggX4_read_X4_takes
set_option maxRecDepth 20000 in
theorem ggX4_read_X4_canEndTable : GoodIn wsX4_read wsX4_canEndTable := goodIn_r _ [83, 24, 23, 22, 84, 85, 86, 87, 88, 89] (by decide +kernel) (by decide +kernel)
set_option maxRecDepth 20000 in
theorem gX4_read_X4_canEndTable : GoodIn wsX4_read (wsV RX4 56 RX4 yX4_canEndTable wsX4_canEndTable) := goodIn_app (goodIn_of _ (by decide +kernel)) ggX4_read_X4_canEndTable
theorem dX4_read_0 : decode cX4_read 0 = .ok (.aload_n 0, 1) := by decide +kernel
theorem dX4_read_1 : decode cX4_read 1 = .ok (.getfield 12, 3) := by decide +kernel
theorem dX4_read_4 : decode cX4_read 4 = .ok (.invokevirtual 35, 3) := by decide +kernel
theorem dX4_read_7 : decode cX4_read 7 = .ok (.aload_n 0, 1) := by decide +kernel
theorem dX4_read_8 : decode cX4_read 8 = .ok (.iconst 0, 1) := by decide +kernel
theorem dX4_read_9 : decode cX4_read 9 = .ok (.putfield 18, 3) := by decide +kernel
theorem dX4_read_12 : decode cX4_read 12 = .ok (.aload_n 0, 1) := by decide +kernel
theorem dX4_read_13 : decode cX4_read 13 = .ok (.iconst 0, 1) := by decide +kernel
theorem dX4_read_14 : decode cX4_read 14 = .ok (.invokevirtual 38, 3) := by decide +kernel
theorem dX4_read_17 : decode cX4_read 17 = .ok (.aload_n 1, 1) := by decide +kernel
theorem dX4_read_18 : decode cX4_read 18 = .ok (.invokevirtual 42, 3) := by decide +kernel
theorem dX4_read_21 : decode cX4_read 21 = .ok (.istore_n 2, 1) := by decide +kernel
theorem dX4_read_22 : decode cX4_read 22 = .ok (.iconst 0, 1) := by decide +kernel
theorem dX4_read_23 : decode cX4_read 23 = .ok (.istore_n 3, 1) := by decide +kernel
theorem dX4_read_24 : decode cX4_read 24 = .ok (.iload_n 3, 1) := by decide +kernel
theorem dX4_read_25 : decode cX4_read 25 = .ok (.iload_n 2, 1) := by decide +kernel
theorem dX4_read_26 : decode cX4_read 26 = .ok (.if_icmp .ge 23, 3) := by decide +kernel
theorem dX4_read_29 : decode cX4_read 29 = .ok (.aload_n 0, 1) := by decide +kernel
theorem dX4_read_30 : decode cX4_read 30 = .ok (.aload_n 1, 1) := by decide +kernel
theorem dX4_read_31 : decode cX4_read 31 = .ok (.iload_n 3, 1) := by decide +kernel
theorem dX4_read_32 : decode cX4_read 32 = .ok (.invokevirtual 48, 3) := by decide +kernel
theorem dX4_read_35 : decode cX4_read 35 = .ok (.invokevirtual 52, 3) := by decide +kernel
theorem dX4_read_38 : decode cX4_read 38 = .ok (.ifCond .ne 5, 3) := by decide +kernel
theorem dX4_read_41 : decode cX4_read 41 = .ok (.iload_n 3, 1) := by decide +kernel
theorem dX4_read_42 : decode cX4_read 42 = .ok (.ireturn, 1) := by decide +kernel
theorem dX4_read_43 : decode cX4_read 43 = .ok (.iinc 3 1, 3) := by decide +kernel
theorem dX4_read_46 : decode cX4_read 46 = .ok (.goto (-22), 3) := by decide +kernel
theorem dX4_read_49 : decode cX4_read 49 = .ok (.aload_n 0, 1) := by decide +kernel
theorem dX4_read_50 : decode cX4_read 50 = .ok (.getfield 18, 3) := by decide +kernel
theorem dX4_read_53 : decode cX4_read 53 = .ok (.ifCond .eq 23, 3) := by decide +kernel
theorem dX4_read_56 : decode cX4_read 56 = .ok (.aload_n 0, 1) := by decide +kernel
theorem dX4_read_57 : decode cX4_read 57 = .ok (.getfield 22, 3) := by decide +kernel
theorem dX4_read_60 : decode cX4_read 60 = .ok (.iconst 1, 1) := by decide +kernel
theorem dX4_read_61 : decode cX4_read 61 = .ok (.if_icmp .ne 15, 3) := by decide +kernel
theorem dX4_read_64 : decode cX4_read 64 = .ok (.aload_n 0, 1) := by decide +kernel
theorem dX4_read_65 : decode cX4_read 65 = .ok (.invokevirtual 56, 3) := by decide +kernel
theorem dX4_read_68 : decode cX4_read 68 = .ok (.ifCond .eq 8, 3) := by decide +kernel
theorem dX4_read_71 : decode cX4_read 71 = .ok (.bipush (-9), 2) := by decide +kernel
theorem dX4_read_73 : decode cX4_read 73 = .ok (.goto 4, 3) := by decide +kernel
theorem dX4_read_76 : decode cX4_read 76 = .ok (.iload_n 2, 1) := by decide +kernel
theorem dX4_read_77 : decode cX4_read 77 = .ok (.ireturn, 1) := by decide +kernel
theorem dX4_begin_0 : decode cX4_begin 0 = .ok (.aload_n 0, 1) := by decide +kernel
theorem dX4_begin_1 : decode cX4_begin 1 = .ok (.iload_n 1, 1) := by decide +kernel
theorem dX4_begin_2 : decode cX4_begin 2 = .ok (.putfield 22, 3) := by decide +kernel
theorem dX4_begin_5 : decode cX4_begin 5 = .ok (.aload_n 0, 1) := by decide +kernel
theorem dX4_begin_6 : decode cX4_begin 6 = .ok (.iconst 0, 1) := by decide +kernel
theorem dX4_begin_7 : decode cX4_begin 7 = .ok (.putfield 26, 3) := by decide +kernel
theorem dX4_begin_10 : decode cX4_begin 10 = .ok (.aload_n 0, 1) := by decide +kernel
theorem dX4_begin_11 : decode cX4_begin 11 = .ok (.iconst 0, 1) := by decide +kernel
theorem dX4_begin_12 : decode cX4_begin 12 = .ok (.putfield 29, 3) := by decide +kernel
theorem dX4_begin_15 : decode cX4_begin 15 = .ok (.aload_n 0, 1) := by decide +kernel
theorem dX4_begin_16 : decode cX4_begin 16 = .ok (.iconst (-1), 1) := by decide +kernel
theorem dX4_begin_17 : decode cX4_begin 17 = .ok (.putfield 32, 3) := by decide +kernel
theorem dX4_begin_20 : decode cX4_begin 20 = .ok (.return_, 1) := by decide +kernel
set_option maxRecDepth 20000 in
theorem ggX4_takes_X4_takesTens : GoodIn wsX4_takes wsX4_takesTens := goodIn_r _ [7, 8, 9, 10, 11, 2, 12, 13, 14, 15, 16, 17, 18, 19, 20, 21, 22, 23, 24, 25, 26, 27, 6, 28, 29, 30, 31, 32, 33, 34, 35, 36, 61, 62, 63, 64, 65, 66, 67, 68, 69] (by decide +kernel) (by decide +kernel)
set_option maxRecDepth 20000 in
theorem gX4_takes_X4_takesTens : GoodIn wsX4_takes (wsV RX4 60 RX4 yX4_takesTens wsX4_takesTens) := goodIn_app (goodIn_of _ (by decide +kernel)) ggX4_takes_X4_takesTens
set_option maxRecDepth 20000 in
theorem ggX4_takes_X4_takesUnits : GoodIn wsX4_takes wsX4_takesUnits := goodIn_r _ [40, 8, 9, 2, 10, 11, 12, 13, 14, 15, 16, 17, 18, 25, 26, 27, 6, 28, 29, 30, 31, 32, 33, 34, 35, 22, 36, 24, 41, 42, 43, 44, 61, 62, 63, 64, 65, 66, 67, 68, 69] (by decide +kernel) (by decide +kernel)
set_option maxRecDepth 20000 in
theorem gX4_takes_X4_takesUnits : GoodIn wsX4_takes (wsV RX4 63 RX4 yX4_takesUnits wsX4_takesUnits) := goodIn_app (goodIn_of _ (by decide +kernel)) ggX4_takes_X4_takesUnits
set_option maxRecDepth 20000 in
theorem ggX4_takes_X4_takesSlash : GoodIn wsX4_takes wsX4_takesSlash := goodIn_r _ [48, 2, 11, 10, 61, 62, 63, 64, 65, 66] (by decide +kernel) (by decide +kernel)
set_option maxRecDepth 20000 in
theorem gX4_takes_X4_takesSlash : GoodIn wsX4_takes (wsV RX4 66 RX4 yX4_takesSlash wsX4_takesSlash) := goodIn_app (goodIn_of _ (by decide +kernel)) ggX4_takes_X4_takesSlash
set_option maxRecDepth 20000 in
theorem ggX4_takes_X4_takesSemicolon : GoodIn wsX4_takes wsX4_takesSemicolon := goodIn_r _ [52, 9, 53, 54, 55, 6, 56, 2, 11, 10, 57, 58, 59, 60, 61, 62, 63, 64, 65, 66] (by decide +kernel) (by decide +kernel)
set_option maxRecDepth 20000 in
theorem gX4_takes_X4_takesSemicolon : GoodIn wsX4_takes (wsV RX4 69 RX4 yX4_takesSemicolon wsX4_takesSemicolon) := goodIn_app (goodIn_of _ (by decide +kernel)) ggX4_takes_X4_takesSemicolon
theorem dX4_takes_0 : decode cX4_takes 0 = .ok (.aload_n 0, 1) := by decide +kernel
theorem dX4_takes_1 : decode cX4_takes 1 = .ok (.getfield 18, 3) := by decide +kernel
theorem dX4_takes_4 : decode cX4_takes 4 = .ok (.ifCond .ne 23, 3) := by decide +kernel
theorem dX4_takes_7 : decode cX4_takes 7 = .ok (.aload_n 0, 1) := by decide +kernel
theorem dX4_takes_8 : decode cX4_takes 8 = .ok (.iload_n 1, 1) := by decide +kernel
theorem dX4_takes_9 : decode cX4_takes 9 = .ok (.bipush 84, 2) := by decide +kernel
theorem dX4_takes_11 : decode cX4_takes 11 = .ok (.if_icmp .ne 7, 3) := by decide +kernel
theorem dX4_takes_14 : decode cX4_takes 14 = .ok (.iconst 1, 1) := by decide +kernel
theorem dX4_takes_15 : decode cX4_takes 15 = .ok (.goto 4, 3) := by decide +kernel
theorem dX4_takes_18 : decode cX4_takes 18 = .ok (.iconst 0, 1) := by decide +kernel
theorem dX4_takes_19 : decode cX4_takes 19 = .ok (.putfield 18, 3) := by decide +kernel
theorem dX4_takes_22 : decode cX4_takes 22 = .ok (.aload_n 0, 1) := by decide +kernel
theorem dX4_takes_23 : decode cX4_takes 23 = .ok (.getfield 18, 3) := by decide +kernel
theorem dX4_takes_26 : decode cX4_takes 26 = .ok (.ireturn, 1) := by decide +kernel
theorem dX4_takes_27 : decode cX4_takes 27 = .ok (.iload_n 1, 1) := by decide +kernel
theorem dX4_takes_28 : decode cX4_takes 28 = .ok (.bipush 48, 2) := by decide +kernel
theorem dX4_takes_30 : decode cX4_takes 30 = .ok (.if_icmp .lt 37, 3) := by decide +kernel
theorem dX4_takes_33 : decode cX4_takes 33 = .ok (.iload_n 1, 1) := by decide +kernel
theorem dX4_takes_34 : decode cX4_takes 34 = .ok (.bipush 57, 2) := by decide +kernel
theorem dX4_takes_36 : decode cX4_takes 36 = .ok (.if_icmp .gt 31, 3) := by decide +kernel
theorem dX4_takes_39 : decode cX4_takes 39 = .ok (.aload_n 0, 1) := by decide +kernel
theorem dX4_takes_40 : decode cX4_takes 40 = .ok (.getfield 32, 3) := by decide +kernel
theorem dX4_takes_43 : decode cX4_takes 43 = .ok (.iconst (-1), 1) := by decide +kernel
theorem dX4_takes_44 : decode cX4_takes 44 = .ok (.if_icmp .ne 14, 3) := by decide +kernel
theorem dX4_takes_47 : decode cX4_takes 47 = .ok (.aload_n 0, 1) := by decide +kernel
theorem dX4_takes_48 : decode cX4_takes 48 = .ok (.iload_n 1, 1) := by decide +kernel
theorem dX4_takes_49 : decode cX4_takes 49 = .ok (.bipush 48, 2) := by decide +kernel
theorem dX4_takes_51 : decode cX4_takes 51 = .ok (.isub, 1) := by decide +kernel
theorem dX4_takes_52 : decode cX4_takes 52 = .ok (.invokevirtual 60, 3) := by decide +kernel
theorem dX4_takes_55 : decode cX4_takes 55 = .ok (.goto 11, 3) := by decide +kernel
theorem dX4_takes_58 : decode cX4_takes 58 = .ok (.aload_n 0, 1) := by decide +kernel
theorem dX4_takes_59 : decode cX4_takes 59 = .ok (.iload_n 1, 1) := by decide +kernel
theorem dX4_takes_60 : decode cX4_takes 60 = .ok (.bipush 48, 2) := by decide +kernel
theorem dX4_takes_62 : decode cX4_takes 62 = .ok (.isub, 1) := by decide +kernel
theorem dX4_takes_63 : decode cX4_takes 63 = .ok (.invokevirtual 63, 3) := by decide +kernel
theorem dX4_takes_66 : decode cX4_takes 66 = .ok (.ireturn, 1) := by decide +kernel
theorem dX4_takes_67 : decode cX4_takes 67 = .ok (.iload_n 1, 1) := by decide +kernel
theorem dX4_takes_68 : decode cX4_takes 68 = .ok (.bipush 47, 2) := by decide +kernel
theorem dX4_takes_70 : decode cX4_takes 70 = .ok (.if_icmp .ne 8, 3) := by decide +kernel
theorem dX4_takes_73 : decode cX4_takes 73 = .ok (.aload_n 0, 1) := by decide +kernel
theorem dX4_takes_74 : decode cX4_takes 74 = .ok (.invokevirtual 66, 3) := by decide +kernel
theorem dX4_takes_77 : decode cX4_takes 77 = .ok (.ireturn, 1) := by decide +kernel
theorem dX4_takes_78 : decode cX4_takes 78 = .ok (.iload_n 1, 1) := by decide +kernel
theorem dX4_takes_79 : decode cX4_takes 79 = .ok (.bipush 59, 2) := by decide +kernel
theorem dX4_takes_81 : decode cX4_takes 81 = .ok (.if_icmp .ne 14, 3) := by decide +kernel
theorem dX4_takes_84 : decode cX4_takes 84 = .ok (.aload_n 0, 1) := by decide +kernel
theorem dX4_takes_85 : decode cX4_takes 85 = .ok (.invokevirtual 69, 3) := by decide +kernel
theorem dX4_takes_88 : decode cX4_takes 88 = .ok (.ifCond .eq 7, 3) := by decide +kernel
theorem dX4_takes_91 : decode cX4_takes 91 = .ok (.iconst 1, 1) := by decide +kernel
theorem dX4_takes_92 : decode cX4_takes 92 = .ok (.goto 4, 3) := by decide +kernel
theorem dX4_takes_95 : decode cX4_takes 95 = .ok (.iconst 0, 1) := by decide +kernel
theorem dX4_takes_96 : decode cX4_takes 96 = .ok (.ireturn, 1) := by decide +kernel
set_option maxRecDepth 20000 in
theorem ggX4_takesTens_X2_table : GoodIn wsX4_takesTens wsX2_table := goodIn_r _ [10, 11, 12, 38, 39] (by decide +kernel) (by decide +kernel)
set_option maxRecDepth 20000 in
theorem gX4_takesTens_X2_table : GoodIn wsX4_takesTens (wsV RX4 72 RX2 yX2_table wsX2_table) := goodIn_app (goodIn_of _ (by decide +kernel)) ggX4_takesTens_X2_table
set_option maxRecDepth 20000 in
theorem ggX4_takesTens_X7_rowLength : GoodIn wsX4_takesTens wsX7_rowLength := goodIn_r _ [17, 18, 40] (by decide +kernel) (by decide +kernel)
set_option maxRecDepth 20000 in
theorem gX4_takesTens_X7_rowLength : GoodIn wsX4_takesTens (wsV RX4 75 RX7 yX7_rowLength wsX7_rowLength) := goodIn_app (goodIn_of _ (by decide +kernel)) ggX4_takesTens_X7_rowLength
set_option maxRecDepth 20000 in
theorem ggX4_takesTens_X4_leastNumber : GoodIn wsX4_takesTens wsX4_leastNumber := goodIn_r _ [23, 3, 4, 24, 25, 26, 27, 28, 29, 30, 16, 31, 18, 32, 33, 34, 35, 36, 37, 40] (by decide +kernel) (by decide +kernel)
set_option maxRecDepth 20000 in
theorem gX4_takesTens_X4_leastNumber : GoodIn wsX4_takesTens (wsV RX4 80 RX4 yX4_leastNumber wsX4_leastNumber) := goodIn_app (goodIn_of _ (by decide +kernel)) ggX4_takesTens_X4_leastNumber
theorem dX4_takesTens_0 : decode cX4_takesTens 0 = .ok (.aload_n 0, 1) := by decide +kernel
theorem dX4_takesTens_1 : decode cX4_takesTens 1 = .ok (.getfield 12, 3) := by decide +kernel
theorem dX4_takesTens_4 : decode cX4_takesTens 4 = .ok (.aload_n 0, 1) := by decide +kernel
theorem dX4_takesTens_5 : decode cX4_takesTens 5 = .ok (.getfield 22, 3) := by decide +kernel
theorem dX4_takesTens_8 : decode cX4_takesTens 8 = .ok (.invokevirtual 72, 3) := by decide +kernel
theorem dX4_takesTens_11 : decode cX4_takesTens 11 = .ok (.astore_n 2, 1) := by decide +kernel
theorem dX4_takesTens_12 : decode cX4_takesTens 12 = .ok (.aload_n 0, 1) := by decide +kernel
theorem dX4_takesTens_13 : decode cX4_takesTens 13 = .ok (.getfield 26, 3) := by decide +kernel
theorem dX4_takesTens_16 : decode cX4_takesTens 16 = .ok (.ifCond .ne 8, 3) := by decide +kernel
theorem dX4_takesTens_19 : decode cX4_takesTens 19 = .ok (.bipush 6, 2) := by decide +kernel
theorem dX4_takesTens_21 : decode cX4_takesTens 21 = .ok (.goto 13, 3) := by decide +kernel
theorem dX4_takesTens_24 : decode cX4_takesTens 24 = .ok (.aload_n 2, 1) := by decide +kernel
theorem dX4_takesTens_25 : decode cX4_takesTens 25 = .ok (.aload_n 0, 1) := by decide +kernel
theorem dX4_takesTens_26 : decode cX4_takesTens 26 = .ok (.getfield 26, 3) := by decide +kernel
theorem dX4_takesTens_29 : decode cX4_takesTens 29 = .ok (.iconst 1, 1) := by decide +kernel
theorem dX4_takesTens_30 : decode cX4_takesTens 30 = .ok (.isub, 1) := by decide +kernel
theorem dX4_takesTens_31 : decode cX4_takesTens 31 = .ok (.invokevirtual 75, 3) := by decide +kernel
theorem dX4_takesTens_34 : decode cX4_takesTens 34 = .ok (.istore_n 3, 1) := by decide +kernel
theorem dX4_takesTens_35 : decode cX4_takesTens 35 = .ok (.aload_n 0, 1) := by decide +kernel
theorem dX4_takesTens_36 : decode cX4_takesTens 36 = .ok (.getfield 29, 3) := by decide +kernel
theorem dX4_takesTens_39 : decode cX4_takesTens 39 = .ok (.iload_n 3, 1) := by decide +kernel
theorem dX4_takesTens_40 : decode cX4_takesTens 40 = .ok (.if_icmp .ge 18, 3) := by decide +kernel
theorem dX4_takesTens_43 : decode cX4_takesTens 43 = .ok (.bipush 10, 2) := by decide +kernel
theorem dX4_takesTens_45 : decode cX4_takesTens 45 = .ok (.iload_n 1, 1) := by decide +kernel
theorem dX4_takesTens_46 : decode cX4_takesTens 46 = .ok (.imul, 1) := by decide +kernel
theorem dX4_takesTens_47 : decode cX4_takesTens 47 = .ok (.bipush 9, 2) := by decide +kernel
theorem dX4_takesTens_49 : decode cX4_takesTens 49 = .ok (.iadd, 1) := by decide +kernel
theorem dX4_takesTens_50 : decode cX4_takesTens 50 = .ok (.aload_n 0, 1) := by decide +kernel
theorem dX4_takesTens_51 : decode cX4_takesTens 51 = .ok (.aload_n 2, 1) := by decide +kernel
theorem dX4_takesTens_52 : decode cX4_takesTens 52 = .ok (.invokevirtual 80, 3) := by decide +kernel
theorem dX4_takesTens_55 : decode cX4_takesTens 55 = .ok (.if_icmp .ge 5, 3) := by decide +kernel
theorem dX4_takesTens_58 : decode cX4_takesTens 58 = .ok (.iconst 0, 1) := by decide +kernel
theorem dX4_takesTens_59 : decode cX4_takesTens 59 = .ok (.ireturn, 1) := by decide +kernel
theorem dX4_takesTens_60 : decode cX4_takesTens 60 = .ok (.aload_n 0, 1) := by decide +kernel
theorem dX4_takesTens_61 : decode cX4_takesTens 61 = .ok (.iload_n 1, 1) := by decide +kernel
theorem dX4_takesTens_62 : decode cX4_takesTens 62 = .ok (.putfield 32, 3) := by decide +kernel
theorem dX4_takesTens_65 : decode cX4_takesTens 65 = .ok (.iconst 1, 1) := by decide +kernel
theorem dX4_takesTens_66 : decode cX4_takesTens 66 = .ok (.ireturn, 1) := by decide +kernel
set_option maxRecDepth 20000 in
theorem ggX4_takesUnits_X2_table : GoodIn wsX4_takesUnits wsX2_table := goodIn_r _ [10, 11, 12, 38, 39] (by decide +kernel) (by decide +kernel)
set_option maxRecDepth 20000 in
theorem gX4_takesUnits_X2_table : GoodIn wsX4_takesUnits (wsV RX4 72 RX2 yX2_table wsX2_table) := goodIn_app (goodIn_of _ (by decide +kernel)) ggX4_takesUnits_X2_table
set_option maxRecDepth 20000 in
theorem ggX4_takesUnits_X4_leastNumber : GoodIn wsX4_takesUnits wsX4_leastNumber := goodIn_r _ [17, 4, 5, 18, 19, 20, 21, 22, 23, 24, 25, 26, 27, 32, 33, 34, 35, 36, 37, 40] (by decide +kernel) (by decide +kernel)
set_option maxRecDepth 20000 in
theorem gX4_takesUnits_X4_leastNumber : GoodIn wsX4_takesUnits (wsV RX4 80 RX4 yX4_leastNumber wsX4_leastNumber) := goodIn_app (goodIn_of _ (by decide +kernel)) ggX4_takesUnits_X4_leastNumber
set_option maxRecDepth 20000 in
theorem ggX4_takesUnits_X7_put : GoodIn wsX4_takesUnits wsX7_put := goodIn_r _ [31, 27, 40] (by decide +kernel) (by decide +kernel)
set_option maxRecDepth 20000 in
theorem gX4_takesUnits_X7_put : GoodIn wsX4_takesUnits (wsV RX4 84 RX7 yX7_put wsX7_put) := goodIn_app (goodIn_of _ (by decide +kernel)) ggX4_takesUnits_X7_put
theorem dX4_takesUnits_0 : decode cX4_takesUnits 0 = .ok (.aload_n 0, 1) := by decide +kernel
theorem dX4_takesUnits_1 : decode cX4_takesUnits 1 = .ok (.getfield 12, 3) := by decide +kernel
theorem dX4_takesUnits_4 : decode cX4_takesUnits 4 = .ok (.aload_n 0, 1) := by decide +kernel
theorem dX4_takesUnits_5 : decode cX4_takesUnits 5 = .ok (.getfield 22, 3) := by decide +kernel
theorem dX4_takesUnits_8 : decode cX4_takesUnits 8 = .ok (.invokevirtual 72, 3) := by decide +kernel
theorem dX4_takesUnits_11 : decode cX4_takesUnits 11 = .ok (.astore_n 2, 1) := by decide +kernel
theorem dX4_takesUnits_12 : decode cX4_takesUnits 12 = .ok (.bipush 10, 2) := by decide +kernel
theorem dX4_takesUnits_14 : decode cX4_takesUnits 14 = .ok (.aload_n 0, 1) := by decide +kernel
theorem dX4_takesUnits_15 : decode cX4_takesUnits 15 = .ok (.getfield 32, 3) := by decide +kernel
theorem dX4_takesUnits_18 : decode cX4_takesUnits 18 = .ok (.imul, 1) := by decide +kernel
theorem dX4_takesUnits_19 : decode cX4_takesUnits 19 = .ok (.iload_n 1, 1) := by decide +kernel
theorem dX4_takesUnits_20 : decode cX4_takesUnits 20 = .ok (.iadd, 1) := by decide +kernel
theorem dX4_takesUnits_21 : decode cX4_takesUnits 21 = .ok (.istore_n 3, 1) := by decide +kernel
theorem dX4_takesUnits_22 : decode cX4_takesUnits 22 = .ok (.iload_n 3, 1) := by decide +kernel
theorem dX4_takesUnits_23 : decode cX4_takesUnits 23 = .ok (.aload_n 0, 1) := by decide +kernel
theorem dX4_takesUnits_24 : decode cX4_takesUnits 24 = .ok (.aload_n 2, 1) := by decide +kernel
theorem dX4_takesUnits_25 : decode cX4_takesUnits 25 = .ok (.invokevirtual 80, 3) := by decide +kernel
theorem dX4_takesUnits_28 : decode cX4_takesUnits 28 = .ok (.if_icmp .ge 5, 3) := by decide +kernel
theorem dX4_takesUnits_31 : decode cX4_takesUnits 31 = .ok (.iconst 0, 1) := by decide +kernel
theorem dX4_takesUnits_32 : decode cX4_takesUnits 32 = .ok (.ireturn, 1) := by decide +kernel
theorem dX4_takesUnits_33 : decode cX4_takesUnits 33 = .ok (.aload_n 2, 1) := by decide +kernel
theorem dX4_takesUnits_34 : decode cX4_takesUnits 34 = .ok (.aload_n 0, 1) := by decide +kernel
theorem dX4_takesUnits_35 : decode cX4_takesUnits 35 = .ok (.getfield 26, 3) := by decide +kernel
theorem dX4_takesUnits_38 : decode cX4_takesUnits 38 = .ok (.aload_n 0, 1) := by decide +kernel
theorem dX4_takesUnits_39 : decode cX4_takesUnits 39 = .ok (.getfield 29, 3) := by decide +kernel
theorem dX4_takesUnits_42 : decode cX4_takesUnits 42 = .ok (.iload_n 3, 1) := by decide +kernel
theorem dX4_takesUnits_43 : decode cX4_takesUnits 43 = .ok (.invokevirtual 84, 3) := by decide +kernel
theorem dX4_takesUnits_46 : decode cX4_takesUnits 46 = .ok (.aload_n 0, 1) := by decide +kernel
theorem dX4_takesUnits_47 : decode cX4_takesUnits 47 = .ok (.dup, 1) := by decide +kernel
theorem dX4_takesUnits_48 : decode cX4_takesUnits 48 = .ok (.getfield 29, 3) := by decide +kernel
theorem dX4_takesUnits_51 : decode cX4_takesUnits 51 = .ok (.iconst 1, 1) := by decide +kernel
theorem dX4_takesUnits_52 : decode cX4_takesUnits 52 = .ok (.iadd, 1) := by decide +kernel
theorem dX4_takesUnits_53 : decode cX4_takesUnits 53 = .ok (.putfield 29, 3) := by decide +kernel
theorem dX4_takesUnits_56 : decode cX4_takesUnits 56 = .ok (.aload_n 0, 1) := by decide +kernel
theorem dX4_takesUnits_57 : decode cX4_takesUnits 57 = .ok (.iconst (-1), 1) := by decide +kernel
theorem dX4_takesUnits_58 : decode cX4_takesUnits 58 = .ok (.putfield 32, 3) := by decide +kernel
theorem dX4_takesUnits_61 : decode cX4_takesUnits 61 = .ok (.iconst 1, 1) := by decide +kernel
theorem dX4_takesUnits_62 : decode cX4_takesUnits 62 = .ok (.ireturn, 1) := by decide +kernel
set_option maxRecDepth 20000 in
theorem ggX4_leastNumber_X7_at : GoodIn wsX4_leastNumber wsX7_at := goodIn_r _ [11, 12, 19] (by decide +kernel) (by decide +kernel)
set_option maxRecDepth 20000 in
theorem gX4_leastNumber_X7_at : GoodIn wsX4_leastNumber (wsV RX4 88 RX7 yX7_at wsX7_at) := goodIn_app (goodIn_of _ (by decide +kernel)) ggX4_leastNumber_X7_at
theorem dX4_leastNumber_0 : decode cX4_leastNumber 0 = .ok (.aload_n 1, 1) := by decide +kernel
theorem dX4_leastNumber_1 : decode cX4_leastNumber 1 = .ok (.aload_n 0, 1) := by decide +kernel
theorem dX4_leastNumber_2 : decode cX4_leastNumber 2 = .ok (.getfield 26, 3) := by decide +kernel
theorem dX4_leastNumber_5 : decode cX4_leastNumber 5 = .ok (.iconst 1, 1) := by decide +kernel
theorem dX4_leastNumber_6 : decode cX4_leastNumber 6 = .ok (.isub, 1) := by decide +kernel
theorem dX4_leastNumber_7 : decode cX4_leastNumber 7 = .ok (.aload_n 0, 1) := by decide +kernel
theorem dX4_leastNumber_8 : decode cX4_leastNumber 8 = .ok (.getfield 29, 3) := by decide +kernel
theorem dX4_leastNumber_11 : decode cX4_leastNumber 11 = .ok (.invokevirtual 88, 3) := by decide +kernel
theorem dX4_leastNumber_14 : decode cX4_leastNumber 14 = .ok (.aload_n 1, 1) := by decide +kernel
theorem dX4_leastNumber_15 : decode cX4_leastNumber 15 = .ok (.aload_n 0, 1) := by decide +kernel
theorem dX4_leastNumber_16 : decode cX4_leastNumber 16 = .ok (.getfield 26, 3) := by decide +kernel
theorem dX4_leastNumber_19 : decode cX4_leastNumber 19 = .ok (.aload_n 0, 1) := by decide +kernel
theorem dX4_leastNumber_20 : decode cX4_leastNumber 20 = .ok (.getfield 29, 3) := by decide +kernel
theorem dX4_leastNumber_23 : decode cX4_leastNumber 23 = .ok (.iconst 1, 1) := by decide +kernel
theorem dX4_leastNumber_24 : decode cX4_leastNumber 24 = .ok (.isub, 1) := by decide +kernel
theorem dX4_leastNumber_25 : decode cX4_leastNumber 25 = .ok (.invokevirtual 88, 3) := by decide +kernel
theorem dX4_leastNumber_28 : decode cX4_leastNumber 28 = .ok (.invokestatic 92, 3) := by decide +kernel
theorem dX4_leastNumber_31 : decode cX4_leastNumber 31 = .ok (.ireturn, 1) := by decide +kernel
theorem dX4_takesSlash_0 : decode cX4_takesSlash 0 = .ok (.aload_n 0, 1) := by decide +kernel
theorem dX4_takesSlash_1 : decode cX4_takesSlash 1 = .ok (.getfield 32, 3) := by decide +kernel
theorem dX4_takesSlash_4 : decode cX4_takesSlash 4 = .ok (.iconst (-1), 1) := by decide +kernel
theorem dX4_takesSlash_5 : decode cX4_takesSlash 5 = .ok (.if_icmp .ne 18, 3) := by decide +kernel
theorem dX4_takesSlash_8 : decode cX4_takesSlash 8 = .ok (.aload_n 0, 1) := by decide +kernel
theorem dX4_takesSlash_9 : decode cX4_takesSlash 9 = .ok (.getfield 29, 3) := by decide +kernel
theorem dX4_takesSlash_12 : decode cX4_takesSlash 12 = .ok (.ifCond .eq 11, 3) := by decide +kernel
theorem dX4_takesSlash_15 : decode cX4_takesSlash 15 = .ok (.aload_n 0, 1) := by decide +kernel
theorem dX4_takesSlash_16 : decode cX4_takesSlash 16 = .ok (.getfield 26, 3) := by decide +kernel
theorem dX4_takesSlash_19 : decode cX4_takesSlash 19 = .ok (.iconst 5, 1) := by decide +kernel
theorem dX4_takesSlash_20 : decode cX4_takesSlash 20 = .ok (.if_icmp .ne 5, 3) := by decide +kernel
theorem dX4_takesSlash_23 : decode cX4_takesSlash 23 = .ok (.iconst 0, 1) := by decide +kernel
theorem dX4_takesSlash_24 : decode cX4_takesSlash 24 = .ok (.ireturn, 1) := by decide +kernel
theorem dX4_takesSlash_25 : decode cX4_takesSlash 25 = .ok (.aload_n 0, 1) := by decide +kernel
theorem dX4_takesSlash_26 : decode cX4_takesSlash 26 = .ok (.dup, 1) := by decide +kernel
theorem dX4_takesSlash_27 : decode cX4_takesSlash 27 = .ok (.getfield 26, 3) := by decide +kernel
theorem dX4_takesSlash_30 : decode cX4_takesSlash 30 = .ok (.iconst 1, 1) := by decide +kernel
theorem dX4_takesSlash_31 : decode cX4_takesSlash 31 = .ok (.iadd, 1) := by decide +kernel
theorem dX4_takesSlash_32 : decode cX4_takesSlash 32 = .ok (.putfield 26, 3) := by decide +kernel
theorem dX4_takesSlash_35 : decode cX4_takesSlash 35 = .ok (.aload_n 0, 1) := by decide +kernel
theorem dX4_takesSlash_36 : decode cX4_takesSlash 36 = .ok (.iconst 0, 1) := by decide +kernel
theorem dX4_takesSlash_37 : decode cX4_takesSlash 37 = .ok (.putfield 29, 3) := by decide +kernel
theorem dX4_takesSlash_40 : decode cX4_takesSlash 40 = .ok (.iconst 1, 1) := by decide +kernel
theorem dX4_takesSlash_41 : decode cX4_takesSlash 41 = .ok (.ireturn, 1) := by decide +kernel
set_option maxRecDepth 20000 in
theorem ggX4_takesSemicolon_X4_canEndTable : GoodIn wsX4_takesSemicolon wsX4_canEndTable := goodIn_r _ [6, 7, 8, 9, 14, 15, 16, 17, 18, 19] (by decide +kernel) (by decide +kernel)
set_option maxRecDepth 20000 in
theorem gX4_takesSemicolon_X4_canEndTable : GoodIn wsX4_takesSemicolon (wsV RX4 56 RX4 yX4_canEndTable wsX4_canEndTable) := goodIn_app (goodIn_of _ (by decide +kernel)) ggX4_takesSemicolon_X4_canEndTable
set_option maxRecDepth 20000 in
theorem ggX4_takesSemicolon_X4_begin : GoodIn wsX4_takesSemicolon wsX4_begin := goodIn_r _ [13, 1, 9, 8, 7, 14, 15, 16, 17, 18, 19] (by decide +kernel) (by decide +kernel)
set_option maxRecDepth 20000 in
theorem gX4_takesSemicolon_X4_begin : GoodIn wsX4_takesSemicolon (wsV RX4 38 RX4 yX4_begin wsX4_begin) := goodIn_app (goodIn_of _ (by decide +kernel)) ggX4_takesSemicolon_X4_begin
theorem dX4_takesSemicolon_0 : decode cX4_takesSemicolon 0 = .ok (.aload_n 0, 1) := by decide +kernel
theorem dX4_takesSemicolon_1 : decode cX4_takesSemicolon 1 = .ok (.getfield 22, 3) := by decide +kernel
theorem dX4_takesSemicolon_4 : decode cX4_takesSemicolon 4 = .ok (.ifCond .ne 10, 3) := by decide +kernel
theorem dX4_takesSemicolon_7 : decode cX4_takesSemicolon 7 = .ok (.aload_n 0, 1) := by decide +kernel
theorem dX4_takesSemicolon_8 : decode cX4_takesSemicolon 8 = .ok (.invokevirtual 56, 3) := by decide +kernel
theorem dX4_takesSemicolon_11 : decode cX4_takesSemicolon 11 = .ok (.ifCond .ne 5, 3) := by decide +kernel
theorem dX4_takesSemicolon_14 : decode cX4_takesSemicolon 14 = .ok (.iconst 0, 1) := by decide +kernel
theorem dX4_takesSemicolon_15 : decode cX4_takesSemicolon 15 = .ok (.ireturn, 1) := by decide +kernel
theorem dX4_takesSemicolon_16 : decode cX4_takesSemicolon 16 = .ok (.aload_n 0, 1) := by decide +kernel
theorem dX4_takesSemicolon_17 : decode cX4_takesSemicolon 17 = .ok (.iconst 1, 1) := by decide +kernel
theorem dX4_takesSemicolon_18 : decode cX4_takesSemicolon 18 = .ok (.invokevirtual 38, 3) := by decide +kernel
theorem dX4_takesSemicolon_21 : decode cX4_takesSemicolon 21 = .ok (.iconst 1, 1) := by decide +kernel
theorem dX4_takesSemicolon_22 : decode cX4_takesSemicolon 22 = .ok (.ireturn, 1) := by decide +kernel
theorem dX4_canEndTable_0 : decode cX4_canEndTable 0 = .ok (.aload_n 0, 1) := by decide +kernel
theorem dX4_canEndTable_1 : decode cX4_canEndTable 1 = .ok (.getfield 32, 3) := by decide +kernel
theorem dX4_canEndTable_4 : decode cX4_canEndTable 4 = .ok (.iconst (-1), 1) := by decide +kernel
theorem dX4_canEndTable_5 : decode cX4_canEndTable 5 = .ok (.if_icmp .ne 21, 3) := by decide +kernel
theorem dX4_canEndTable_8 : decode cX4_canEndTable 8 = .ok (.aload_n 0, 1) := by decide +kernel
theorem dX4_canEndTable_9 : decode cX4_canEndTable 9 = .ok (.getfield 29, 3) := by decide +kernel
theorem dX4_canEndTable_12 : decode cX4_canEndTable 12 = .ok (.ifCond .gt 10, 3) := by decide +kernel
theorem dX4_canEndTable_15 : decode cX4_canEndTable 15 = .ok (.aload_n 0, 1) := by decide +kernel
theorem dX4_canEndTable_16 : decode cX4_canEndTable 16 = .ok (.getfield 26, 3) := by decide +kernel
theorem dX4_canEndTable_19 : decode cX4_canEndTable 19 = .ok (.ifCond .ne 7, 3) := by decide +kernel
theorem dX4_canEndTable_22 : decode cX4_canEndTable 22 = .ok (.iconst 1, 1) := by decide +kernel
theorem dX4_canEndTable_23 : decode cX4_canEndTable 23 = .ok (.goto 4, 3) := by decide +kernel
theorem dX4_canEndTable_26 : decode cX4_canEndTable 26 = .ok (.iconst 0, 1) := by decide +kernel
theorem dX4_canEndTable_27 : decode cX4_canEndTable 27 = .ok (.ireturn, 1) := by decide +kernel
theorem dX5_limit_0 : decode cX5_limit 0 = .ok (.lconst 1, 1) := by decide +kernel
theorem dX5_limit_1 : decode cX5_limit 1 = .ok (.lstore_n 1, 1) := by decide +kernel
theorem dX5_limit_2 : decode cX5_limit 2 = .ok (.iconst 0, 1) := by decide +kernel
theorem dX5_limit_3 : decode cX5_limit 3 = .ok (.istore_n 3, 1) := by decide +kernel
theorem dX5_limit_4 : decode cX5_limit 4 = .ok (.iload_n 3, 1) := by decide +kernel
theorem dX5_limit_5 : decode cX5_limit 5 = .ok (.iload_n 0, 1) := by decide +kernel
theorem dX5_limit_6 : decode cX5_limit 6 = .ok (.if_icmp .ge 15, 3) := by decide +kernel
theorem dX5_limit_9 : decode cX5_limit 9 = .ok (.lload_n 1, 1) := by decide +kernel
theorem dX5_limit_10 : decode cX5_limit 10 = .ok (.ldc2_w 9, 3) := by decide +kernel
theorem dX5_limit_13 : decode cX5_limit 13 = .ok (.lmul, 1) := by decide +kernel
theorem dX5_limit_14 : decode cX5_limit 14 = .ok (.lstore_n 1, 1) := by decide +kernel
theorem dX5_limit_15 : decode cX5_limit 15 = .ok (.iinc 3 1, 3) := by decide +kernel
theorem dX5_limit_18 : decode cX5_limit 18 = .ok (.goto (-14), 3) := by decide +kernel
theorem dX5_limit_21 : decode cX5_limit 21 = .ok (.lload_n 1, 1) := by decide +kernel
theorem dX5_limit_22 : decode cX5_limit 22 = .ok (.lreturn, 1) := by decide +kernel
theorem dX5_group_0 : decode cX5_group 0 = .ok (.lload_n 0, 1) := by decide +kernel
theorem dX5_group_1 : decode cX5_group 1 = .ok (.lstore_n 3, 1) := by decide +kernel
theorem dX5_group_2 : decode cX5_group 2 = .ok (.iconst 0, 1) := by decide +kernel
theorem dX5_group_3 : decode cX5_group 3 = .ok (.istore 5, 2) := by decide +kernel
theorem dX5_group_5 : decode cX5_group 5 = .ok (.iload 5, 2) := by decide +kernel
theorem dX5_group_7 : decode cX5_group 7 = .ok (.iload_n 2, 1) := by decide +kernel
theorem dX5_group_8 : decode cX5_group 8 = .ok (.if_icmp .ge 15, 3) := by decide +kernel
theorem dX5_group_11 : decode cX5_group 11 = .ok (.lload_n 3, 1) := by decide +kernel
theorem dX5_group_12 : decode cX5_group 12 = .ok (.ldc2_w 9, 3) := by decide +kernel
theorem dX5_group_15 : decode cX5_group 15 = .ok (.ldiv, 1) := by decide +kernel
theorem dX5_group_16 : decode cX5_group 16 = .ok (.lstore_n 3, 1) := by decide +kernel
theorem dX5_group_17 : decode cX5_group 17 = .ok (.iinc 5 1, 3) := by decide +kernel
theorem dX5_group_20 : decode cX5_group 20 = .ok (.goto (-15), 3) := by decide +kernel
theorem dX5_group_23 : decode cX5_group 23 = .ok (.lload_n 3, 1) := by decide +kernel
theorem dX5_group_24 : decode cX5_group 24 = .ok (.ldc2_w 9, 3) := by decide +kernel
theorem dX5_group_27 : decode cX5_group 27 = .ok (.lrem, 1) := by decide +kernel
theorem dX5_group_28 : decode cX5_group 28 = .ok (.l2i, 1) := by decide +kernel
theorem dX5_group_29 : decode cX5_group 29 = .ok (.ireturn, 1) := by decide +kernel
set_option maxRecDepth 20000 in
theorem ggX5_succeeds_X5_takesCell : GoodIn wsX5_succeeds wsX5_takesCell := goodIn_r _ [4, 5, 6, 7, 8, 9, 10, 11, 12, 13, 14, 15, 16, 17, 18, 19, 20, 21, 22, 23, 24, 25, 26, 27, 28, 29, 30, 31, 32, 33, 34, 35, 36, 37, 38, 39, 40, 41, 42, 43, 44, 45, 46, 47, 48, 49, 50, 51, 52, 53, 54, 55, 56, 57, 58, 59, 60, 61, 62, 63, 64, 65, 66, 67, 68, 69, 70, 71, 112, 113, 114] (by decide +kernel) (by decide +kernel)
set_option maxRecDepth 20000 in
theorem gX5_succeeds_X5_takesCell : GoodIn wsX5_succeeds (va_wsS RX5 11 yX5_takesCell wsX5_takesCell) := goodIn_app (goodIn_of _ (by decide +kernel)) ggX5_succeeds_X5_takesCell
set_option maxRecDepth 20000 in
theorem ggX5_succeeds_X2_table : GoodIn wsX5_succeeds wsX2_table := goodIn_r _ [14, 15, 16, 112, 113] (by decide +kernel) (by decide +kernel)
set_option maxRecDepth 20000 in
theorem gX5_succeeds_X2_table : GoodIn wsX5_succeeds (wsV RX5 17 RX2 yX2_table wsX2_table) := goodIn_app (goodIn_of _ (by decide +kernel)) ggX5_succeeds_X2_table
set_option maxRecDepth 20000 in
theorem ggX5_succeeds_X5_transposes : GoodIn wsX5_succeeds wsX5_transposes := goodIn_r _ [74, 75, 76, 77, 20, 78, 22, 23, 24, 25, 26, 31, 32, 33, 34, 114] (by decide +kernel) (by decide +kernel)
set_option maxRecDepth 20000 in
theorem gX5_succeeds_X5_transposes : GoodIn wsX5_succeeds (va_wsS RX5 23 yX5_transposes wsX5_transposes) := goodIn_app (goodIn_of _ (by decide +kernel)) ggX5_succeeds_X5_transposes
set_option maxRecDepth 20000 in
theorem ggX5_succeeds_X2_pairsUpTo : GoodIn wsX5_succeeds wsX2_pairsUpTo := goodIn_r _ [82, 15, 16, 83, 18, 19, 20, 21, 22, 23, 24, 25, 26, 54, 84, 85, 86, 87, 88, 89, 90, 91, 92, 93, 94, 112, 113, 114] (by decide +kernel) (by decide +kernel)
set_option maxRecDepth 20000 in
theorem gX5_succeeds_X2_pairsUpTo : GoodIn wsX5_succeeds (wsV RX5 27 RX2 yX2_pairsUpTo wsX2_pairsUpTo) := goodIn_app (goodIn_of _ (by decide +kernel)) ggX5_succeeds_X2_pairsUpTo
set_option maxRecDepth 20000 in
theorem ggX5_succeeds_X5_succeedsWith : GoodIn wsX5_succeeds wsX5_succeedsWith := goodIn_r _ [97, 98, 57, 58, 20, 59, 60, 61, 62, 63, 64, 65, 66, 67, 26, 42, 6, 43, 5, 7, 8, 9, 31, 32, 33, 34, 68, 69, 70, 71, 22, 23, 24, 25, 99, 100, 101, 102, 103, 85, 86, 87, 88, 89, 90, 91, 92, 93, 94, 17, 18, 19, 21, 104, 105, 106, 107, 108, 109, 110, 111, 114] (by decide +kernel) (by decide +kernel)
set_option maxRecDepth 20000 in
theorem gX5_succeeds_X5_succeedsWith : GoodIn wsX5_succeeds (va_wsS RX5 31 yX5_succeedsWith wsX5_succeedsWith) := goodIn_app (goodIn_of _ (by decide +kernel)) ggX5_succeeds_X5_succeedsWith
theorem dX5_succeeds_0 : decode cX5_succeeds 0 = .ok (.iload_n 1, 1) := by decide +kernel
theorem dX5_succeeds_1 : decode cX5_succeeds 1 = .ok (.sipush 10000, 3) := by decide +kernel
theorem dX5_succeeds_4 : decode cX5_succeeds 4 = .ok (.idiv, 1) := by decide +kernel
theorem dX5_succeeds_5 : decode cX5_succeeds 5 = .ok (.istore_n 2, 1) := by decide +kernel
theorem dX5_succeeds_6 : decode cX5_succeeds 6 = .ok (.iload_n 1, 1) := by decide +kernel
theorem dX5_succeeds_7 : decode cX5_succeeds 7 = .ok (.sipush 1000, 3) := by decide +kernel
theorem dX5_succeeds_10 : decode cX5_succeeds 10 = .ok (.idiv, 1) := by decide +kernel
theorem dX5_succeeds_11 : decode cX5_succeeds 11 = .ok (.bipush 10, 2) := by decide +kernel
theorem dX5_succeeds_13 : decode cX5_succeeds 13 = .ok (.irem, 1) := by decide +kernel
theorem dX5_succeeds_14 : decode cX5_succeeds 14 = .ok (.istore_n 3, 1) := by decide +kernel
theorem dX5_succeeds_15 : decode cX5_succeeds 15 = .ok (.iload_n 1, 1) := by decide +kernel
theorem dX5_succeeds_16 : decode cX5_succeeds 16 = .ok (.sipush 1000, 3) := by decide +kernel
theorem dX5_succeeds_19 : decode cX5_succeeds 19 = .ok (.irem, 1) := by decide +kernel
theorem dX5_succeeds_20 : decode cX5_succeeds 20 = .ok (.istore 4, 2) := by decide +kernel
theorem dX5_succeeds_22 : decode cX5_succeeds 22 = .ok (.iload_n 3, 1) := by decide +kernel
theorem dX5_succeeds_23 : decode cX5_succeeds 23 = .ok (.iconst 1, 1) := by decide +kernel
theorem dX5_succeeds_24 : decode cX5_succeeds 24 = .ok (.if_icmp .le 5, 3) := by decide +kernel
theorem dX5_succeeds_27 : decode cX5_succeeds 27 = .ok (.iconst 0, 1) := by decide +kernel
theorem dX5_succeeds_28 : decode cX5_succeeds 28 = .ok (.ireturn, 1) := by decide +kernel
theorem dX5_succeeds_29 : decode cX5_succeeds 29 = .ok (.iload_n 2, 1) := by decide +kernel
theorem dX5_succeeds_30 : decode cX5_succeeds 30 = .ok (.tableswitch 113 2 8 #[42, 42, 70, 113, 113, 113, 92], 42) := by decide +kernel
theorem dX5_succeeds_72 : decode cX5_succeeds 72 = .ok (.iload 4, 2) := by decide +kernel
theorem dX5_succeeds_74 : decode cX5_succeeds 74 = .ok (.bipush 10, 2) := by decide +kernel
theorem dX5_succeeds_76 : decode cX5_succeeds 76 = .ok (.irem, 1) := by decide +kernel
theorem dX5_succeeds_77 : decode cX5_succeeds 77 = .ok (.ifCond .ne 21, 3) := by decide +kernel
theorem dX5_succeeds_80 : decode cX5_succeeds 80 = .ok (.aload_n 0, 1) := by decide +kernel
theorem dX5_succeeds_81 : decode cX5_succeeds 81 = .ok (.iload_n 2, 1) := by decide +kernel
theorem dX5_succeeds_82 : decode cX5_succeeds 82 = .ok (.iload_n 3, 1) := by decide +kernel
theorem dX5_succeeds_83 : decode cX5_succeeds 83 = .ok (.iload 4, 2) := by decide +kernel
theorem dX5_succeeds_85 : decode cX5_succeeds 85 = .ok (.bipush 10, 2) := by decide +kernel
theorem dX5_succeeds_87 : decode cX5_succeeds 87 = .ok (.idiv, 1) := by decide +kernel
theorem dX5_succeeds_88 : decode cX5_succeeds 88 = .ok (.invokestatic 11, 3) := by decide +kernel
theorem dX5_succeeds_91 : decode cX5_succeeds 91 = .ok (.ifCond .eq 7, 3) := by decide +kernel
theorem dX5_succeeds_94 : decode cX5_succeeds 94 = .ok (.iconst 1, 1) := by decide +kernel
theorem dX5_succeeds_95 : decode cX5_succeeds 95 = .ok (.goto 4, 3) := by decide +kernel
theorem dX5_succeeds_98 : decode cX5_succeeds 98 = .ok (.iconst 0, 1) := by decide +kernel
theorem dX5_succeeds_99 : decode cX5_succeeds 99 = .ok (.ireturn, 1) := by decide +kernel
theorem dX5_succeeds_100 : decode cX5_succeeds 100 = .ok (.iload 4, 2) := by decide +kernel
theorem dX5_succeeds_102 : decode cX5_succeeds 102 = .ok (.ifCond .ne 18, 3) := by decide +kernel
theorem dX5_succeeds_105 : decode cX5_succeeds 105 = .ok (.aload_n 0, 1) := by decide +kernel
theorem dX5_succeeds_106 : decode cX5_succeeds 106 = .ok (.iload_n 3, 1) := by decide +kernel
theorem dX5_succeeds_107 : decode cX5_succeeds 107 = .ok (.invokevirtual 17, 3) := by decide +kernel
theorem dX5_succeeds_110 : decode cX5_succeeds 110 = .ok (.invokestatic 23, 3) := by decide +kernel
theorem dX5_succeeds_113 : decode cX5_succeeds 113 = .ok (.ifCond .eq 7, 3) := by decide +kernel
theorem dX5_succeeds_116 : decode cX5_succeeds 116 = .ok (.iconst 1, 1) := by decide +kernel
theorem dX5_succeeds_117 : decode cX5_succeeds 117 = .ok (.goto 4, 3) := by decide +kernel
theorem dX5_succeeds_120 : decode cX5_succeeds 120 = .ok (.iconst 0, 1) := by decide +kernel
theorem dX5_succeeds_121 : decode cX5_succeeds 121 = .ok (.ireturn, 1) := by decide +kernel
theorem dX5_succeeds_122 : decode cX5_succeeds 122 = .ok (.iload_n 3, 1) := by decide +kernel
theorem dX5_succeeds_123 : decode cX5_succeeds 123 = .ok (.ifCond .ne 18, 3) := by decide +kernel
theorem dX5_succeeds_126 : decode cX5_succeeds 126 = .ok (.aload_n 0, 1) := by decide +kernel
theorem dX5_succeeds_127 : decode cX5_succeeds 127 = .ok (.bipush 99, 2) := by decide +kernel
theorem dX5_succeeds_129 : decode cX5_succeeds 129 = .ok (.invokevirtual 27, 3) := by decide +kernel
theorem dX5_succeeds_132 : decode cX5_succeeds 132 = .ok (.iload 4, 2) := by decide +kernel
theorem dX5_succeeds_134 : decode cX5_succeeds 134 = .ok (.if_icmp .ne 7, 3) := by decide +kernel
theorem dX5_succeeds_137 : decode cX5_succeeds 137 = .ok (.iconst 1, 1) := by decide +kernel
theorem dX5_succeeds_138 : decode cX5_succeeds 138 = .ok (.goto 4, 3) := by decide +kernel
theorem dX5_succeeds_141 : decode cX5_succeeds 141 = .ok (.iconst 0, 1) := by decide +kernel
theorem dX5_succeeds_142 : decode cX5_succeeds 142 = .ok (.ireturn, 1) := by decide +kernel
theorem dX5_succeeds_143 : decode cX5_succeeds 143 = .ok (.iload 4, 2) := by decide +kernel
theorem dX5_succeeds_145 : decode cX5_succeeds 145 = .ok (.bipush 99, 2) := by decide +kernel
theorem dX5_succeeds_147 : decode cX5_succeeds 147 = .ok (.if_icmp .gt 21, 3) := by decide +kernel
theorem dX5_succeeds_150 : decode cX5_succeeds 150 = .ok (.aload_n 0, 1) := by decide +kernel
theorem dX5_succeeds_151 : decode cX5_succeeds 151 = .ok (.iload_n 3, 1) := by decide +kernel
theorem dX5_succeeds_152 : decode cX5_succeeds 152 = .ok (.invokevirtual 17, 3) := by decide +kernel
theorem dX5_succeeds_155 : decode cX5_succeeds 155 = .ok (.iload_n 2, 1) := by decide +kernel
theorem dX5_succeeds_156 : decode cX5_succeeds 156 = .ok (.iload 4, 2) := by decide +kernel
theorem dX5_succeeds_158 : decode cX5_succeeds 158 = .ok (.invokestatic 31, 3) := by decide +kernel
theorem dX5_succeeds_161 : decode cX5_succeeds 161 = .ok (.ifCond .eq 7, 3) := by decide +kernel
theorem dX5_succeeds_164 : decode cX5_succeeds 164 = .ok (.iconst 1, 1) := by decide +kernel
theorem dX5_succeeds_165 : decode cX5_succeeds 165 = .ok (.goto 4, 3) := by decide +kernel
theorem dX5_succeeds_168 : decode cX5_succeeds 168 = .ok (.iconst 0, 1) := by decide +kernel
theorem dX5_succeeds_169 : decode cX5_succeeds 169 = .ok (.ireturn, 1) := by decide +kernel
set_option maxRecDepth 20000 in
theorem ggX5_takesCell_X9_rowOf : GoodIn wsX5_takesCell wsX9_rowOf := goodIn_r _ [3] (by decide +kernel) (by decide +kernel)
set_option maxRecDepth 20000 in
theorem gX5_takesCell_X9_rowOf_n35 : GoodIn wsX5_takesCell (wsX9_rowOf) := ggX5_takesCell_X9_rowOf
set_option maxRecDepth 20000 in
theorem ggX5_takesCell_X9_columnOf : GoodIn wsX5_takesCell wsX9_columnOf := goodIn_r _ [5] (by decide +kernel) (by decide +kernel)
set_option maxRecDepth 20000 in
theorem gX5_takesCell_X9_columnOf_n38 : GoodIn wsX5_takesCell (wsX9_columnOf) := ggX5_takesCell_X9_columnOf
set_option maxRecDepth 20000 in
theorem ggX5_takesCell_X2_table : GoodIn wsX5_takesCell wsX2_table := goodIn_r _ [10, 11, 12, 68, 69] (by decide +kernel) (by decide +kernel)
set_option maxRecDepth 20000 in
theorem gX5_takesCell_X2_table : GoodIn wsX5_takesCell (wsV RX5 17 RX2 yX2_table wsX2_table) := goodIn_app (goodIn_of _ (by decide +kernel)) ggX5_takesCell_X2_table
set_option maxRecDepth 20000 in
theorem ggX5_takesCell_X7_has : GoodIn wsX5_takesCell wsX7_has := goodIn_r _ [17, 18, 19, 20, 16, 21, 22, 70] (by decide +kernel) (by decide +kernel)
set_option maxRecDepth 20000 in
theorem gX5_takesCell_X7_has : GoodIn wsX5_takesCell (wsV RX5 41 RX7 yX7_has wsX7_has) := goodIn_app (goodIn_of _ (by decide +kernel)) ggX5_takesCell_X7_has
set_option maxRecDepth 20000 in
theorem ggX5_takesCell_X7_takeAway : GoodIn wsX5_takesCell wsX7_takeAway := goodIn_r _ [26, 27, 28, 29, 16, 30, 22, 31, 32, 33, 34, 18, 19, 20, 21, 35, 36, 37, 38, 2, 39, 1, 3, 4, 5, 70] (by decide +kernel) (by decide +kernel)
set_option maxRecDepth 20000 in
theorem gX5_takesCell_X7_takeAway : GoodIn wsX5_takesCell (wsV RX5 47 RX7 yX7_takeAway wsX7_takeAway) := goodIn_app (goodIn_of _ (by decide +kernel)) ggX5_takesCell_X7_takeAway
set_option maxRecDepth 20000 in
theorem ggX5_takesCell_X7_isFull : GoodIn wsX5_takesCell wsX7_isFull := goodIn_r _ [43, 44, 14, 15, 16, 17, 18, 19, 20, 21, 22, 70] (by decide +kernel) (by decide +kernel)
set_option maxRecDepth 20000 in
theorem gX5_takesCell_X7_isFull : GoodIn wsX5_takesCell (wsV RX5 51 RX7 yX7_isFull wsX7_isFull) := goodIn_app (goodIn_of _ (by decide +kernel)) ggX5_takesCell_X7_isFull
set_option maxRecDepth 20000 in
theorem ggX5_takesCell_X2_moveOver : GoodIn wsX5_takesCell wsX2_moveOver := goodIn_r _ [48, 49, 7, 8, 9, 10, 11, 12, 50, 19, 20, 16, 21, 22, 51, 24, 25, 26, 27, 28, 29, 30, 31, 32, 33, 34, 18, 35, 36, 37, 38, 2, 39, 1, 3, 4, 5, 52, 53, 54, 55, 56, 57, 58, 59, 60, 61, 62, 63, 64, 65, 66, 67, 68, 69, 70] (by decide +kernel) (by decide +kernel)
set_option maxRecDepth 20000 in
theorem gX5_takesCell_X2_moveOver : GoodIn wsX5_takesCell (wsV RX5 55 RX2 yX2_moveOver wsX2_moveOver) := goodIn_app (goodIn_of _ (by decide +kernel)) ggX5_takesCell_X2_moveOver
theorem dX5_takesCell_0 : decode cX5_takesCell 0 = .ok (.iload_n 3, 1) := by decide +kernel
theorem dX5_takesCell_1 : decode cX5_takesCell 1 = .ok (.invokestatic 35, 3) := by decide +kernel
theorem dX5_takesCell_4 : decode cX5_takesCell 4 = .ok (.istore 4, 2) := by decide +kernel
theorem dX5_takesCell_6 : decode cX5_takesCell 6 = .ok (.iload_n 3, 1) := by decide +kernel
theorem dX5_takesCell_7 : decode cX5_takesCell 7 = .ok (.invokestatic 38, 3) := by decide +kernel
theorem dX5_takesCell_10 : decode cX5_takesCell 10 = .ok (.istore 5, 2) := by decide +kernel
theorem dX5_takesCell_12 : decode cX5_takesCell 12 = .ok (.aload_n 0, 1) := by decide +kernel
theorem dX5_takesCell_13 : decode cX5_takesCell 13 = .ok (.iload_n 2, 1) := by decide +kernel
theorem dX5_takesCell_14 : decode cX5_takesCell 14 = .ok (.invokevirtual 17, 3) := by decide +kernel
theorem dX5_takesCell_17 : decode cX5_takesCell 17 = .ok (.iload 4, 2) := by decide +kernel
theorem dX5_takesCell_19 : decode cX5_takesCell 19 = .ok (.iload 5, 2) := by decide +kernel
theorem dX5_takesCell_21 : decode cX5_takesCell 21 = .ok (.invokevirtual 41, 3) := by decide +kernel
theorem dX5_takesCell_24 : decode cX5_takesCell 24 = .ok (.ifCond .ne 5, 3) := by decide +kernel
theorem dX5_takesCell_27 : decode cX5_takesCell 27 = .ok (.iconst 0, 1) := by decide +kernel
theorem dX5_takesCell_28 : decode cX5_takesCell 28 = .ok (.ireturn, 1) := by decide +kernel
theorem dX5_takesCell_29 : decode cX5_takesCell 29 = .ok (.iload_n 1, 1) := by decide +kernel
theorem dX5_takesCell_30 : decode cX5_takesCell 30 = .ok (.iconst 2, 1) := by decide +kernel
theorem dX5_takesCell_31 : decode cX5_takesCell 31 = .ok (.if_icmp .ne 18, 3) := by decide +kernel
theorem dX5_takesCell_34 : decode cX5_takesCell 34 = .ok (.aload_n 0, 1) := by decide +kernel
theorem dX5_takesCell_35 : decode cX5_takesCell 35 = .ok (.iload_n 2, 1) := by decide +kernel
theorem dX5_takesCell_36 : decode cX5_takesCell 36 = .ok (.invokevirtual 17, 3) := by decide +kernel
theorem dX5_takesCell_39 : decode cX5_takesCell 39 = .ok (.iload 4, 2) := by decide +kernel
theorem dX5_takesCell_41 : decode cX5_takesCell 41 = .ok (.iload 5, 2) := by decide +kernel
theorem dX5_takesCell_43 : decode cX5_takesCell 43 = .ok (.invokevirtual 47, 3) := by decide +kernel
theorem dX5_takesCell_46 : decode cX5_takesCell 46 = .ok (.pop, 1) := by decide +kernel
theorem dX5_takesCell_47 : decode cX5_takesCell 47 = .ok (.iconst 1, 1) := by decide +kernel
theorem dX5_takesCell_48 : decode cX5_takesCell 48 = .ok (.ireturn, 1) := by decide +kernel
theorem dX5_takesCell_49 : decode cX5_takesCell 49 = .ok (.aload_n 0, 1) := by decide +kernel
theorem dX5_takesCell_50 : decode cX5_takesCell 50 = .ok (.iconst 1, 1) := by decide +kernel
theorem dX5_takesCell_51 : decode cX5_takesCell 51 = .ok (.iload_n 2, 1) := by decide +kernel
theorem dX5_takesCell_52 : decode cX5_takesCell 52 = .ok (.isub, 1) := by decide +kernel
theorem dX5_takesCell_53 : decode cX5_takesCell 53 = .ok (.invokevirtual 17, 3) := by decide +kernel
theorem dX5_takesCell_56 : decode cX5_takesCell 56 = .ok (.invokevirtual 51, 3) := by decide +kernel
theorem dX5_takesCell_59 : decode cX5_takesCell 59 = .ok (.ifCond .eq 5, 3) := by decide +kernel
theorem dX5_takesCell_62 : decode cX5_takesCell 62 = .ok (.iconst 0, 1) := by decide +kernel
theorem dX5_takesCell_63 : decode cX5_takesCell 63 = .ok (.ireturn, 1) := by decide +kernel
theorem dX5_takesCell_64 : decode cX5_takesCell 64 = .ok (.aload_n 0, 1) := by decide +kernel
theorem dX5_takesCell_65 : decode cX5_takesCell 65 = .ok (.iload_n 2, 1) := by decide +kernel
theorem dX5_takesCell_66 : decode cX5_takesCell 66 = .ok (.iload 4, 2) := by decide +kernel
theorem dX5_takesCell_68 : decode cX5_takesCell 68 = .ok (.iload 5, 2) := by decide +kernel
theorem dX5_takesCell_70 : decode cX5_takesCell 70 = .ok (.invokevirtual 55, 3) := by decide +kernel
theorem dX5_takesCell_73 : decode cX5_takesCell 73 = .ok (.pop, 1) := by decide +kernel
theorem dX5_takesCell_74 : decode cX5_takesCell 74 = .ok (.iconst 1, 1) := by decide +kernel
theorem dX5_takesCell_75 : decode cX5_takesCell 75 = .ok (.ireturn, 1) := by decide +kernel
set_option maxRecDepth 20000 in
theorem ggX5_transposes_X7_flip : GoodIn wsX5_transposes wsX7_flip := goodIn_r _ [5, 6, 7, 8, 4, 9, 10, 11, 12, 13, 14, 15] (by decide +kernel) (by decide +kernel)
set_option maxRecDepth 20000 in
theorem gX5_transposes_X7_flip : GoodIn wsX5_transposes (wsV RX5 59 RX7 yX7_flip wsX7_flip) := goodIn_app (goodIn_of _ (by decide +kernel)) ggX5_transposes_X7_flip
theorem dX5_transposes_0 : decode cX5_transposes 0 = .ok (.aload_n 0, 1) := by decide +kernel
theorem dX5_transposes_1 : decode cX5_transposes 1 = .ok (.invokevirtual 59, 3) := by decide +kernel
theorem dX5_transposes_4 : decode cX5_transposes 4 = .ok (.iconst 1, 1) := by decide +kernel
theorem dX5_transposes_5 : decode cX5_transposes 5 = .ok (.ireturn, 1) := by decide +kernel
set_option maxRecDepth 20000 in
theorem ggX5_succeedsWith_X7_takeIn : GoodIn wsX5_succeedsWith wsX7_takeIn := goodIn_r _ [5, 6, 7, 8, 4, 9, 10, 11, 12, 13, 14, 15, 16, 17, 18, 19, 20, 21, 22, 23, 24, 25, 26, 27, 28, 29, 30, 31, 32, 33, 61] (by decide +kernel) (by decide +kernel)
set_option maxRecDepth 20000 in
theorem gX5_succeedsWith_X7_takeIn : GoodIn wsX5_succeedsWith (wsV RX5 62 RX7 yX7_takeIn wsX7_takeIn) := goodIn_app (goodIn_of _ (by decide +kernel)) ggX5_succeedsWith_X7_takeIn
set_option maxRecDepth 20000 in
theorem ggX5_succeedsWith_X7_cells : GoodIn wsX5_succeedsWith wsX7_cells := goodIn_r _ [37, 10, 11, 12, 4, 13, 14, 61] (by decide +kernel) (by decide +kernel)
set_option maxRecDepth 20000 in
theorem gX5_succeedsWith_X7_cells : GoodIn wsX5_succeedsWith (wsV RX5 65 RX7 yX7_cells wsX7_cells) := goodIn_app (goodIn_of _ (by decide +kernel)) ggX5_succeedsWith_X7_cells
set_option maxRecDepth 20000 in
theorem ggX5_succeedsWith_X7_cellsUpTo : GoodIn wsX5_succeedsWith wsX7_cellsUpTo := goodIn_r _ [41, 42, 43, 44, 4, 45, 30, 31, 32, 33, 14, 46, 47, 48, 61] (by decide +kernel) (by decide +kernel)
set_option maxRecDepth 20000 in
theorem gX5_succeedsWith_X7_cellsUpTo : GoodIn wsX5_succeedsWith (wsV RX5 69 RX7 yX7_cellsUpTo wsX7_cellsUpTo) := goodIn_app (goodIn_of _ (by decide +kernel)) ggX5_succeedsWith_X7_cellsUpTo
set_option maxRecDepth 20000 in
theorem ggX5_succeedsWith_X7_has : GoodIn wsX5_succeedsWith wsX7_has := goodIn_r _ [52, 30, 31, 32, 4, 33, 14, 61] (by decide +kernel) (by decide +kernel)
set_option maxRecDepth 20000 in
theorem gX5_succeedsWith_X7_has : GoodIn wsX5_succeedsWith (wsV RX5 41 RX7 yX7_has wsX7_has) := goodIn_app (goodIn_of _ (by decide +kernel)) ggX5_succeedsWith_X7_has
set_option maxRecDepth 20000 in
theorem ggX5_succeedsWith_X7_greatest : GoodIn wsX5_succeedsWith wsX7_greatest := goodIn_r _ [56, 14, 57, 58, 59, 60, 61] (by decide +kernel) (by decide +kernel)
set_option maxRecDepth 20000 in
theorem gX5_succeedsWith_X7_greatest : GoodIn wsX5_succeedsWith (wsV RX5 72 RX7 yX7_greatest wsX7_greatest) := goodIn_app (goodIn_of _ (by decide +kernel)) ggX5_succeedsWith_X7_greatest
theorem dX5_succeedsWith_0 : decode cX5_succeedsWith 0 = .ok (.iload_n 1, 1) := by decide +kernel
theorem dX5_succeedsWith_1 : decode cX5_succeedsWith 1 = .ok (.tableswitch 117 1 7 #[43, 117, 117, 117, 59, 73, 94], 43) := by decide +kernel
theorem dX5_succeedsWith_44 : decode cX5_succeedsWith 44 = .ok (.aload_n 0, 1) := by decide +kernel
theorem dX5_succeedsWith_45 : decode cX5_succeedsWith 45 = .ok (.iload_n 2, 1) := by decide +kernel
theorem dX5_succeedsWith_46 : decode cX5_succeedsWith 46 = .ok (.invokevirtual 62, 3) := by decide +kernel
theorem dX5_succeedsWith_49 : decode cX5_succeedsWith 49 = .ok (.bipush (-9), 2) := by decide +kernel
theorem dX5_succeedsWith_51 : decode cX5_succeedsWith 51 = .ok (.if_icmp .eq 7, 3) := by decide +kernel
theorem dX5_succeedsWith_54 : decode cX5_succeedsWith 54 = .ok (.iconst 1, 1) := by decide +kernel
theorem dX5_succeedsWith_55 : decode cX5_succeedsWith 55 = .ok (.goto 4, 3) := by decide +kernel
theorem dX5_succeedsWith_58 : decode cX5_succeedsWith 58 = .ok (.iconst 0, 1) := by decide +kernel
theorem dX5_succeedsWith_59 : decode cX5_succeedsWith 59 = .ok (.ireturn, 1) := by decide +kernel
theorem dX5_succeedsWith_60 : decode cX5_succeedsWith 60 = .ok (.aload_n 0, 1) := by decide +kernel
theorem dX5_succeedsWith_61 : decode cX5_succeedsWith 61 = .ok (.invokevirtual 65, 3) := by decide +kernel
theorem dX5_succeedsWith_64 : decode cX5_succeedsWith 64 = .ok (.iload_n 2, 1) := by decide +kernel
theorem dX5_succeedsWith_65 : decode cX5_succeedsWith 65 = .ok (.if_icmp .ne 7, 3) := by decide +kernel
theorem dX5_succeedsWith_68 : decode cX5_succeedsWith 68 = .ok (.iconst 1, 1) := by decide +kernel
theorem dX5_succeedsWith_69 : decode cX5_succeedsWith 69 = .ok (.goto 4, 3) := by decide +kernel
theorem dX5_succeedsWith_72 : decode cX5_succeedsWith 72 = .ok (.iconst 0, 1) := by decide +kernel
theorem dX5_succeedsWith_73 : decode cX5_succeedsWith 73 = .ok (.ireturn, 1) := by decide +kernel
theorem dX5_succeedsWith_74 : decode cX5_succeedsWith 74 = .ok (.aload_n 0, 1) := by decide +kernel
theorem dX5_succeedsWith_75 : decode cX5_succeedsWith 75 = .ok (.iload_n 2, 1) := by decide +kernel
theorem dX5_succeedsWith_76 : decode cX5_succeedsWith 76 = .ok (.invokevirtual 69, 3) := by decide +kernel
theorem dX5_succeedsWith_79 : decode cX5_succeedsWith 79 = .ok (.aload_n 0, 1) := by decide +kernel
theorem dX5_succeedsWith_80 : decode cX5_succeedsWith 80 = .ok (.iload_n 2, 1) := by decide +kernel
theorem dX5_succeedsWith_81 : decode cX5_succeedsWith 81 = .ok (.iconst 1, 1) := by decide +kernel
theorem dX5_succeedsWith_82 : decode cX5_succeedsWith 82 = .ok (.isub, 1) := by decide +kernel
theorem dX5_succeedsWith_83 : decode cX5_succeedsWith 83 = .ok (.invokevirtual 69, 3) := by decide +kernel
theorem dX5_succeedsWith_86 : decode cX5_succeedsWith 86 = .ok (.if_icmp .le 7, 3) := by decide +kernel
theorem dX5_succeedsWith_89 : decode cX5_succeedsWith 89 = .ok (.iconst 1, 1) := by decide +kernel
theorem dX5_succeedsWith_90 : decode cX5_succeedsWith 90 = .ok (.goto 4, 3) := by decide +kernel
theorem dX5_succeedsWith_93 : decode cX5_succeedsWith 93 = .ok (.iconst 0, 1) := by decide +kernel
theorem dX5_succeedsWith_94 : decode cX5_succeedsWith 94 = .ok (.ireturn, 1) := by decide +kernel
theorem dX5_succeedsWith_95 : decode cX5_succeedsWith 95 = .ok (.aload_n 0, 1) := by decide +kernel
theorem dX5_succeedsWith_96 : decode cX5_succeedsWith 96 = .ok (.iconst 0, 1) := by decide +kernel
theorem dX5_succeedsWith_97 : decode cX5_succeedsWith 97 = .ok (.iconst 0, 1) := by decide +kernel
theorem dX5_succeedsWith_98 : decode cX5_succeedsWith 98 = .ok (.invokevirtual 41, 3) := by decide +kernel
theorem dX5_succeedsWith_101 : decode cX5_succeedsWith 101 = .ok (.ifCond .eq 15, 3) := by decide +kernel
theorem dX5_succeedsWith_104 : decode cX5_succeedsWith 104 = .ok (.aload_n 0, 1) := by decide +kernel
theorem dX5_succeedsWith_105 : decode cX5_succeedsWith 105 = .ok (.invokevirtual 72, 3) := by decide +kernel
theorem dX5_succeedsWith_108 : decode cX5_succeedsWith 108 = .ok (.iload_n 2, 1) := by decide +kernel
theorem dX5_succeedsWith_109 : decode cX5_succeedsWith 109 = .ok (.if_icmp .gt 7, 3) := by decide +kernel
theorem dX5_succeedsWith_112 : decode cX5_succeedsWith 112 = .ok (.iconst 1, 1) := by decide +kernel
theorem dX5_succeedsWith_113 : decode cX5_succeedsWith 113 = .ok (.goto 4, 3) := by decide +kernel
theorem dX5_succeedsWith_116 : decode cX5_succeedsWith 116 = .ok (.iconst 0, 1) := by decide +kernel
theorem dX5_succeedsWith_117 : decode cX5_succeedsWith 117 = .ok (.ireturn, 1) := by decide +kernel
theorem dX5_succeedsWith_118 : decode cX5_succeedsWith 118 = .ok (.iconst 0, 1) := by decide +kernel
theorem dX5_succeedsWith_119 : decode cX5_succeedsWith 119 = .ok (.ireturn, 1) := by decide +kernel
set_option maxRecDepth 20000 in
theorem ggX6_init_X2_init : GoodIn wsX6_init wsX2_init := goodIn_r _ [10, 11, 2, 3, 12, 13, 14, 15, 16, 17, 18, 19, 20, 21, 22, 23, 24, 25, 26, 31, 27, 28] (by decide +kernel) (by decide +kernel)
set_option maxRecDepth 20000 in
theorem gX6_init_X2_init_n9 : GoodIn wsX6_init (wsX2_init) := ggX6_init_X2_init
theorem dX6_init_0 : decode cX6_init 0 = .ok (.aload_n 0, 1) := by decide +kernel
theorem dX6_init_1 : decode cX6_init 1 = .ok (.invokespecial 1, 3) := by decide +kernel
theorem dX6_init_4 : decode cX6_init 4 = .ok (.aload_n 0, 1) := by decide +kernel
theorem dX6_init_5 : decode cX6_init 5 = .ok (.new 7, 3) := by decide +kernel
theorem dX6_init_8 : decode cX6_init 8 = .ok (.dup, 1) := by decide +kernel
theorem dX6_init_9 : decode cX6_init 9 = .ok (.invokespecial 9, 3) := by decide +kernel
theorem dX6_init_12 : decode cX6_init 12 = .ok (.putfield 10, 3) := by decide +kernel
theorem dX6_init_15 : decode cX6_init 15 = .ok (.aload_n 0, 1) := by decide +kernel
theorem dX6_init_16 : decode cX6_init 16 = .ok (.iconst 0, 1) := by decide +kernel
theorem dX6_init_17 : decode cX6_init 17 = .ok (.putfield 16, 3) := by decide +kernel
theorem dX6_init_20 : decode cX6_init 20 = .ok (.return_, 1) := by decide +kernel
theorem dX6_isFilled_0 : decode cX6_isFilled 0 = .ok (.aload_n 0, 1) := by decide +kernel
theorem dX6_isFilled_1 : decode cX6_isFilled 1 = .ok (.getfield 16, 3) := by decide +kernel
theorem dX6_isFilled_4 : decode cX6_isFilled 4 = .ok (.ireturn, 1) := by decide +kernel
theorem dX6_tables_0 : decode cX6_tables 0 = .ok (.aload_n 0, 1) := by decide +kernel
theorem dX6_tables_1 : decode cX6_tables 1 = .ok (.getfield 10, 3) := by decide +kernel
theorem dX6_tables_4 : decode cX6_tables 4 = .ok (.areturn, 1) := by decide +kernel
set_option maxRecDepth 20000 in
theorem ggX6_fill_X2_copyFrom : GoodIn wsX6_fill wsX2_copyFrom := goodIn_r _ [7, 8, 9, 10, 11, 12, 13, 14, 15, 16, 17, 18, 19, 22, 23, 24] (by decide +kernel) (by decide +kernel)
set_option maxRecDepth 20000 in
theorem gX6_fill_X2_copyFrom : GoodIn wsX6_fill (wsV RX6 20 RX2 yX2_copyFrom wsX2_copyFrom) := goodIn_app (goodIn_of _ (by decide +kernel)) ggX6_fill_X2_copyFrom
theorem dX6_fill_0 : decode cX6_fill 0 = .ok (.aload_n 0, 1) := by decide +kernel
theorem dX6_fill_1 : decode cX6_fill 1 = .ok (.getfield 10, 3) := by decide +kernel
theorem dX6_fill_4 : decode cX6_fill 4 = .ok (.aload_n 1, 1) := by decide +kernel
theorem dX6_fill_5 : decode cX6_fill 5 = .ok (.invokevirtual 20, 3) := by decide +kernel
theorem dX6_fill_8 : decode cX6_fill 8 = .ok (.aload_n 0, 1) := by decide +kernel
theorem dX6_fill_9 : decode cX6_fill 9 = .ok (.iconst 1, 1) := by decide +kernel
theorem dX6_fill_10 : decode cX6_fill 10 = .ok (.putfield 16, 3) := by decide +kernel
theorem dX6_fill_13 : decode cX6_fill 13 = .ok (.return_, 1) := by decide +kernel
theorem dX6_empty_0 : decode cX6_empty 0 = .ok (.aload_n 0, 1) := by decide +kernel
theorem dX6_empty_1 : decode cX6_empty 1 = .ok (.iconst 0, 1) := by decide +kernel
theorem dX6_empty_2 : decode cX6_empty 2 = .ok (.putfield 16, 3) := by decide +kernel
theorem dX6_empty_5 : decode cX6_empty 5 = .ok (.return_, 1) := by decide +kernel
set_option maxRecDepth 20000 in
theorem ggX7_init_X7_wipe : GoodIn wsX7_init wsX7_wipe := goodIn_r _ [10, 5, 11] (by decide +kernel) (by decide +kernel)
set_option maxRecDepth 20000 in
theorem gX7_init_X7_wipe : GoodIn wsX7_init (wsV RX7 15 RX7 yX7_wipe wsX7_wipe) := goodIn_app (goodIn_of _ (by decide +kernel)) ggX7_init_X7_wipe
theorem dX7_init_0 : decode cX7_init 0 = .ok (.aload_n 0, 1) := by decide +kernel
theorem dX7_init_1 : decode cX7_init 1 = .ok (.invokespecial 3, 3) := by decide +kernel
theorem dX7_init_4 : decode cX7_init 4 = .ok (.aload_n 0, 1) := by decide +kernel
theorem dX7_init_5 : decode cX7_init 5 = .ok (.bipush 36, 2) := by decide +kernel
theorem dX7_init_7 : decode cX7_init 7 = .ok (.newarray .int, 2) := by decide +kernel
theorem dX7_init_9 : decode cX7_init 9 = .ok (.putfield 9, 3) := by decide +kernel
theorem dX7_init_12 : decode cX7_init 12 = .ok (.aload_n 0, 1) := by decide +kernel
theorem dX7_init_13 : decode cX7_init 13 = .ok (.invokevirtual 15, 3) := by decide +kernel
theorem dX7_init_16 : decode cX7_init 16 = .ok (.return_, 1) := by decide +kernel
theorem dX7_at_0 : decode cX7_at 0 = .ok (.iload_n 1, 1) := by decide +kernel
theorem dX7_at_1 : decode cX7_at 1 = .ok (.ifCond .lt 19, 3) := by decide +kernel
theorem dX7_at_4 : decode cX7_at 4 = .ok (.iload_n 1, 1) := by decide +kernel
theorem dX7_at_5 : decode cX7_at 5 = .ok (.bipush 6, 2) := by decide +kernel
theorem dX7_at_7 : decode cX7_at 7 = .ok (.if_icmp .ge 13, 3) := by decide +kernel
theorem dX7_at_10 : decode cX7_at 10 = .ok (.iload_n 2, 1) := by decide +kernel
theorem dX7_at_11 : decode cX7_at 11 = .ok (.ifCond .lt 9, 3) := by decide +kernel
theorem dX7_at_14 : decode cX7_at 14 = .ok (.iload_n 2, 1) := by decide +kernel
theorem dX7_at_15 : decode cX7_at 15 = .ok (.bipush 6, 2) := by decide +kernel
theorem dX7_at_17 : decode cX7_at 17 = .ok (.if_icmp .lt 5, 3) := by decide +kernel
theorem dX7_at_20 : decode cX7_at 20 = .ok (.iconst (-1), 1) := by decide +kernel
theorem dX7_at_21 : decode cX7_at 21 = .ok (.ireturn, 1) := by decide +kernel
theorem dX7_at_22 : decode cX7_at 22 = .ok (.aload_n 0, 1) := by decide +kernel
theorem dX7_at_23 : decode cX7_at 23 = .ok (.getfield 9, 3) := by decide +kernel
theorem dX7_at_26 : decode cX7_at 26 = .ok (.iload_n 1, 1) := by decide +kernel
theorem dX7_at_27 : decode cX7_at 27 = .ok (.bipush 6, 2) := by decide +kernel
theorem dX7_at_29 : decode cX7_at 29 = .ok (.imul, 1) := by decide +kernel
theorem dX7_at_30 : decode cX7_at 30 = .ok (.iload_n 2, 1) := by decide +kernel
theorem dX7_at_31 : decode cX7_at 31 = .ok (.iadd, 1) := by decide +kernel
theorem dX7_at_32 : decode cX7_at 32 = .ok (.iaload, 1) := by decide +kernel
theorem dX7_at_33 : decode cX7_at 33 = .ok (.ireturn, 1) := by decide +kernel
set_option maxRecDepth 20000 in
theorem ggX7_has_X7_at : GoodIn wsX7_has wsX7_at := goodIn_r _ [5, 6, 7] (by decide +kernel) (by decide +kernel)
set_option maxRecDepth 20000 in
theorem gX7_has_X7_at : GoodIn wsX7_has (wsV RX7 18 RX7 yX7_at wsX7_at) := goodIn_app (goodIn_of _ (by decide +kernel)) ggX7_has_X7_at
theorem dX7_has_0 : decode cX7_has 0 = .ok (.aload_n 0, 1) := by decide +kernel
theorem dX7_has_1 : decode cX7_has 1 = .ok (.iload_n 1, 1) := by decide +kernel
theorem dX7_has_2 : decode cX7_has 2 = .ok (.iload_n 2, 1) := by decide +kernel
theorem dX7_has_3 : decode cX7_has 3 = .ok (.invokevirtual 18, 3) := by decide +kernel
theorem dX7_has_6 : decode cX7_has 6 = .ok (.iconst (-1), 1) := by decide +kernel
theorem dX7_has_7 : decode cX7_has 7 = .ok (.if_icmp .eq 7, 3) := by decide +kernel
theorem dX7_has_10 : decode cX7_has 10 = .ok (.iconst 1, 1) := by decide +kernel
theorem dX7_has_11 : decode cX7_has 11 = .ok (.goto 4, 3) := by decide +kernel
theorem dX7_has_14 : decode cX7_has 14 = .ok (.iconst 0, 1) := by decide +kernel
theorem dX7_has_15 : decode cX7_has 15 = .ok (.ireturn, 1) := by decide +kernel
theorem dX7_put_0 : decode cX7_put 0 = .ok (.iload_n 1, 1) := by decide +kernel
theorem dX7_put_1 : decode cX7_put 1 = .ok (.ifCond .lt 31, 3) := by decide +kernel
theorem dX7_put_4 : decode cX7_put 4 = .ok (.iload_n 1, 1) := by decide +kernel
theorem dX7_put_5 : decode cX7_put 5 = .ok (.bipush 6, 2) := by decide +kernel
theorem dX7_put_7 : decode cX7_put 7 = .ok (.if_icmp .ge 25, 3) := by decide +kernel
theorem dX7_put_10 : decode cX7_put 10 = .ok (.iload_n 2, 1) := by decide +kernel
theorem dX7_put_11 : decode cX7_put 11 = .ok (.ifCond .lt 21, 3) := by decide +kernel
theorem dX7_put_14 : decode cX7_put 14 = .ok (.iload_n 2, 1) := by decide +kernel
theorem dX7_put_15 : decode cX7_put 15 = .ok (.bipush 6, 2) := by decide +kernel
theorem dX7_put_17 : decode cX7_put 17 = .ok (.if_icmp .ge 15, 3) := by decide +kernel
theorem dX7_put_20 : decode cX7_put 20 = .ok (.aload_n 0, 1) := by decide +kernel
theorem dX7_put_21 : decode cX7_put 21 = .ok (.getfield 9, 3) := by decide +kernel
theorem dX7_put_24 : decode cX7_put 24 = .ok (.iload_n 1, 1) := by decide +kernel
theorem dX7_put_25 : decode cX7_put 25 = .ok (.bipush 6, 2) := by decide +kernel
theorem dX7_put_27 : decode cX7_put 27 = .ok (.imul, 1) := by decide +kernel
theorem dX7_put_28 : decode cX7_put 28 = .ok (.iload_n 2, 1) := by decide +kernel
theorem dX7_put_29 : decode cX7_put 29 = .ok (.iadd, 1) := by decide +kernel
theorem dX7_put_30 : decode cX7_put 30 = .ok (.iload_n 3, 1) := by decide +kernel
theorem dX7_put_31 : decode cX7_put 31 = .ok (.iastore, 1) := by decide +kernel
theorem dX7_put_32 : decode cX7_put 32 = .ok (.return_, 1) := by decide +kernel
theorem dX7_wipe_0 : decode cX7_wipe 0 = .ok (.iconst 0, 1) := by decide +kernel
theorem dX7_wipe_1 : decode cX7_wipe 1 = .ok (.istore_n 1, 1) := by decide +kernel
theorem dX7_wipe_2 : decode cX7_wipe 2 = .ok (.iload_n 1, 1) := by decide +kernel
theorem dX7_wipe_3 : decode cX7_wipe 3 = .ok (.bipush 36, 2) := by decide +kernel
theorem dX7_wipe_5 : decode cX7_wipe 5 = .ok (.if_icmp .ge 16, 3) := by decide +kernel
theorem dX7_wipe_8 : decode cX7_wipe 8 = .ok (.aload_n 0, 1) := by decide +kernel
theorem dX7_wipe_9 : decode cX7_wipe 9 = .ok (.getfield 9, 3) := by decide +kernel
theorem dX7_wipe_12 : decode cX7_wipe 12 = .ok (.iload_n 1, 1) := by decide +kernel
theorem dX7_wipe_13 : decode cX7_wipe 13 = .ok (.iconst (-1), 1) := by decide +kernel
theorem dX7_wipe_14 : decode cX7_wipe 14 = .ok (.iastore, 1) := by decide +kernel
theorem dX7_wipe_15 : decode cX7_wipe 15 = .ok (.iinc 1 1, 3) := by decide +kernel
theorem dX7_wipe_18 : decode cX7_wipe 18 = .ok (.goto (-16), 3) := by decide +kernel
theorem dX7_wipe_21 : decode cX7_wipe 21 = .ok (.return_, 1) := by decide +kernel
theorem dX7_copyFrom_0 : decode cX7_copyFrom 0 = .ok (.aload_n 1, 1) := by decide +kernel
theorem dX7_copyFrom_1 : decode cX7_copyFrom 1 = .ok (.getfield 9, 3) := by decide +kernel
theorem dX7_copyFrom_4 : decode cX7_copyFrom 4 = .ok (.iconst 0, 1) := by decide +kernel
theorem dX7_copyFrom_5 : decode cX7_copyFrom 5 = .ok (.aload_n 0, 1) := by decide +kernel
theorem dX7_copyFrom_6 : decode cX7_copyFrom 6 = .ok (.getfield 9, 3) := by decide +kernel
theorem dX7_copyFrom_9 : decode cX7_copyFrom 9 = .ok (.iconst 0, 1) := by decide +kernel
theorem dX7_copyFrom_10 : decode cX7_copyFrom 10 = .ok (.bipush 36, 2) := by decide +kernel
theorem dX7_copyFrom_12 : decode cX7_copyFrom 12 = .ok (.invokestatic 22, 3) := by decide +kernel
theorem dX7_copyFrom_15 : decode cX7_copyFrom 15 = .ok (.return_, 1) := by decide +kernel
theorem dX7_writeTo_0 : decode cX7_writeTo 0 = .ok (.iload_n 2, 1) := by decide +kernel
theorem dX7_writeTo_1 : decode cX7_writeTo 1 = .ok (.ifCond .lt 24, 3) := by decide +kernel
theorem dX7_writeTo_4 : decode cX7_writeTo 4 = .ok (.iload_n 2, 1) := by decide +kernel
theorem dX7_writeTo_5 : decode cX7_writeTo 5 = .ok (.aload_n 1, 1) := by decide +kernel
theorem dX7_writeTo_6 : decode cX7_writeTo 6 = .ok (.arraylength, 1) := by decide +kernel
theorem dX7_writeTo_7 : decode cX7_writeTo 7 = .ok (.bipush 36, 2) := by decide +kernel
theorem dX7_writeTo_9 : decode cX7_writeTo 9 = .ok (.isub, 1) := by decide +kernel
theorem dX7_writeTo_10 : decode cX7_writeTo 10 = .ok (.if_icmp .gt 15, 3) := by decide +kernel
theorem dX7_writeTo_13 : decode cX7_writeTo 13 = .ok (.aload_n 0, 1) := by decide +kernel
theorem dX7_writeTo_14 : decode cX7_writeTo 14 = .ok (.getfield 9, 3) := by decide +kernel
theorem dX7_writeTo_17 : decode cX7_writeTo 17 = .ok (.iconst 0, 1) := by decide +kernel
theorem dX7_writeTo_18 : decode cX7_writeTo 18 = .ok (.aload_n 1, 1) := by decide +kernel
theorem dX7_writeTo_19 : decode cX7_writeTo 19 = .ok (.iload_n 2, 1) := by decide +kernel
theorem dX7_writeTo_20 : decode cX7_writeTo 20 = .ok (.bipush 36, 2) := by decide +kernel
theorem dX7_writeTo_22 : decode cX7_writeTo 22 = .ok (.invokestatic 22, 3) := by decide +kernel
theorem dX7_writeTo_25 : decode cX7_writeTo 25 = .ok (.return_, 1) := by decide +kernel
theorem dX7_readFrom_0 : decode cX7_readFrom 0 = .ok (.iload_n 2, 1) := by decide +kernel
theorem dX7_readFrom_1 : decode cX7_readFrom 1 = .ok (.ifCond .lt 24, 3) := by decide +kernel
theorem dX7_readFrom_4 : decode cX7_readFrom 4 = .ok (.iload_n 2, 1) := by decide +kernel
theorem dX7_readFrom_5 : decode cX7_readFrom 5 = .ok (.aload_n 1, 1) := by decide +kernel
theorem dX7_readFrom_6 : decode cX7_readFrom 6 = .ok (.arraylength, 1) := by decide +kernel
theorem dX7_readFrom_7 : decode cX7_readFrom 7 = .ok (.bipush 36, 2) := by decide +kernel
theorem dX7_readFrom_9 : decode cX7_readFrom 9 = .ok (.isub, 1) := by decide +kernel
theorem dX7_readFrom_10 : decode cX7_readFrom 10 = .ok (.if_icmp .gt 15, 3) := by decide +kernel
theorem dX7_readFrom_13 : decode cX7_readFrom 13 = .ok (.aload_n 1, 1) := by decide +kernel
theorem dX7_readFrom_14 : decode cX7_readFrom 14 = .ok (.iload_n 2, 1) := by decide +kernel
theorem dX7_readFrom_15 : decode cX7_readFrom 15 = .ok (.aload_n 0, 1) := by decide +kernel
theorem dX7_readFrom_16 : decode cX7_readFrom 16 = .ok (.getfield 9, 3) := by decide +kernel
theorem dX7_readFrom_19 : decode cX7_readFrom 19 = .ok (.iconst 0, 1) := by decide +kernel
theorem dX7_readFrom_20 : decode cX7_readFrom 20 = .ok (.bipush 36, 2) := by decide +kernel
theorem dX7_readFrom_22 : decode cX7_readFrom 22 = .ok (.invokestatic 22, 3) := by decide +kernel
theorem dX7_readFrom_25 : decode cX7_readFrom 25 = .ok (.return_, 1) := by decide +kernel
theorem dX7_swapWith_0 : decode cX7_swapWith 0 = .ok (.iconst 0, 1) := by decide +kernel
theorem dX7_swapWith_1 : decode cX7_swapWith 1 = .ok (.istore_n 2, 1) := by decide +kernel
theorem dX7_swapWith_2 : decode cX7_swapWith 2 = .ok (.iload_n 2, 1) := by decide +kernel
theorem dX7_swapWith_3 : decode cX7_swapWith 3 = .ok (.bipush 36, 2) := by decide +kernel
theorem dX7_swapWith_5 : decode cX7_swapWith 5 = .ok (.if_icmp .ge 35, 3) := by decide +kernel
theorem dX7_swapWith_8 : decode cX7_swapWith 8 = .ok (.aload_n 0, 1) := by decide +kernel
theorem dX7_swapWith_9 : decode cX7_swapWith 9 = .ok (.getfield 9, 3) := by decide +kernel
theorem dX7_swapWith_12 : decode cX7_swapWith 12 = .ok (.iload_n 2, 1) := by decide +kernel
theorem dX7_swapWith_13 : decode cX7_swapWith 13 = .ok (.iaload, 1) := by decide +kernel
theorem dX7_swapWith_14 : decode cX7_swapWith 14 = .ok (.istore_n 3, 1) := by decide +kernel
theorem dX7_swapWith_15 : decode cX7_swapWith 15 = .ok (.aload_n 0, 1) := by decide +kernel
theorem dX7_swapWith_16 : decode cX7_swapWith 16 = .ok (.getfield 9, 3) := by decide +kernel
theorem dX7_swapWith_19 : decode cX7_swapWith 19 = .ok (.iload_n 2, 1) := by decide +kernel
theorem dX7_swapWith_20 : decode cX7_swapWith 20 = .ok (.aload_n 1, 1) := by decide +kernel
theorem dX7_swapWith_21 : decode cX7_swapWith 21 = .ok (.getfield 9, 3) := by decide +kernel
theorem dX7_swapWith_24 : decode cX7_swapWith 24 = .ok (.iload_n 2, 1) := by decide +kernel
theorem dX7_swapWith_25 : decode cX7_swapWith 25 = .ok (.iaload, 1) := by decide +kernel
theorem dX7_swapWith_26 : decode cX7_swapWith 26 = .ok (.iastore, 1) := by decide +kernel
theorem dX7_swapWith_27 : decode cX7_swapWith 27 = .ok (.aload_n 1, 1) := by decide +kernel
theorem dX7_swapWith_28 : decode cX7_swapWith 28 = .ok (.getfield 9, 3) := by decide +kernel
theorem dX7_swapWith_31 : decode cX7_swapWith 31 = .ok (.iload_n 2, 1) := by decide +kernel
theorem dX7_swapWith_32 : decode cX7_swapWith 32 = .ok (.iload_n 3, 1) := by decide +kernel
theorem dX7_swapWith_33 : decode cX7_swapWith 33 = .ok (.iastore, 1) := by decide +kernel
theorem dX7_swapWith_34 : decode cX7_swapWith 34 = .ok (.iinc 2 1, 3) := by decide +kernel
theorem dX7_swapWith_37 : decode cX7_swapWith 37 = .ok (.goto (-35), 3) := by decide +kernel
theorem dX7_swapWith_40 : decode cX7_swapWith 40 = .ok (.return_, 1) := by decide +kernel
set_option maxRecDepth 20000 in
theorem ggX7_flip_X7_at : GoodIn wsX7_flip wsX7_at := goodIn_r _ [5, 6, 11] (by decide +kernel) (by decide +kernel)
set_option maxRecDepth 20000 in
theorem gX7_flip_X7_at : GoodIn wsX7_flip (wsV RX7 18 RX7 yX7_at wsX7_at) := goodIn_app (goodIn_of _ (by decide +kernel)) ggX7_flip_X7_at
set_option maxRecDepth 20000 in
theorem ggX7_flip_X7_put : GoodIn wsX7_flip wsX7_put := goodIn_r _ [10, 6, 11] (by decide +kernel) (by decide +kernel)
set_option maxRecDepth 20000 in
theorem gX7_flip_X7_put : GoodIn wsX7_flip (wsV RX7 28 RX7 yX7_put wsX7_put) := goodIn_app (goodIn_of _ (by decide +kernel)) ggX7_flip_X7_put
theorem dX7_flip_0 : decode cX7_flip 0 = .ok (.iconst 0, 1) := by decide +kernel
theorem dX7_flip_1 : decode cX7_flip 1 = .ok (.istore_n 1, 1) := by decide +kernel
theorem dX7_flip_2 : decode cX7_flip 2 = .ok (.iload_n 1, 1) := by decide +kernel
theorem dX7_flip_3 : decode cX7_flip 3 = .ok (.bipush 6, 2) := by decide +kernel
theorem dX7_flip_5 : decode cX7_flip 5 = .ok (.if_icmp .ge 48, 3) := by decide +kernel
theorem dX7_flip_8 : decode cX7_flip 8 = .ok (.iconst 0, 1) := by decide +kernel
theorem dX7_flip_9 : decode cX7_flip 9 = .ok (.istore_n 2, 1) := by decide +kernel
theorem dX7_flip_10 : decode cX7_flip 10 = .ok (.iload_n 2, 1) := by decide +kernel
theorem dX7_flip_11 : decode cX7_flip 11 = .ok (.iload_n 1, 1) := by decide +kernel
theorem dX7_flip_12 : decode cX7_flip 12 = .ok (.if_icmp .ge 35, 3) := by decide +kernel
theorem dX7_flip_15 : decode cX7_flip 15 = .ok (.aload_n 0, 1) := by decide +kernel
theorem dX7_flip_16 : decode cX7_flip 16 = .ok (.iload_n 1, 1) := by decide +kernel
theorem dX7_flip_17 : decode cX7_flip 17 = .ok (.iload_n 2, 1) := by decide +kernel
theorem dX7_flip_18 : decode cX7_flip 18 = .ok (.invokevirtual 18, 3) := by decide +kernel
theorem dX7_flip_21 : decode cX7_flip 21 = .ok (.istore_n 3, 1) := by decide +kernel
theorem dX7_flip_22 : decode cX7_flip 22 = .ok (.aload_n 0, 1) := by decide +kernel
theorem dX7_flip_23 : decode cX7_flip 23 = .ok (.iload_n 1, 1) := by decide +kernel
theorem dX7_flip_24 : decode cX7_flip 24 = .ok (.iload_n 2, 1) := by decide +kernel
theorem dX7_flip_25 : decode cX7_flip 25 = .ok (.aload_n 0, 1) := by decide +kernel
theorem dX7_flip_26 : decode cX7_flip 26 = .ok (.iload_n 2, 1) := by decide +kernel
theorem dX7_flip_27 : decode cX7_flip 27 = .ok (.iload_n 1, 1) := by decide +kernel
theorem dX7_flip_28 : decode cX7_flip 28 = .ok (.invokevirtual 18, 3) := by decide +kernel
theorem dX7_flip_31 : decode cX7_flip 31 = .ok (.invokevirtual 28, 3) := by decide +kernel
theorem dX7_flip_34 : decode cX7_flip 34 = .ok (.aload_n 0, 1) := by decide +kernel
theorem dX7_flip_35 : decode cX7_flip 35 = .ok (.iload_n 2, 1) := by decide +kernel
theorem dX7_flip_36 : decode cX7_flip 36 = .ok (.iload_n 1, 1) := by decide +kernel
theorem dX7_flip_37 : decode cX7_flip 37 = .ok (.iload_n 3, 1) := by decide +kernel
theorem dX7_flip_38 : decode cX7_flip 38 = .ok (.invokevirtual 28, 3) := by decide +kernel
theorem dX7_flip_41 : decode cX7_flip 41 = .ok (.iinc 2 1, 3) := by decide +kernel
theorem dX7_flip_44 : decode cX7_flip 44 = .ok (.goto (-34), 3) := by decide +kernel
theorem dX7_flip_47 : decode cX7_flip 47 = .ok (.iinc 1 1, 3) := by decide +kernel
theorem dX7_flip_50 : decode cX7_flip 50 = .ok (.goto (-48), 3) := by decide +kernel
theorem dX7_flip_53 : decode cX7_flip 53 = .ok (.return_, 1) := by decide +kernel
theorem dX7_rowLength_0 : decode cX7_rowLength 0 = .ok (.iload_n 1, 1) := by decide +kernel
theorem dX7_rowLength_1 : decode cX7_rowLength 1 = .ok (.ifCond .lt 9, 3) := by decide +kernel
theorem dX7_rowLength_4 : decode cX7_rowLength 4 = .ok (.iload_n 1, 1) := by decide +kernel
theorem dX7_rowLength_5 : decode cX7_rowLength 5 = .ok (.bipush 6, 2) := by decide +kernel
theorem dX7_rowLength_7 : decode cX7_rowLength 7 = .ok (.if_icmp .lt 5, 3) := by decide +kernel
theorem dX7_rowLength_10 : decode cX7_rowLength 10 = .ok (.iconst 0, 1) := by decide +kernel
theorem dX7_rowLength_11 : decode cX7_rowLength 11 = .ok (.ireturn, 1) := by decide +kernel
theorem dX7_rowLength_12 : decode cX7_rowLength 12 = .ok (.iconst 0, 1) := by decide +kernel
theorem dX7_rowLength_13 : decode cX7_rowLength 13 = .ok (.istore_n 2, 1) := by decide +kernel
theorem dX7_rowLength_14 : decode cX7_rowLength 14 = .ok (.iconst 0, 1) := by decide +kernel
theorem dX7_rowLength_15 : decode cX7_rowLength 15 = .ok (.istore_n 3, 1) := by decide +kernel
theorem dX7_rowLength_16 : decode cX7_rowLength 16 = .ok (.iload_n 3, 1) := by decide +kernel
theorem dX7_rowLength_17 : decode cX7_rowLength 17 = .ok (.bipush 6, 2) := by decide +kernel
theorem dX7_rowLength_19 : decode cX7_rowLength 19 = .ok (.if_icmp .ge 27, 3) := by decide +kernel
theorem dX7_rowLength_22 : decode cX7_rowLength 22 = .ok (.aload_n 0, 1) := by decide +kernel
theorem dX7_rowLength_23 : decode cX7_rowLength 23 = .ok (.getfield 9, 3) := by decide +kernel
theorem dX7_rowLength_26 : decode cX7_rowLength 26 = .ok (.iload_n 1, 1) := by decide +kernel
theorem dX7_rowLength_27 : decode cX7_rowLength 27 = .ok (.bipush 6, 2) := by decide +kernel
theorem dX7_rowLength_29 : decode cX7_rowLength 29 = .ok (.imul, 1) := by decide +kernel
theorem dX7_rowLength_30 : decode cX7_rowLength 30 = .ok (.iload_n 3, 1) := by decide +kernel
theorem dX7_rowLength_31 : decode cX7_rowLength 31 = .ok (.iadd, 1) := by decide +kernel
theorem dX7_rowLength_32 : decode cX7_rowLength 32 = .ok (.iaload, 1) := by decide +kernel
theorem dX7_rowLength_33 : decode cX7_rowLength 33 = .ok (.iconst (-1), 1) := by decide +kernel
theorem dX7_rowLength_34 : decode cX7_rowLength 34 = .ok (.if_icmp .eq 6, 3) := by decide +kernel
theorem dX7_rowLength_37 : decode cX7_rowLength 37 = .ok (.iinc 2 1, 3) := by decide +kernel
theorem dX7_rowLength_40 : decode cX7_rowLength 40 = .ok (.iinc 3 1, 3) := by decide +kernel
theorem dX7_rowLength_43 : decode cX7_rowLength 43 = .ok (.goto (-27), 3) := by decide +kernel
theorem dX7_rowLength_46 : decode cX7_rowLength 46 = .ok (.iload_n 2, 1) := by decide +kernel
theorem dX7_rowLength_47 : decode cX7_rowLength 47 = .ok (.ireturn, 1) := by decide +kernel
set_option maxRecDepth 20000 in
theorem ggX7_columnLength_X7_at : GoodIn wsX7_columnLength wsX7_at := goodIn_r _ [5, 6, 7] (by decide +kernel) (by decide +kernel)
set_option maxRecDepth 20000 in
theorem gX7_columnLength_X7_at : GoodIn wsX7_columnLength (wsV RX7 18 RX7 yX7_at wsX7_at) := goodIn_app (goodIn_of _ (by decide +kernel)) ggX7_columnLength_X7_at
theorem dX7_columnLength_0 : decode cX7_columnLength 0 = .ok (.iconst 0, 1) := by decide +kernel
theorem dX7_columnLength_1 : decode cX7_columnLength 1 = .ok (.istore_n 2, 1) := by decide +kernel
theorem dX7_columnLength_2 : decode cX7_columnLength 2 = .ok (.iconst 0, 1) := by decide +kernel
theorem dX7_columnLength_3 : decode cX7_columnLength 3 = .ok (.istore_n 3, 1) := by decide +kernel
theorem dX7_columnLength_4 : decode cX7_columnLength 4 = .ok (.iload_n 3, 1) := by decide +kernel
theorem dX7_columnLength_5 : decode cX7_columnLength 5 = .ok (.bipush 6, 2) := by decide +kernel
theorem dX7_columnLength_7 : decode cX7_columnLength 7 = .ok (.if_icmp .ge 22, 3) := by decide +kernel
theorem dX7_columnLength_10 : decode cX7_columnLength 10 = .ok (.aload_n 0, 1) := by decide +kernel
theorem dX7_columnLength_11 : decode cX7_columnLength 11 = .ok (.iload_n 3, 1) := by decide +kernel
theorem dX7_columnLength_12 : decode cX7_columnLength 12 = .ok (.iload_n 1, 1) := by decide +kernel
theorem dX7_columnLength_13 : decode cX7_columnLength 13 = .ok (.invokevirtual 18, 3) := by decide +kernel
theorem dX7_columnLength_16 : decode cX7_columnLength 16 = .ok (.iconst (-1), 1) := by decide +kernel
theorem dX7_columnLength_17 : decode cX7_columnLength 17 = .ok (.if_icmp .eq 6, 3) := by decide +kernel
theorem dX7_columnLength_20 : decode cX7_columnLength 20 = .ok (.iinc 2 1, 3) := by decide +kernel
theorem dX7_columnLength_23 : decode cX7_columnLength 23 = .ok (.iinc 3 1, 3) := by decide +kernel
theorem dX7_columnLength_26 : decode cX7_columnLength 26 = .ok (.goto (-22), 3) := by decide +kernel
theorem dX7_columnLength_29 : decode cX7_columnLength 29 = .ok (.iload_n 2, 1) := by decide +kernel
theorem dX7_columnLength_30 : decode cX7_columnLength 30 = .ok (.ireturn, 1) := by decide +kernel
set_option maxRecDepth 20000 in
theorem ggX7_cells_X7_rowLength : GoodIn wsX7_cells wsX7_rowLength := goodIn_r _ [5, 6, 7] (by decide +kernel) (by decide +kernel)
set_option maxRecDepth 20000 in
theorem gX7_cells_X7_rowLength : GoodIn wsX7_cells (wsV RX7 32 RX7 yX7_rowLength wsX7_rowLength) := goodIn_app (goodIn_of _ (by decide +kernel)) ggX7_cells_X7_rowLength
theorem dX7_cells_0 : decode cX7_cells 0 = .ok (.iconst 0, 1) := by decide +kernel
theorem dX7_cells_1 : decode cX7_cells 1 = .ok (.istore_n 1, 1) := by decide +kernel
theorem dX7_cells_2 : decode cX7_cells 2 = .ok (.iconst 0, 1) := by decide +kernel
theorem dX7_cells_3 : decode cX7_cells 3 = .ok (.istore_n 2, 1) := by decide +kernel
theorem dX7_cells_4 : decode cX7_cells 4 = .ok (.iload_n 2, 1) := by decide +kernel
theorem dX7_cells_5 : decode cX7_cells 5 = .ok (.bipush 6, 2) := by decide +kernel
theorem dX7_cells_7 : decode cX7_cells 7 = .ok (.if_icmp .ge 17, 3) := by decide +kernel
theorem dX7_cells_10 : decode cX7_cells 10 = .ok (.iload_n 1, 1) := by decide +kernel
theorem dX7_cells_11 : decode cX7_cells 11 = .ok (.aload_n 0, 1) := by decide +kernel
theorem dX7_cells_12 : decode cX7_cells 12 = .ok (.iload_n 2, 1) := by decide +kernel
theorem dX7_cells_13 : decode cX7_cells 13 = .ok (.invokevirtual 32, 3) := by decide +kernel
theorem dX7_cells_16 : decode cX7_cells 16 = .ok (.iadd, 1) := by decide +kernel
theorem dX7_cells_17 : decode cX7_cells 17 = .ok (.istore_n 1, 1) := by decide +kernel
theorem dX7_cells_18 : decode cX7_cells 18 = .ok (.iinc 2 1, 3) := by decide +kernel
theorem dX7_cells_21 : decode cX7_cells 21 = .ok (.goto (-17), 3) := by decide +kernel
theorem dX7_cells_24 : decode cX7_cells 24 = .ok (.iload_n 1, 1) := by decide +kernel
theorem dX7_cells_25 : decode cX7_cells 25 = .ok (.ireturn, 1) := by decide +kernel
set_option maxRecDepth 20000 in
theorem ggX7_isFull_X7_has : GoodIn wsX7_isFull wsX7_has := goodIn_r _ [5, 6, 7, 8, 4, 9, 10, 11] (by decide +kernel) (by decide +kernel)
set_option maxRecDepth 20000 in
theorem gX7_isFull_X7_has : GoodIn wsX7_isFull (wsV RX7 36 RX7 yX7_has wsX7_has) := goodIn_app (goodIn_of _ (by decide +kernel)) ggX7_isFull_X7_has
theorem dX7_isFull_0 : decode cX7_isFull 0 = .ok (.aload_n 0, 1) := by decide +kernel
theorem dX7_isFull_1 : decode cX7_isFull 1 = .ok (.iconst 5, 1) := by decide +kernel
theorem dX7_isFull_2 : decode cX7_isFull 2 = .ok (.iconst 5, 1) := by decide +kernel
theorem dX7_isFull_3 : decode cX7_isFull 3 = .ok (.invokevirtual 36, 3) := by decide +kernel
theorem dX7_isFull_6 : decode cX7_isFull 6 = .ok (.ireturn, 1) := by decide +kernel
set_option maxRecDepth 20000 in
theorem ggX7_hasCorner_X7_rowLength : GoodIn wsX7_hasCorner wsX7_rowLength := goodIn_r _ [5, 6, 7] (by decide +kernel) (by decide +kernel)
set_option maxRecDepth 20000 in
theorem gX7_hasCorner_X7_rowLength : GoodIn wsX7_hasCorner (wsV RX7 32 RX7 yX7_rowLength wsX7_rowLength) := goodIn_app (goodIn_of _ (by decide +kernel)) ggX7_hasCorner_X7_rowLength
theorem dX7_hasCorner_0 : decode cX7_hasCorner 0 = .ok (.aload_n 0, 1) := by decide +kernel
theorem dX7_hasCorner_1 : decode cX7_hasCorner 1 = .ok (.iload_n 1, 1) := by decide +kernel
theorem dX7_hasCorner_2 : decode cX7_hasCorner 2 = .ok (.invokevirtual 32, 3) := by decide +kernel
theorem dX7_hasCorner_5 : decode cX7_hasCorner 5 = .ok (.aload_n 0, 1) := by decide +kernel
theorem dX7_hasCorner_6 : decode cX7_hasCorner 6 = .ok (.iload_n 1, 1) := by decide +kernel
theorem dX7_hasCorner_7 : decode cX7_hasCorner 7 = .ok (.iconst 1, 1) := by decide +kernel
theorem dX7_hasCorner_8 : decode cX7_hasCorner 8 = .ok (.iadd, 1) := by decide +kernel
theorem dX7_hasCorner_9 : decode cX7_hasCorner 9 = .ok (.invokevirtual 32, 3) := by decide +kernel
theorem dX7_hasCorner_12 : decode cX7_hasCorner 12 = .ok (.if_icmp .le 7, 3) := by decide +kernel
theorem dX7_hasCorner_15 : decode cX7_hasCorner 15 = .ok (.iconst 1, 1) := by decide +kernel
theorem dX7_hasCorner_16 : decode cX7_hasCorner 16 = .ok (.goto 4, 3) := by decide +kernel
theorem dX7_hasCorner_19 : decode cX7_hasCorner 19 = .ok (.iconst 0, 1) := by decide +kernel
theorem dX7_hasCorner_20 : decode cX7_hasCorner 20 = .ok (.ireturn, 1) := by decide +kernel
set_option maxRecDepth 20000 in
theorem ggX7_hasGap_X7_rowLength : GoodIn wsX7_hasGap wsX7_rowLength := goodIn_r _ [5, 6, 7] (by decide +kernel) (by decide +kernel)
set_option maxRecDepth 20000 in
theorem gX7_hasGap_X7_rowLength : GoodIn wsX7_hasGap (wsV RX7 32 RX7 yX7_rowLength wsX7_rowLength) := goodIn_app (goodIn_of _ (by decide +kernel)) ggX7_hasGap_X7_rowLength
theorem dX7_hasGap_0 : decode cX7_hasGap 0 = .ok (.aload_n 0, 1) := by decide +kernel
theorem dX7_hasGap_1 : decode cX7_hasGap 1 = .ok (.iload_n 1, 1) := by decide +kernel
theorem dX7_hasGap_2 : decode cX7_hasGap 2 = .ok (.invokevirtual 32, 3) := by decide +kernel
theorem dX7_hasGap_5 : decode cX7_hasGap 5 = .ok (.iload_n 1, 1) := by decide +kernel
theorem dX7_hasGap_6 : decode cX7_hasGap 6 = .ok (.ifCond .ne 8, 3) := by decide +kernel
theorem dX7_hasGap_9 : decode cX7_hasGap 9 = .ok (.bipush 6, 2) := by decide +kernel
theorem dX7_hasGap_11 : decode cX7_hasGap 11 = .ok (.goto 10, 3) := by decide +kernel
theorem dX7_hasGap_14 : decode cX7_hasGap 14 = .ok (.aload_n 0, 1) := by decide +kernel
theorem dX7_hasGap_15 : decode cX7_hasGap 15 = .ok (.iload_n 1, 1) := by decide +kernel
theorem dX7_hasGap_16 : decode cX7_hasGap 16 = .ok (.iconst 1, 1) := by decide +kernel
theorem dX7_hasGap_17 : decode cX7_hasGap 17 = .ok (.isub, 1) := by decide +kernel
theorem dX7_hasGap_18 : decode cX7_hasGap 18 = .ok (.invokevirtual 32, 3) := by decide +kernel
theorem dX7_hasGap_21 : decode cX7_hasGap 21 = .ok (.if_icmp .ge 7, 3) := by decide +kernel
theorem dX7_hasGap_24 : decode cX7_hasGap 24 = .ok (.iconst 1, 1) := by decide +kernel
theorem dX7_hasGap_25 : decode cX7_hasGap 25 = .ok (.goto 4, 3) := by decide +kernel
theorem dX7_hasGap_28 : decode cX7_hasGap 28 = .ok (.iconst 0, 1) := by decide +kernel
theorem dX7_hasGap_29 : decode cX7_hasGap 29 = .ok (.ireturn, 1) := by decide +kernel
set_option maxRecDepth 20000 in
theorem ggX7_endsAt_X7_hasGap : GoodIn wsX7_endsAt wsX7_hasGap := goodIn_r _ [5, 6, 7, 8, 4, 9, 10, 15] (by decide +kernel) (by decide +kernel)
set_option maxRecDepth 20000 in
theorem gX7_endsAt_X7_hasGap : GoodIn wsX7_endsAt (wsV RX7 40 RX7 yX7_hasGap wsX7_hasGap) := goodIn_app (goodIn_of _ (by decide +kernel)) ggX7_endsAt_X7_hasGap
set_option maxRecDepth 20000 in
theorem ggX7_endsAt_X7_hasCorner : GoodIn wsX7_endsAt wsX7_hasCorner := goodIn_r _ [14, 6, 7, 8, 4, 9, 10, 15] (by decide +kernel) (by decide +kernel)
set_option maxRecDepth 20000 in
theorem gX7_endsAt_X7_hasCorner : GoodIn wsX7_endsAt (wsV RX7 44 RX7 yX7_hasCorner wsX7_hasCorner) := goodIn_app (goodIn_of _ (by decide +kernel)) ggX7_endsAt_X7_hasCorner
theorem dX7_endsAt_0 : decode cX7_endsAt 0 = .ok (.iload_n 2, 1) := by decide +kernel
theorem dX7_endsAt_1 : decode cX7_endsAt 1 = .ok (.ifCond .eq 11, 3) := by decide +kernel
theorem dX7_endsAt_4 : decode cX7_endsAt 4 = .ok (.aload_n 0, 1) := by decide +kernel
theorem dX7_endsAt_5 : decode cX7_endsAt 5 = .ok (.iload_n 1, 1) := by decide +kernel
theorem dX7_endsAt_6 : decode cX7_endsAt 6 = .ok (.invokevirtual 40, 3) := by decide +kernel
theorem dX7_endsAt_9 : decode cX7_endsAt 9 = .ok (.goto 8, 3) := by decide +kernel
theorem dX7_endsAt_12 : decode cX7_endsAt 12 = .ok (.aload_n 0, 1) := by decide +kernel
theorem dX7_endsAt_13 : decode cX7_endsAt 13 = .ok (.iload_n 1, 1) := by decide +kernel
theorem dX7_endsAt_14 : decode cX7_endsAt 14 = .ok (.invokevirtual 44, 3) := by decide +kernel
theorem dX7_endsAt_17 : decode cX7_endsAt 17 = .ok (.ireturn, 1) := by decide +kernel
set_option maxRecDepth 20000 in
theorem ggX7_ends_X7_endsAt : GoodIn wsX7_ends wsX7_endsAt := goodIn_r _ [5, 6, 7, 8, 4, 9, 10, 11, 12, 13, 14, 15, 16, 17, 18, 19] (by decide +kernel) (by decide +kernel)
set_option maxRecDepth 20000 in
theorem gX7_ends_X7_endsAt : GoodIn wsX7_ends (wsV RX7 47 RX7 yX7_endsAt wsX7_endsAt) := goodIn_app (goodIn_of _ (by decide +kernel)) ggX7_ends_X7_endsAt
theorem dX7_ends_0 : decode cX7_ends 0 = .ok (.iconst 0, 1) := by decide +kernel
theorem dX7_ends_1 : decode cX7_ends 1 = .ok (.istore_n 2, 1) := by decide +kernel
theorem dX7_ends_2 : decode cX7_ends 2 = .ok (.iconst 0, 1) := by decide +kernel
theorem dX7_ends_3 : decode cX7_ends 3 = .ok (.istore_n 3, 1) := by decide +kernel
theorem dX7_ends_4 : decode cX7_ends 4 = .ok (.iload_n 3, 1) := by decide +kernel
theorem dX7_ends_5 : decode cX7_ends 5 = .ok (.bipush 6, 2) := by decide +kernel
theorem dX7_ends_7 : decode cX7_ends 7 = .ok (.if_icmp .ge 21, 3) := by decide +kernel
theorem dX7_ends_10 : decode cX7_ends 10 = .ok (.aload_n 0, 1) := by decide +kernel
theorem dX7_ends_11 : decode cX7_ends 11 = .ok (.iload_n 3, 1) := by decide +kernel
theorem dX7_ends_12 : decode cX7_ends 12 = .ok (.iload_n 1, 1) := by decide +kernel
theorem dX7_ends_13 : decode cX7_ends 13 = .ok (.invokevirtual 47, 3) := by decide +kernel
theorem dX7_ends_16 : decode cX7_ends 16 = .ok (.ifCond .eq 6, 3) := by decide +kernel
theorem dX7_ends_19 : decode cX7_ends 19 = .ok (.iinc 2 1, 3) := by decide +kernel
theorem dX7_ends_22 : decode cX7_ends 22 = .ok (.iinc 3 1, 3) := by decide +kernel
theorem dX7_ends_25 : decode cX7_ends 25 = .ok (.goto (-21), 3) := by decide +kernel
theorem dX7_ends_28 : decode cX7_ends 28 = .ok (.iload_n 2, 1) := by decide +kernel
theorem dX7_ends_29 : decode cX7_ends 29 = .ok (.ireturn, 1) := by decide +kernel
set_option maxRecDepth 20000 in
theorem ggX7_kthEnd_X7_endsAt : GoodIn wsX7_kthEnd wsX7_endsAt := goodIn_r _ [5, 6, 7, 8, 4, 9, 10, 11, 12, 13, 14, 15, 16, 17, 18, 22] (by decide +kernel) (by decide +kernel)
set_option maxRecDepth 20000 in
theorem gX7_kthEnd_X7_endsAt : GoodIn wsX7_kthEnd (wsV RX7 47 RX7 yX7_endsAt wsX7_endsAt) := goodIn_app (goodIn_of _ (by decide +kernel)) ggX7_kthEnd_X7_endsAt
set_option maxRecDepth 20000 in
theorem ggX7_kthEnd_X7_rowLength : GoodIn wsX7_kthEnd wsX7_rowLength := goodIn_r _ [13, 14, 22] (by decide +kernel) (by decide +kernel)
set_option maxRecDepth 20000 in
theorem gX7_kthEnd_X7_rowLength : GoodIn wsX7_kthEnd (wsV RX7 32 RX7 yX7_rowLength wsX7_rowLength) := goodIn_app (goodIn_of _ (by decide +kernel)) ggX7_kthEnd_X7_rowLength
set_option maxRecDepth 20000 in
theorem ggX7_kthEnd_X9_placeOf : GoodIn wsX7_kthEnd wsX9_placeOf := goodIn_r _ [21] (by decide +kernel) (by decide +kernel)
set_option maxRecDepth 20000 in
theorem gX7_kthEnd_X9_placeOf_n51 : GoodIn wsX7_kthEnd (wsX9_placeOf) := ggX7_kthEnd_X9_placeOf
theorem dX7_kthEnd_0 : decode cX7_kthEnd 0 = .ok (.iconst 0, 1) := by decide +kernel
theorem dX7_kthEnd_1 : decode cX7_kthEnd 1 = .ok (.istore_n 3, 1) := by decide +kernel
theorem dX7_kthEnd_2 : decode cX7_kthEnd 2 = .ok (.iconst 0, 1) := by decide +kernel
theorem dX7_kthEnd_3 : decode cX7_kthEnd 3 = .ok (.istore 4, 2) := by decide +kernel
theorem dX7_kthEnd_5 : decode cX7_kthEnd 5 = .ok (.iload 4, 2) := by decide +kernel
theorem dX7_kthEnd_7 : decode cX7_kthEnd 7 = .ok (.bipush 6, 2) := by decide +kernel
theorem dX7_kthEnd_9 : decode cX7_kthEnd 9 = .ok (.if_icmp .ge 54, 3) := by decide +kernel
theorem dX7_kthEnd_12 : decode cX7_kthEnd 12 = .ok (.aload_n 0, 1) := by decide +kernel
theorem dX7_kthEnd_13 : decode cX7_kthEnd 13 = .ok (.iload 4, 2) := by decide +kernel
theorem dX7_kthEnd_15 : decode cX7_kthEnd 15 = .ok (.iload_n 2, 1) := by decide +kernel
theorem dX7_kthEnd_16 : decode cX7_kthEnd 16 = .ok (.invokevirtual 47, 3) := by decide +kernel
theorem dX7_kthEnd_19 : decode cX7_kthEnd 19 = .ok (.ifCond .eq 38, 3) := by decide +kernel
theorem dX7_kthEnd_22 : decode cX7_kthEnd 22 = .ok (.iload_n 3, 1) := by decide +kernel
theorem dX7_kthEnd_23 : decode cX7_kthEnd 23 = .ok (.iload_n 1, 1) := by decide +kernel
theorem dX7_kthEnd_24 : decode cX7_kthEnd 24 = .ok (.if_icmp .ne 30, 3) := by decide +kernel
theorem dX7_kthEnd_27 : decode cX7_kthEnd 27 = .ok (.iload 4, 2) := by decide +kernel
theorem dX7_kthEnd_29 : decode cX7_kthEnd 29 = .ok (.iload_n 2, 1) := by decide +kernel
theorem dX7_kthEnd_30 : decode cX7_kthEnd 30 = .ok (.ifCond .eq 12, 3) := by decide +kernel
theorem dX7_kthEnd_33 : decode cX7_kthEnd 33 = .ok (.aload_n 0, 1) := by decide +kernel
theorem dX7_kthEnd_34 : decode cX7_kthEnd 34 = .ok (.iload 4, 2) := by decide +kernel
theorem dX7_kthEnd_36 : decode cX7_kthEnd 36 = .ok (.invokevirtual 32, 3) := by decide +kernel
theorem dX7_kthEnd_39 : decode cX7_kthEnd 39 = .ok (.goto 11, 3) := by decide +kernel
theorem dX7_kthEnd_42 : decode cX7_kthEnd 42 = .ok (.aload_n 0, 1) := by decide +kernel
theorem dX7_kthEnd_43 : decode cX7_kthEnd 43 = .ok (.iload 4, 2) := by decide +kernel
theorem dX7_kthEnd_45 : decode cX7_kthEnd 45 = .ok (.invokevirtual 32, 3) := by decide +kernel
theorem dX7_kthEnd_48 : decode cX7_kthEnd 48 = .ok (.iconst 1, 1) := by decide +kernel
theorem dX7_kthEnd_49 : decode cX7_kthEnd 49 = .ok (.isub, 1) := by decide +kernel
theorem dX7_kthEnd_50 : decode cX7_kthEnd 50 = .ok (.invokestatic 51, 3) := by decide +kernel
theorem dX7_kthEnd_53 : decode cX7_kthEnd 53 = .ok (.ireturn, 1) := by decide +kernel
theorem dX7_kthEnd_54 : decode cX7_kthEnd 54 = .ok (.iinc 3 1, 3) := by decide +kernel
theorem dX7_kthEnd_57 : decode cX7_kthEnd 57 = .ok (.iinc 4 1, 3) := by decide +kernel
theorem dX7_kthEnd_60 : decode cX7_kthEnd 60 = .ok (.goto (-55), 3) := by decide +kernel
theorem dX7_kthEnd_63 : decode cX7_kthEnd 63 = .ok (.bipush (-9), 2) := by decide +kernel
theorem dX7_kthEnd_65 : decode cX7_kthEnd 65 = .ok (.ireturn, 1) := by decide +kernel
set_option maxRecDepth 20000 in
theorem ggX7_nearestGap_X7_rowLength : GoodIn wsX7_nearestGap wsX7_rowLength := goodIn_r _ [5, 6, 10] (by decide +kernel) (by decide +kernel)
set_option maxRecDepth 20000 in
theorem gX7_nearestGap_X7_rowLength : GoodIn wsX7_nearestGap (wsV RX7 32 RX7 yX7_rowLength wsX7_rowLength) := goodIn_app (goodIn_of _ (by decide +kernel)) ggX7_nearestGap_X7_rowLength
set_option maxRecDepth 20000 in
theorem ggX7_nearestGap_X9_placeOf : GoodIn wsX7_nearestGap wsX9_placeOf := goodIn_r _ [9] (by decide +kernel) (by decide +kernel)
set_option maxRecDepth 20000 in
theorem gX7_nearestGap_X9_placeOf_n51 : GoodIn wsX7_nearestGap (wsX9_placeOf) := ggX7_nearestGap_X9_placeOf
theorem dX7_nearestGap_0 : decode cX7_nearestGap 0 = .ok (.bipush (-9), 2) := by decide +kernel
theorem dX7_nearestGap_2 : decode cX7_nearestGap 2 = .ok (.istore_n 1, 1) := by decide +kernel
theorem dX7_nearestGap_3 : decode cX7_nearestGap 3 = .ok (.bipush 12, 2) := by decide +kernel
theorem dX7_nearestGap_5 : decode cX7_nearestGap 5 = .ok (.istore_n 2, 1) := by decide +kernel
theorem dX7_nearestGap_6 : decode cX7_nearestGap 6 = .ok (.bipush 6, 2) := by decide +kernel
theorem dX7_nearestGap_8 : decode cX7_nearestGap 8 = .ok (.istore_n 3, 1) := by decide +kernel
theorem dX7_nearestGap_9 : decode cX7_nearestGap 9 = .ok (.iconst 0, 1) := by decide +kernel
theorem dX7_nearestGap_10 : decode cX7_nearestGap 10 = .ok (.istore 4, 2) := by decide +kernel
theorem dX7_nearestGap_12 : decode cX7_nearestGap 12 = .ok (.iload 4, 2) := by decide +kernel
theorem dX7_nearestGap_14 : decode cX7_nearestGap 14 = .ok (.bipush 6, 2) := by decide +kernel
theorem dX7_nearestGap_16 : decode cX7_nearestGap 16 = .ok (.if_icmp .ge 49, 3) := by decide +kernel
theorem dX7_nearestGap_19 : decode cX7_nearestGap 19 = .ok (.aload_n 0, 1) := by decide +kernel
theorem dX7_nearestGap_20 : decode cX7_nearestGap 20 = .ok (.iload 4, 2) := by decide +kernel
theorem dX7_nearestGap_22 : decode cX7_nearestGap 22 = .ok (.invokevirtual 32, 3) := by decide +kernel
theorem dX7_nearestGap_25 : decode cX7_nearestGap 25 = .ok (.istore 5, 2) := by decide +kernel
theorem dX7_nearestGap_27 : decode cX7_nearestGap 27 = .ok (.iload 5, 2) := by decide +kernel
theorem dX7_nearestGap_29 : decode cX7_nearestGap 29 = .ok (.iload_n 3, 1) := by decide +kernel
theorem dX7_nearestGap_30 : decode cX7_nearestGap 30 = .ok (.if_icmp .ge 26, 3) := by decide +kernel
theorem dX7_nearestGap_33 : decode cX7_nearestGap 33 = .ok (.iload 4, 2) := by decide +kernel
theorem dX7_nearestGap_35 : decode cX7_nearestGap 35 = .ok (.iload 5, 2) := by decide +kernel
theorem dX7_nearestGap_37 : decode cX7_nearestGap 37 = .ok (.iadd, 1) := by decide +kernel
theorem dX7_nearestGap_38 : decode cX7_nearestGap 38 = .ok (.iload_n 2, 1) := by decide +kernel
theorem dX7_nearestGap_39 : decode cX7_nearestGap 39 = .ok (.if_icmp .ge 17, 3) := by decide +kernel
theorem dX7_nearestGap_42 : decode cX7_nearestGap 42 = .ok (.iload 4, 2) := by decide +kernel
theorem dX7_nearestGap_44 : decode cX7_nearestGap 44 = .ok (.iload 5, 2) := by decide +kernel
theorem dX7_nearestGap_46 : decode cX7_nearestGap 46 = .ok (.invokestatic 51, 3) := by decide +kernel
theorem dX7_nearestGap_49 : decode cX7_nearestGap 49 = .ok (.istore_n 1, 1) := by decide +kernel
theorem dX7_nearestGap_50 : decode cX7_nearestGap 50 = .ok (.iload 4, 2) := by decide +kernel
theorem dX7_nearestGap_52 : decode cX7_nearestGap 52 = .ok (.iload 5, 2) := by decide +kernel
theorem dX7_nearestGap_54 : decode cX7_nearestGap 54 = .ok (.iadd, 1) := by decide +kernel
theorem dX7_nearestGap_55 : decode cX7_nearestGap 55 = .ok (.istore_n 2, 1) := by decide +kernel
theorem dX7_nearestGap_56 : decode cX7_nearestGap 56 = .ok (.iload 5, 2) := by decide +kernel
theorem dX7_nearestGap_58 : decode cX7_nearestGap 58 = .ok (.istore_n 3, 1) := by decide +kernel
theorem dX7_nearestGap_59 : decode cX7_nearestGap 59 = .ok (.iinc 4 1, 3) := by decide +kernel
theorem dX7_nearestGap_62 : decode cX7_nearestGap 62 = .ok (.goto (-50), 3) := by decide +kernel
theorem dX7_nearestGap_65 : decode cX7_nearestGap 65 = .ok (.iload_n 1, 1) := by decide +kernel
theorem dX7_nearestGap_66 : decode cX7_nearestGap 66 = .ok (.ireturn, 1) := by decide +kernel
set_option maxRecDepth 20000 in
theorem ggX7_hookOf_X7_rowLength : GoodIn wsX7_hookOf wsX7_rowLength := goodIn_r _ [5, 6, 15] (by decide +kernel) (by decide +kernel)
set_option maxRecDepth 20000 in
theorem gX7_hookOf_X7_rowLength : GoodIn wsX7_hookOf (wsV RX7 32 RX7 yX7_rowLength wsX7_rowLength) := goodIn_app (goodIn_of _ (by decide +kernel)) ggX7_hookOf_X7_rowLength
set_option maxRecDepth 20000 in
theorem ggX7_hookOf_X7_columnLength : GoodIn wsX7_hookOf wsX7_columnLength := goodIn_r _ [10, 11, 12, 13, 4, 14, 6, 15] (by decide +kernel) (by decide +kernel)
set_option maxRecDepth 20000 in
theorem gX7_hookOf_X7_columnLength : GoodIn wsX7_hookOf (wsV RX7 54 RX7 yX7_columnLength wsX7_columnLength) := goodIn_app (goodIn_of _ (by decide +kernel)) ggX7_hookOf_X7_columnLength
theorem dX7_hookOf_0 : decode cX7_hookOf 0 = .ok (.aload_n 0, 1) := by decide +kernel
theorem dX7_hookOf_1 : decode cX7_hookOf 1 = .ok (.iload_n 1, 1) := by decide +kernel
theorem dX7_hookOf_2 : decode cX7_hookOf 2 = .ok (.invokevirtual 32, 3) := by decide +kernel
theorem dX7_hookOf_5 : decode cX7_hookOf 5 = .ok (.iload_n 2, 1) := by decide +kernel
theorem dX7_hookOf_6 : decode cX7_hookOf 6 = .ok (.isub, 1) := by decide +kernel
theorem dX7_hookOf_7 : decode cX7_hookOf 7 = .ok (.aload_n 0, 1) := by decide +kernel
theorem dX7_hookOf_8 : decode cX7_hookOf 8 = .ok (.iload_n 2, 1) := by decide +kernel
theorem dX7_hookOf_9 : decode cX7_hookOf 9 = .ok (.invokevirtual 54, 3) := by decide +kernel
theorem dX7_hookOf_12 : decode cX7_hookOf 12 = .ok (.iadd, 1) := by decide +kernel
theorem dX7_hookOf_13 : decode cX7_hookOf 13 = .ok (.iload_n 1, 1) := by decide +kernel
theorem dX7_hookOf_14 : decode cX7_hookOf 14 = .ok (.isub, 1) := by decide +kernel
theorem dX7_hookOf_15 : decode cX7_hookOf 15 = .ok (.iconst 1, 1) := by decide +kernel
theorem dX7_hookOf_16 : decode cX7_hookOf 16 = .ok (.isub, 1) := by decide +kernel
theorem dX7_hookOf_17 : decode cX7_hookOf 17 = .ok (.ireturn, 1) := by decide +kernel
set_option maxRecDepth 20000 in
theorem ggX7_takeIn_X7_nearestGap : GoodIn wsX7_takeIn wsX7_nearestGap := goodIn_r _ [5, 6, 7, 8, 4, 9, 10, 11, 12, 13, 30] (by decide +kernel) (by decide +kernel)
set_option maxRecDepth 20000 in
theorem gX7_takeIn_X7_nearestGap : GoodIn wsX7_takeIn (wsV RX7 57 RX7 yX7_nearestGap wsX7_nearestGap) := goodIn_app (goodIn_of _ (by decide +kernel)) ggX7_takeIn_X7_nearestGap
set_option maxRecDepth 20000 in
theorem ggX7_takeIn_X9_rowOf : GoodIn wsX7_takeIn wsX9_rowOf := goodIn_r _ [15] (by decide +kernel) (by decide +kernel)
set_option maxRecDepth 20000 in
theorem gX7_takeIn_X9_rowOf_n61 : GoodIn wsX7_takeIn (wsX9_rowOf) := ggX7_takeIn_X9_rowOf
set_option maxRecDepth 20000 in
theorem ggX7_takeIn_X9_columnOf : GoodIn wsX7_takeIn wsX9_columnOf := goodIn_r _ [17] (by decide +kernel) (by decide +kernel)
set_option maxRecDepth 20000 in
theorem gX7_takeIn_X9_columnOf_n64 : GoodIn wsX7_takeIn (wsX9_columnOf) := ggX7_takeIn_X9_columnOf
set_option maxRecDepth 20000 in
theorem ggX7_takeIn_X7_put : GoodIn wsX7_takeIn wsX7_put := goodIn_r _ [21, 10, 30] (by decide +kernel) (by decide +kernel)
set_option maxRecDepth 20000 in
theorem gX7_takeIn_X7_put : GoodIn wsX7_takeIn (wsV RX7 28 RX7 yX7_put wsX7_put) := goodIn_app (goodIn_of _ (by decide +kernel)) ggX7_takeIn_X7_put
set_option maxRecDepth 20000 in
theorem ggX7_takeIn_X7_slideUp : GoodIn wsX7_takeIn wsX7_slideUp := goodIn_r _ [25, 26, 27, 28, 4, 29, 10, 18, 19, 20, 21, 11, 12, 13, 30] (by decide +kernel) (by decide +kernel)
set_option maxRecDepth 20000 in
theorem gX7_takeIn_X7_slideUp : GoodIn wsX7_takeIn (wsV RX7 67 RX7 yX7_slideUp wsX7_slideUp) := goodIn_app (goodIn_of _ (by decide +kernel)) ggX7_takeIn_X7_slideUp
theorem dX7_takeIn_0 : decode cX7_takeIn 0 = .ok (.aload_n 0, 1) := by decide +kernel
theorem dX7_takeIn_1 : decode cX7_takeIn 1 = .ok (.invokevirtual 57, 3) := by decide +kernel
theorem dX7_takeIn_4 : decode cX7_takeIn 4 = .ok (.istore_n 2, 1) := by decide +kernel
theorem dX7_takeIn_5 : decode cX7_takeIn 5 = .ok (.iload_n 2, 1) := by decide +kernel
theorem dX7_takeIn_6 : decode cX7_takeIn 6 = .ok (.bipush (-9), 2) := by decide +kernel
theorem dX7_takeIn_8 : decode cX7_takeIn 8 = .ok (.if_icmp .ne 6, 3) := by decide +kernel
theorem dX7_takeIn_11 : decode cX7_takeIn 11 = .ok (.bipush (-9), 2) := by decide +kernel
theorem dX7_takeIn_13 : decode cX7_takeIn 13 = .ok (.ireturn, 1) := by decide +kernel
theorem dX7_takeIn_14 : decode cX7_takeIn 14 = .ok (.aload_n 0, 1) := by decide +kernel
theorem dX7_takeIn_15 : decode cX7_takeIn 15 = .ok (.iload_n 2, 1) := by decide +kernel
theorem dX7_takeIn_16 : decode cX7_takeIn 16 = .ok (.invokestatic 61, 3) := by decide +kernel
theorem dX7_takeIn_19 : decode cX7_takeIn 19 = .ok (.iload_n 2, 1) := by decide +kernel
theorem dX7_takeIn_20 : decode cX7_takeIn 20 = .ok (.invokestatic 64, 3) := by decide +kernel
theorem dX7_takeIn_23 : decode cX7_takeIn 23 = .ok (.iload_n 1, 1) := by decide +kernel
theorem dX7_takeIn_24 : decode cX7_takeIn 24 = .ok (.invokevirtual 28, 3) := by decide +kernel
theorem dX7_takeIn_27 : decode cX7_takeIn 27 = .ok (.aload_n 0, 1) := by decide +kernel
theorem dX7_takeIn_28 : decode cX7_takeIn 28 = .ok (.iload_n 2, 1) := by decide +kernel
theorem dX7_takeIn_29 : decode cX7_takeIn 29 = .ok (.invokestatic 61, 3) := by decide +kernel
theorem dX7_takeIn_32 : decode cX7_takeIn 32 = .ok (.iload_n 2, 1) := by decide +kernel
theorem dX7_takeIn_33 : decode cX7_takeIn 33 = .ok (.invokestatic 64, 3) := by decide +kernel
theorem dX7_takeIn_36 : decode cX7_takeIn 36 = .ok (.invokevirtual 67, 3) := by decide +kernel
theorem dX7_takeIn_39 : decode cX7_takeIn 39 = .ok (.ireturn, 1) := by decide +kernel
set_option maxRecDepth 20000 in
theorem ggX7_takeAway_X7_put : GoodIn wsX7_takeAway wsX7_put := goodIn_r _ [5, 6, 25] (by decide +kernel) (by decide +kernel)
set_option maxRecDepth 20000 in
theorem gX7_takeAway_X7_put : GoodIn wsX7_takeAway (wsV RX7 28 RX7 yX7_put wsX7_put) := goodIn_app (goodIn_of _ (by decide +kernel)) ggX7_takeAway_X7_put
set_option maxRecDepth 20000 in
theorem ggX7_takeAway_X7_slideDown : GoodIn wsX7_takeAway wsX7_slideDown := goodIn_r _ [10, 11, 12, 13, 4, 14, 6, 15, 16, 17, 1, 2, 3, 5, 18, 19, 20, 25] (by decide +kernel) (by decide +kernel)
set_option maxRecDepth 20000 in
theorem gX7_takeAway_X7_slideDown : GoodIn wsX7_takeAway (wsV RX7 70 RX7 yX7_slideDown wsX7_slideDown) := goodIn_app (goodIn_of _ (by decide +kernel)) ggX7_takeAway_X7_slideDown
set_option maxRecDepth 20000 in
theorem ggX7_takeAway_X9_rowOf : GoodIn wsX7_takeAway wsX9_rowOf := goodIn_r _ [22] (by decide +kernel) (by decide +kernel)
set_option maxRecDepth 20000 in
theorem gX7_takeAway_X9_rowOf_n61 : GoodIn wsX7_takeAway (wsX9_rowOf) := ggX7_takeAway_X9_rowOf
set_option maxRecDepth 20000 in
theorem ggX7_takeAway_X9_columnOf : GoodIn wsX7_takeAway wsX9_columnOf := goodIn_r _ [24] (by decide +kernel) (by decide +kernel)
set_option maxRecDepth 20000 in
theorem gX7_takeAway_X9_columnOf_n64 : GoodIn wsX7_takeAway (wsX9_columnOf) := ggX7_takeAway_X9_columnOf
theorem dX7_takeAway_0 : decode cX7_takeAway 0 = .ok (.aload_n 0, 1) := by decide +kernel
theorem dX7_takeAway_1 : decode cX7_takeAway 1 = .ok (.iload_n 1, 1) := by decide +kernel
theorem dX7_takeAway_2 : decode cX7_takeAway 2 = .ok (.iload_n 2, 1) := by decide +kernel
theorem dX7_takeAway_3 : decode cX7_takeAway 3 = .ok (.bipush 100, 2) := by decide +kernel
theorem dX7_takeAway_5 : decode cX7_takeAway 5 = .ok (.invokevirtual 28, 3) := by decide +kernel
theorem dX7_takeAway_8 : decode cX7_takeAway 8 = .ok (.aload_n 0, 1) := by decide +kernel
theorem dX7_takeAway_9 : decode cX7_takeAway 9 = .ok (.iload_n 1, 1) := by decide +kernel
theorem dX7_takeAway_10 : decode cX7_takeAway 10 = .ok (.iload_n 2, 1) := by decide +kernel
theorem dX7_takeAway_11 : decode cX7_takeAway 11 = .ok (.invokevirtual 70, 3) := by decide +kernel
theorem dX7_takeAway_14 : decode cX7_takeAway 14 = .ok (.istore_n 3, 1) := by decide +kernel
theorem dX7_takeAway_15 : decode cX7_takeAway 15 = .ok (.aload_n 0, 1) := by decide +kernel
theorem dX7_takeAway_16 : decode cX7_takeAway 16 = .ok (.iload_n 3, 1) := by decide +kernel
theorem dX7_takeAway_17 : decode cX7_takeAway 17 = .ok (.invokestatic 61, 3) := by decide +kernel
theorem dX7_takeAway_20 : decode cX7_takeAway 20 = .ok (.iload_n 3, 1) := by decide +kernel
theorem dX7_takeAway_21 : decode cX7_takeAway 21 = .ok (.invokestatic 64, 3) := by decide +kernel
theorem dX7_takeAway_24 : decode cX7_takeAway 24 = .ok (.iconst (-1), 1) := by decide +kernel
theorem dX7_takeAway_25 : decode cX7_takeAway 25 = .ok (.invokevirtual 28, 3) := by decide +kernel
theorem dX7_takeAway_28 : decode cX7_takeAway 28 = .ok (.iload_n 3, 1) := by decide +kernel
theorem dX7_takeAway_29 : decode cX7_takeAway 29 = .ok (.ireturn, 1) := by decide +kernel
set_option maxRecDepth 20000 in
theorem ggX7_replace_X7_put : GoodIn wsX7_replace wsX7_put := goodIn_r _ [5, 6, 29] (by decide +kernel) (by decide +kernel)
set_option maxRecDepth 20000 in
theorem gX7_replace_X7_put : GoodIn wsX7_replace (wsV RX7 28 RX7 yX7_put wsX7_put) := goodIn_app (goodIn_of _ (by decide +kernel)) ggX7_replace_X7_put
set_option maxRecDepth 20000 in
theorem ggX7_replace_X7_slideUp : GoodIn wsX7_replace wsX7_slideUp := goodIn_r _ [10, 11, 12, 13, 4, 14, 6, 1, 2, 3, 5, 15, 16, 17, 29] (by decide +kernel) (by decide +kernel)
set_option maxRecDepth 20000 in
theorem gX7_replace_X7_slideUp : GoodIn wsX7_replace (wsV RX7 67 RX7 yX7_slideUp wsX7_slideUp) := goodIn_app (goodIn_of _ (by decide +kernel)) ggX7_replace_X7_slideUp
set_option maxRecDepth 20000 in
theorem ggX7_replace_X9_rowOf : GoodIn wsX7_replace wsX9_rowOf := goodIn_r _ [19] (by decide +kernel) (by decide +kernel)
set_option maxRecDepth 20000 in
theorem gX7_replace_X9_rowOf_n61 : GoodIn wsX7_replace (wsX9_rowOf) := ggX7_replace_X9_rowOf
set_option maxRecDepth 20000 in
theorem ggX7_replace_X9_columnOf : GoodIn wsX7_replace wsX9_columnOf := goodIn_r _ [21] (by decide +kernel) (by decide +kernel)
set_option maxRecDepth 20000 in
theorem gX7_replace_X9_columnOf_n64 : GoodIn wsX7_replace (wsX9_columnOf) := ggX7_replace_X9_columnOf
set_option maxRecDepth 20000 in
theorem ggX7_replace_X7_slideDown : GoodIn wsX7_replace wsX7_slideDown := goodIn_r _ [25, 11, 12, 13, 4, 14, 6, 26, 27, 28, 1, 2, 3, 5, 15, 16, 17, 29] (by decide +kernel) (by decide +kernel)
set_option maxRecDepth 20000 in
theorem gX7_replace_X7_slideDown : GoodIn wsX7_replace (wsV RX7 70 RX7 yX7_slideDown wsX7_slideDown) := goodIn_app (goodIn_of _ (by decide +kernel)) ggX7_replace_X7_slideDown
theorem dX7_replace_0 : decode cX7_replace 0 = .ok (.aload_n 0, 1) := by decide +kernel
theorem dX7_replace_1 : decode cX7_replace 1 = .ok (.iload_n 1, 1) := by decide +kernel
theorem dX7_replace_2 : decode cX7_replace 2 = .ok (.iload_n 2, 1) := by decide +kernel
theorem dX7_replace_3 : decode cX7_replace 3 = .ok (.iload_n 3, 1) := by decide +kernel
theorem dX7_replace_4 : decode cX7_replace 4 = .ok (.invokevirtual 28, 3) := by decide +kernel
theorem dX7_replace_7 : decode cX7_replace 7 = .ok (.aload_n 0, 1) := by decide +kernel
theorem dX7_replace_8 : decode cX7_replace 8 = .ok (.iload_n 1, 1) := by decide +kernel
theorem dX7_replace_9 : decode cX7_replace 9 = .ok (.iload_n 2, 1) := by decide +kernel
theorem dX7_replace_10 : decode cX7_replace 10 = .ok (.invokevirtual 67, 3) := by decide +kernel
theorem dX7_replace_13 : decode cX7_replace 13 = .ok (.istore 4, 2) := by decide +kernel
theorem dX7_replace_15 : decode cX7_replace 15 = .ok (.aload_n 0, 1) := by decide +kernel
theorem dX7_replace_16 : decode cX7_replace 16 = .ok (.iload 4, 2) := by decide +kernel
theorem dX7_replace_18 : decode cX7_replace 18 = .ok (.invokestatic 61, 3) := by decide +kernel
theorem dX7_replace_21 : decode cX7_replace 21 = .ok (.iload 4, 2) := by decide +kernel
theorem dX7_replace_23 : decode cX7_replace 23 = .ok (.invokestatic 64, 3) := by decide +kernel
theorem dX7_replace_26 : decode cX7_replace 26 = .ok (.invokevirtual 70, 3) := by decide +kernel
theorem dX7_replace_29 : decode cX7_replace 29 = .ok (.ireturn, 1) := by decide +kernel
set_option maxRecDepth 20000 in
theorem ggX7_slideUp_X7_at : GoodIn wsX7_slideUp wsX7_at := goodIn_r _ [5, 6, 14] (by decide +kernel) (by decide +kernel)
set_option maxRecDepth 20000 in
theorem gX7_slideUp_X7_at : GoodIn wsX7_slideUp (wsV RX7 18 RX7 yX7_at wsX7_at) := goodIn_app (goodIn_of _ (by decide +kernel)) ggX7_slideUp_X7_at
set_option maxRecDepth 20000 in
theorem ggX7_slideUp_X7_put : GoodIn wsX7_slideUp wsX7_put := goodIn_r _ [10, 6, 14] (by decide +kernel) (by decide +kernel)
set_option maxRecDepth 20000 in
theorem gX7_slideUp_X7_put : GoodIn wsX7_slideUp (wsV RX7 28 RX7 yX7_put wsX7_put) := goodIn_app (goodIn_of _ (by decide +kernel)) ggX7_slideUp_X7_put
set_option maxRecDepth 20000 in
theorem ggX7_slideUp_X9_placeOf : GoodIn wsX7_slideUp wsX9_placeOf := goodIn_r _ [13] (by decide +kernel) (by decide +kernel)
set_option maxRecDepth 20000 in
theorem gX7_slideUp_X9_placeOf_n51 : GoodIn wsX7_slideUp (wsX9_placeOf) := ggX7_slideUp_X9_placeOf
theorem dX7_slideUp_0 : decode cX7_slideUp 0 = .ok (.iload_n 1, 1) := by decide +kernel
theorem dX7_slideUp_1 : decode cX7_slideUp 1 = .ok (.istore_n 3, 1) := by decide +kernel
theorem dX7_slideUp_2 : decode cX7_slideUp 2 = .ok (.iload_n 2, 1) := by decide +kernel
theorem dX7_slideUp_3 : decode cX7_slideUp 3 = .ok (.istore 4, 2) := by decide +kernel
theorem dX7_slideUp_5 : decode cX7_slideUp 5 = .ok (.aload_n 0, 1) := by decide +kernel
theorem dX7_slideUp_6 : decode cX7_slideUp 6 = .ok (.iload_n 3, 1) := by decide +kernel
theorem dX7_slideUp_7 : decode cX7_slideUp 7 = .ok (.iload 4, 2) := by decide +kernel
theorem dX7_slideUp_9 : decode cX7_slideUp 9 = .ok (.invokevirtual 18, 3) := by decide +kernel
theorem dX7_slideUp_12 : decode cX7_slideUp 12 = .ok (.istore 5, 2) := by decide +kernel
theorem dX7_slideUp_14 : decode cX7_slideUp 14 = .ok (.iconst 0, 1) := by decide +kernel
theorem dX7_slideUp_15 : decode cX7_slideUp 15 = .ok (.istore 6, 2) := by decide +kernel
theorem dX7_slideUp_17 : decode cX7_slideUp 17 = .ok (.iload 6, 2) := by decide +kernel
theorem dX7_slideUp_19 : decode cX7_slideUp 19 = .ok (.bipush 12, 2) := by decide +kernel
theorem dX7_slideUp_21 : decode cX7_slideUp 21 = .ok (.if_icmp .ge 91, 3) := by decide +kernel
theorem dX7_slideUp_24 : decode cX7_slideUp 24 = .ok (.aload_n 0, 1) := by decide +kernel
theorem dX7_slideUp_25 : decode cX7_slideUp 25 = .ok (.iload_n 3, 1) := by decide +kernel
theorem dX7_slideUp_26 : decode cX7_slideUp 26 = .ok (.iconst 1, 1) := by decide +kernel
theorem dX7_slideUp_27 : decode cX7_slideUp 27 = .ok (.isub, 1) := by decide +kernel
theorem dX7_slideUp_28 : decode cX7_slideUp 28 = .ok (.iload 4, 2) := by decide +kernel
theorem dX7_slideUp_30 : decode cX7_slideUp 30 = .ok (.invokevirtual 18, 3) := by decide +kernel
theorem dX7_slideUp_33 : decode cX7_slideUp 33 = .ok (.istore 7, 2) := by decide +kernel
theorem dX7_slideUp_35 : decode cX7_slideUp 35 = .ok (.aload_n 0, 1) := by decide +kernel
theorem dX7_slideUp_36 : decode cX7_slideUp 36 = .ok (.iload_n 3, 1) := by decide +kernel
theorem dX7_slideUp_37 : decode cX7_slideUp 37 = .ok (.iload 4, 2) := by decide +kernel
theorem dX7_slideUp_39 : decode cX7_slideUp 39 = .ok (.iconst 1, 1) := by decide +kernel
theorem dX7_slideUp_40 : decode cX7_slideUp 40 = .ok (.isub, 1) := by decide +kernel
theorem dX7_slideUp_41 : decode cX7_slideUp 41 = .ok (.invokevirtual 18, 3) := by decide +kernel
theorem dX7_slideUp_44 : decode cX7_slideUp 44 = .ok (.istore 8, 2) := by decide +kernel
theorem dX7_slideUp_46 : decode cX7_slideUp 46 = .ok (.iload 7, 2) := by decide +kernel
theorem dX7_slideUp_48 : decode cX7_slideUp 48 = .ok (.iload 5, 2) := by decide +kernel
theorem dX7_slideUp_50 : decode cX7_slideUp 50 = .ok (.if_icmp .gt 13, 3) := by decide +kernel
theorem dX7_slideUp_53 : decode cX7_slideUp 53 = .ok (.iload 8, 2) := by decide +kernel
theorem dX7_slideUp_55 : decode cX7_slideUp 55 = .ok (.iload 5, 2) := by decide +kernel
theorem dX7_slideUp_57 : decode cX7_slideUp 57 = .ok (.if_icmp .gt 6, 3) := by decide +kernel
theorem dX7_slideUp_60 : decode cX7_slideUp 60 = .ok (.goto 52, 3) := by decide +kernel
theorem dX7_slideUp_63 : decode cX7_slideUp 63 = .ok (.iload 7, 2) := by decide +kernel
theorem dX7_slideUp_65 : decode cX7_slideUp 65 = .ok (.iload 8, 2) := by decide +kernel
theorem dX7_slideUp_67 : decode cX7_slideUp 67 = .ok (.if_icmp .lt 18, 3) := by decide +kernel
theorem dX7_slideUp_70 : decode cX7_slideUp 70 = .ok (.aload_n 0, 1) := by decide +kernel
theorem dX7_slideUp_71 : decode cX7_slideUp 71 = .ok (.iload_n 3, 1) := by decide +kernel
theorem dX7_slideUp_72 : decode cX7_slideUp 72 = .ok (.iload 4, 2) := by decide +kernel
theorem dX7_slideUp_74 : decode cX7_slideUp 74 = .ok (.iload 7, 2) := by decide +kernel
theorem dX7_slideUp_76 : decode cX7_slideUp 76 = .ok (.invokevirtual 28, 3) := by decide +kernel
theorem dX7_slideUp_79 : decode cX7_slideUp 79 = .ok (.iinc 3 (-1), 3) := by decide +kernel
theorem dX7_slideUp_82 : decode cX7_slideUp 82 = .ok (.goto 15, 3) := by decide +kernel
theorem dX7_slideUp_85 : decode cX7_slideUp 85 = .ok (.aload_n 0, 1) := by decide +kernel
theorem dX7_slideUp_86 : decode cX7_slideUp 86 = .ok (.iload_n 3, 1) := by decide +kernel
theorem dX7_slideUp_87 : decode cX7_slideUp 87 = .ok (.iload 4, 2) := by decide +kernel
theorem dX7_slideUp_89 : decode cX7_slideUp 89 = .ok (.iload 8, 2) := by decide +kernel
theorem dX7_slideUp_91 : decode cX7_slideUp 91 = .ok (.invokevirtual 28, 3) := by decide +kernel
theorem dX7_slideUp_94 : decode cX7_slideUp 94 = .ok (.iinc 4 (-1), 3) := by decide +kernel
theorem dX7_slideUp_97 : decode cX7_slideUp 97 = .ok (.aload_n 0, 1) := by decide +kernel
theorem dX7_slideUp_98 : decode cX7_slideUp 98 = .ok (.iload_n 3, 1) := by decide +kernel
theorem dX7_slideUp_99 : decode cX7_slideUp 99 = .ok (.iload 4, 2) := by decide +kernel
theorem dX7_slideUp_101 : decode cX7_slideUp 101 = .ok (.iload 5, 2) := by decide +kernel
theorem dX7_slideUp_103 : decode cX7_slideUp 103 = .ok (.invokevirtual 28, 3) := by decide +kernel
theorem dX7_slideUp_106 : decode cX7_slideUp 106 = .ok (.iinc 6 1, 3) := by decide +kernel
theorem dX7_slideUp_109 : decode cX7_slideUp 109 = .ok (.goto (-92), 3) := by decide +kernel
theorem dX7_slideUp_112 : decode cX7_slideUp 112 = .ok (.iload_n 3, 1) := by decide +kernel
theorem dX7_slideUp_113 : decode cX7_slideUp 113 = .ok (.iload 4, 2) := by decide +kernel
theorem dX7_slideUp_115 : decode cX7_slideUp 115 = .ok (.invokestatic 51, 3) := by decide +kernel
theorem dX7_slideUp_118 : decode cX7_slideUp 118 = .ok (.ireturn, 1) := by decide +kernel
set_option maxRecDepth 20000 in
theorem ggX7_slideDown_X7_at : GoodIn wsX7_slideDown wsX7_at := goodIn_r _ [5, 6, 17] (by decide +kernel) (by decide +kernel)
set_option maxRecDepth 20000 in
theorem gX7_slideDown_X7_at : GoodIn wsX7_slideDown (wsV RX7 18 RX7 yX7_at wsX7_at) := goodIn_app (goodIn_of _ (by decide +kernel)) ggX7_slideDown_X7_at
set_option maxRecDepth 20000 in
theorem ggX7_slideDown_X7_orHole : GoodIn wsX7_slideDown wsX7_orHole := goodIn_r _ [9] (by decide +kernel) (by decide +kernel)
set_option maxRecDepth 20000 in
theorem gX7_slideDown_X7_orHole : GoodIn wsX7_slideDown (va_wsS RX7 73 yX7_orHole wsX7_orHole) := goodIn_app (goodIn_of _ (by decide +kernel)) ggX7_slideDown_X7_orHole
set_option maxRecDepth 20000 in
theorem ggX7_slideDown_X7_put : GoodIn wsX7_slideDown wsX7_put := goodIn_r _ [13, 6, 17] (by decide +kernel) (by decide +kernel)
set_option maxRecDepth 20000 in
theorem gX7_slideDown_X7_put : GoodIn wsX7_slideDown (wsV RX7 28 RX7 yX7_put wsX7_put) := goodIn_app (goodIn_of _ (by decide +kernel)) ggX7_slideDown_X7_put
set_option maxRecDepth 20000 in
theorem ggX7_slideDown_X9_placeOf : GoodIn wsX7_slideDown wsX9_placeOf := goodIn_r _ [16] (by decide +kernel) (by decide +kernel)
set_option maxRecDepth 20000 in
theorem gX7_slideDown_X9_placeOf_n51 : GoodIn wsX7_slideDown (wsX9_placeOf) := ggX7_slideDown_X9_placeOf
theorem dX7_slideDown_0 : decode cX7_slideDown 0 = .ok (.iload_n 1, 1) := by decide +kernel
theorem dX7_slideDown_1 : decode cX7_slideDown 1 = .ok (.istore_n 3, 1) := by decide +kernel
theorem dX7_slideDown_2 : decode cX7_slideDown 2 = .ok (.iload_n 2, 1) := by decide +kernel
theorem dX7_slideDown_3 : decode cX7_slideDown 3 = .ok (.istore 4, 2) := by decide +kernel
theorem dX7_slideDown_5 : decode cX7_slideDown 5 = .ok (.aload_n 0, 1) := by decide +kernel
theorem dX7_slideDown_6 : decode cX7_slideDown 6 = .ok (.iload_n 3, 1) := by decide +kernel
theorem dX7_slideDown_7 : decode cX7_slideDown 7 = .ok (.iload 4, 2) := by decide +kernel
theorem dX7_slideDown_9 : decode cX7_slideDown 9 = .ok (.invokevirtual 18, 3) := by decide +kernel
theorem dX7_slideDown_12 : decode cX7_slideDown 12 = .ok (.istore 5, 2) := by decide +kernel
theorem dX7_slideDown_14 : decode cX7_slideDown 14 = .ok (.iconst 0, 1) := by decide +kernel
theorem dX7_slideDown_15 : decode cX7_slideDown 15 = .ok (.istore 6, 2) := by decide +kernel
theorem dX7_slideDown_17 : decode cX7_slideDown 17 = .ok (.iload 6, 2) := by decide +kernel
theorem dX7_slideDown_19 : decode cX7_slideDown 19 = .ok (.bipush 12, 2) := by decide +kernel
theorem dX7_slideDown_21 : decode cX7_slideDown 21 = .ok (.if_icmp .ge 97, 3) := by decide +kernel
theorem dX7_slideDown_24 : decode cX7_slideDown 24 = .ok (.aload_n 0, 1) := by decide +kernel
theorem dX7_slideDown_25 : decode cX7_slideDown 25 = .ok (.iload_n 3, 1) := by decide +kernel
theorem dX7_slideDown_26 : decode cX7_slideDown 26 = .ok (.iconst 1, 1) := by decide +kernel
theorem dX7_slideDown_27 : decode cX7_slideDown 27 = .ok (.iadd, 1) := by decide +kernel
theorem dX7_slideDown_28 : decode cX7_slideDown 28 = .ok (.iload 4, 2) := by decide +kernel
theorem dX7_slideDown_30 : decode cX7_slideDown 30 = .ok (.invokevirtual 18, 3) := by decide +kernel
theorem dX7_slideDown_33 : decode cX7_slideDown 33 = .ok (.invokestatic 73, 3) := by decide +kernel
theorem dX7_slideDown_36 : decode cX7_slideDown 36 = .ok (.istore 7, 2) := by decide +kernel
theorem dX7_slideDown_38 : decode cX7_slideDown 38 = .ok (.aload_n 0, 1) := by decide +kernel
theorem dX7_slideDown_39 : decode cX7_slideDown 39 = .ok (.iload_n 3, 1) := by decide +kernel
theorem dX7_slideDown_40 : decode cX7_slideDown 40 = .ok (.iload 4, 2) := by decide +kernel
theorem dX7_slideDown_42 : decode cX7_slideDown 42 = .ok (.iconst 1, 1) := by decide +kernel
theorem dX7_slideDown_43 : decode cX7_slideDown 43 = .ok (.iadd, 1) := by decide +kernel
theorem dX7_slideDown_44 : decode cX7_slideDown 44 = .ok (.invokevirtual 18, 3) := by decide +kernel
theorem dX7_slideDown_47 : decode cX7_slideDown 47 = .ok (.invokestatic 73, 3) := by decide +kernel
theorem dX7_slideDown_50 : decode cX7_slideDown 50 = .ok (.istore 8, 2) := by decide +kernel
theorem dX7_slideDown_52 : decode cX7_slideDown 52 = .ok (.iload 7, 2) := by decide +kernel
theorem dX7_slideDown_54 : decode cX7_slideDown 54 = .ok (.iload 5, 2) := by decide +kernel
theorem dX7_slideDown_56 : decode cX7_slideDown 56 = .ok (.if_icmp .lt 13, 3) := by decide +kernel
theorem dX7_slideDown_59 : decode cX7_slideDown 59 = .ok (.iload 8, 2) := by decide +kernel
theorem dX7_slideDown_61 : decode cX7_slideDown 61 = .ok (.iload 5, 2) := by decide +kernel
theorem dX7_slideDown_63 : decode cX7_slideDown 63 = .ok (.if_icmp .lt 6, 3) := by decide +kernel
theorem dX7_slideDown_66 : decode cX7_slideDown 66 = .ok (.goto 52, 3) := by decide +kernel
theorem dX7_slideDown_69 : decode cX7_slideDown 69 = .ok (.iload 7, 2) := by decide +kernel
theorem dX7_slideDown_71 : decode cX7_slideDown 71 = .ok (.iload 8, 2) := by decide +kernel
theorem dX7_slideDown_73 : decode cX7_slideDown 73 = .ok (.if_icmp .gt 18, 3) := by decide +kernel
theorem dX7_slideDown_76 : decode cX7_slideDown 76 = .ok (.aload_n 0, 1) := by decide +kernel
theorem dX7_slideDown_77 : decode cX7_slideDown 77 = .ok (.iload_n 3, 1) := by decide +kernel
theorem dX7_slideDown_78 : decode cX7_slideDown 78 = .ok (.iload 4, 2) := by decide +kernel
theorem dX7_slideDown_80 : decode cX7_slideDown 80 = .ok (.iload 7, 2) := by decide +kernel
theorem dX7_slideDown_82 : decode cX7_slideDown 82 = .ok (.invokevirtual 28, 3) := by decide +kernel
theorem dX7_slideDown_85 : decode cX7_slideDown 85 = .ok (.iinc 3 1, 3) := by decide +kernel
theorem dX7_slideDown_88 : decode cX7_slideDown 88 = .ok (.goto 15, 3) := by decide +kernel
theorem dX7_slideDown_91 : decode cX7_slideDown 91 = .ok (.aload_n 0, 1) := by decide +kernel
theorem dX7_slideDown_92 : decode cX7_slideDown 92 = .ok (.iload_n 3, 1) := by decide +kernel
theorem dX7_slideDown_93 : decode cX7_slideDown 93 = .ok (.iload 4, 2) := by decide +kernel
theorem dX7_slideDown_95 : decode cX7_slideDown 95 = .ok (.iload 8, 2) := by decide +kernel
theorem dX7_slideDown_97 : decode cX7_slideDown 97 = .ok (.invokevirtual 28, 3) := by decide +kernel
theorem dX7_slideDown_100 : decode cX7_slideDown 100 = .ok (.iinc 4 1, 3) := by decide +kernel
theorem dX7_slideDown_103 : decode cX7_slideDown 103 = .ok (.aload_n 0, 1) := by decide +kernel
theorem dX7_slideDown_104 : decode cX7_slideDown 104 = .ok (.iload_n 3, 1) := by decide +kernel
theorem dX7_slideDown_105 : decode cX7_slideDown 105 = .ok (.iload 4, 2) := by decide +kernel
theorem dX7_slideDown_107 : decode cX7_slideDown 107 = .ok (.iload 5, 2) := by decide +kernel
theorem dX7_slideDown_109 : decode cX7_slideDown 109 = .ok (.invokevirtual 28, 3) := by decide +kernel
theorem dX7_slideDown_112 : decode cX7_slideDown 112 = .ok (.iinc 6 1, 3) := by decide +kernel
theorem dX7_slideDown_115 : decode cX7_slideDown 115 = .ok (.goto (-98), 3) := by decide +kernel
theorem dX7_slideDown_118 : decode cX7_slideDown 118 = .ok (.iload_n 3, 1) := by decide +kernel
theorem dX7_slideDown_119 : decode cX7_slideDown 119 = .ok (.iload 4, 2) := by decide +kernel
theorem dX7_slideDown_121 : decode cX7_slideDown 121 = .ok (.invokestatic 51, 3) := by decide +kernel
theorem dX7_slideDown_124 : decode cX7_slideDown 124 = .ok (.ireturn, 1) := by decide +kernel
theorem dX7_orHole_0 : decode cX7_orHole 0 = .ok (.iload_n 0, 1) := by decide +kernel
theorem dX7_orHole_1 : decode cX7_orHole 1 = .ok (.iconst (-1), 1) := by decide +kernel
theorem dX7_orHole_2 : decode cX7_orHole 2 = .ok (.if_icmp .ne 8, 3) := by decide +kernel
theorem dX7_orHole_5 : decode cX7_orHole 5 = .ok (.bipush 100, 2) := by decide +kernel
theorem dX7_orHole_7 : decode cX7_orHole 7 = .ok (.goto 4, 3) := by decide +kernel
theorem dX7_orHole_10 : decode cX7_orHole 10 = .ok (.iload_n 0, 1) := by decide +kernel
theorem dX7_orHole_11 : decode cX7_orHole 11 = .ok (.ireturn, 1) := by decide +kernel
theorem dX7_greatest_0 : decode cX7_greatest 0 = .ok (.bipush (-9), 2) := by decide +kernel
theorem dX7_greatest_2 : decode cX7_greatest 2 = .ok (.istore_n 1, 1) := by decide +kernel
theorem dX7_greatest_3 : decode cX7_greatest 3 = .ok (.iconst 0, 1) := by decide +kernel
theorem dX7_greatest_4 : decode cX7_greatest 4 = .ok (.istore_n 2, 1) := by decide +kernel
theorem dX7_greatest_5 : decode cX7_greatest 5 = .ok (.iload_n 2, 1) := by decide +kernel
theorem dX7_greatest_6 : decode cX7_greatest 6 = .ok (.bipush 36, 2) := by decide +kernel
theorem dX7_greatest_8 : decode cX7_greatest 8 = .ok (.if_icmp .ge 30, 3) := by decide +kernel
theorem dX7_greatest_11 : decode cX7_greatest 11 = .ok (.aload_n 0, 1) := by decide +kernel
theorem dX7_greatest_12 : decode cX7_greatest 12 = .ok (.getfield 9, 3) := by decide +kernel
theorem dX7_greatest_15 : decode cX7_greatest 15 = .ok (.iload_n 2, 1) := by decide +kernel
theorem dX7_greatest_16 : decode cX7_greatest 16 = .ok (.iaload, 1) := by decide +kernel
theorem dX7_greatest_17 : decode cX7_greatest 17 = .ok (.iconst (-1), 1) := by decide +kernel
theorem dX7_greatest_18 : decode cX7_greatest 18 = .ok (.if_icmp .eq 14, 3) := by decide +kernel
theorem dX7_greatest_21 : decode cX7_greatest 21 = .ok (.iload_n 1, 1) := by decide +kernel
theorem dX7_greatest_22 : decode cX7_greatest 22 = .ok (.aload_n 0, 1) := by decide +kernel
theorem dX7_greatest_23 : decode cX7_greatest 23 = .ok (.getfield 9, 3) := by decide +kernel
theorem dX7_greatest_26 : decode cX7_greatest 26 = .ok (.iload_n 2, 1) := by decide +kernel
theorem dX7_greatest_27 : decode cX7_greatest 27 = .ok (.iaload, 1) := by decide +kernel
theorem dX7_greatest_28 : decode cX7_greatest 28 = .ok (.invokestatic 76, 3) := by decide +kernel
theorem dX7_greatest_31 : decode cX7_greatest 31 = .ok (.istore_n 1, 1) := by decide +kernel
theorem dX7_greatest_32 : decode cX7_greatest 32 = .ok (.iinc 2 1, 3) := by decide +kernel
theorem dX7_greatest_35 : decode cX7_greatest 35 = .ok (.goto (-30), 3) := by decide +kernel
theorem dX7_greatest_38 : decode cX7_greatest 38 = .ok (.iload_n 1, 1) := by decide +kernel
theorem dX7_greatest_39 : decode cX7_greatest 39 = .ok (.ireturn, 1) := by decide +kernel
theorem dX7_sum_0 : decode cX7_sum 0 = .ok (.iconst 0, 1) := by decide +kernel
theorem dX7_sum_1 : decode cX7_sum 1 = .ok (.istore_n 1, 1) := by decide +kernel
theorem dX7_sum_2 : decode cX7_sum 2 = .ok (.iconst 0, 1) := by decide +kernel
theorem dX7_sum_3 : decode cX7_sum 3 = .ok (.istore_n 2, 1) := by decide +kernel
theorem dX7_sum_4 : decode cX7_sum 4 = .ok (.iload_n 2, 1) := by decide +kernel
theorem dX7_sum_5 : decode cX7_sum 5 = .ok (.bipush 36, 2) := by decide +kernel
theorem dX7_sum_7 : decode cX7_sum 7 = .ok (.if_icmp .ge 28, 3) := by decide +kernel
theorem dX7_sum_10 : decode cX7_sum 10 = .ok (.aload_n 0, 1) := by decide +kernel
theorem dX7_sum_11 : decode cX7_sum 11 = .ok (.getfield 9, 3) := by decide +kernel
theorem dX7_sum_14 : decode cX7_sum 14 = .ok (.iload_n 2, 1) := by decide +kernel
theorem dX7_sum_15 : decode cX7_sum 15 = .ok (.iaload, 1) := by decide +kernel
theorem dX7_sum_16 : decode cX7_sum 16 = .ok (.iconst (-1), 1) := by decide +kernel
theorem dX7_sum_17 : decode cX7_sum 17 = .ok (.if_icmp .eq 12, 3) := by decide +kernel
theorem dX7_sum_20 : decode cX7_sum 20 = .ok (.iload_n 1, 1) := by decide +kernel
theorem dX7_sum_21 : decode cX7_sum 21 = .ok (.aload_n 0, 1) := by decide +kernel
theorem dX7_sum_22 : decode cX7_sum 22 = .ok (.getfield 9, 3) := by decide +kernel
theorem dX7_sum_25 : decode cX7_sum 25 = .ok (.iload_n 2, 1) := by decide +kernel
theorem dX7_sum_26 : decode cX7_sum 26 = .ok (.iaload, 1) := by decide +kernel
theorem dX7_sum_27 : decode cX7_sum 27 = .ok (.iadd, 1) := by decide +kernel
theorem dX7_sum_28 : decode cX7_sum 28 = .ok (.istore_n 1, 1) := by decide +kernel
theorem dX7_sum_29 : decode cX7_sum 29 = .ok (.iinc 2 1, 3) := by decide +kernel
theorem dX7_sum_32 : decode cX7_sum 32 = .ok (.goto (-28), 3) := by decide +kernel
theorem dX7_sum_35 : decode cX7_sum 35 = .ok (.iload_n 1, 1) := by decide +kernel
theorem dX7_sum_36 : decode cX7_sum 36 = .ok (.ireturn, 1) := by decide +kernel
set_option maxRecDepth 20000 in
theorem ggX7_cellsUpTo_X7_countWithin : GoodIn wsX7_cellsUpTo wsX7_countWithin := goodIn_r _ [5, 6, 7, 8, 4, 9, 10, 11, 12, 13, 14] (by decide +kernel) (by decide +kernel)
set_option maxRecDepth 20000 in
theorem gX7_cellsUpTo_X7_countWithin : GoodIn wsX7_cellsUpTo (wsV RX7 81 RX7 yX7_countWithin wsX7_countWithin) := goodIn_app (goodIn_of _ (by decide +kernel)) ggX7_cellsUpTo_X7_countWithin
theorem dX7_cellsUpTo_0 : decode cX7_cellsUpTo 0 = .ok (.aload_n 0, 1) := by decide +kernel
theorem dX7_cellsUpTo_1 : decode cX7_cellsUpTo 1 = .ok (.iconst 0, 1) := by decide +kernel
theorem dX7_cellsUpTo_2 : decode cX7_cellsUpTo 2 = .ok (.iconst 0, 1) := by decide +kernel
theorem dX7_cellsUpTo_3 : decode cX7_cellsUpTo 3 = .ok (.iconst 5, 1) := by decide +kernel
theorem dX7_cellsUpTo_4 : decode cX7_cellsUpTo 4 = .ok (.iconst 5, 1) := by decide +kernel
theorem dX7_cellsUpTo_5 : decode cX7_cellsUpTo 5 = .ok (.iload_n 1, 1) := by decide +kernel
theorem dX7_cellsUpTo_6 : decode cX7_cellsUpTo 6 = .ok (.invokevirtual 81, 3) := by decide +kernel
theorem dX7_cellsUpTo_9 : decode cX7_cellsUpTo 9 = .ok (.ireturn, 1) := by decide +kernel
set_option maxRecDepth 20000 in
theorem ggX7_countWithin_X7_at : GoodIn wsX7_countWithin wsX7_at := goodIn_r _ [5, 6, 10] (by decide +kernel) (by decide +kernel)
set_option maxRecDepth 20000 in
theorem gX7_countWithin_X7_at : GoodIn wsX7_countWithin (wsV RX7 18 RX7 yX7_at wsX7_at) := goodIn_app (goodIn_of _ (by decide +kernel)) ggX7_countWithin_X7_at
set_option maxRecDepth 20000 in
theorem ggX7_countWithin_X7_isNotUpTo : GoodIn wsX7_countWithin wsX7_isNotUpTo := goodIn_r _ [9] (by decide +kernel) (by decide +kernel)
set_option maxRecDepth 20000 in
theorem gX7_countWithin_X7_isNotUpTo : GoodIn wsX7_countWithin (va_wsS RX7 85 yX7_isNotUpTo wsX7_isNotUpTo) := goodIn_app (goodIn_of _ (by decide +kernel)) ggX7_countWithin_X7_isNotUpTo
theorem dX7_countWithin_0 : decode cX7_countWithin 0 = .ok (.iconst 0, 1) := by decide +kernel
theorem dX7_countWithin_1 : decode cX7_countWithin 1 = .ok (.istore 6, 2) := by decide +kernel
theorem dX7_countWithin_3 : decode cX7_countWithin 3 = .ok (.iload 4, 2) := by decide +kernel
theorem dX7_countWithin_5 : decode cX7_countWithin 5 = .ok (.istore 7, 2) := by decide +kernel
theorem dX7_countWithin_7 : decode cX7_countWithin 7 = .ok (.iload_n 1, 1) := by decide +kernel
theorem dX7_countWithin_8 : decode cX7_countWithin 8 = .ok (.istore 8, 2) := by decide +kernel
theorem dX7_countWithin_10 : decode cX7_countWithin 10 = .ok (.iload 8, 2) := by decide +kernel
theorem dX7_countWithin_12 : decode cX7_countWithin 12 = .ok (.iload_n 3, 1) := by decide +kernel
theorem dX7_countWithin_13 : decode cX7_countWithin 13 = .ok (.if_icmp .gt 48, 3) := by decide +kernel
theorem dX7_countWithin_16 : decode cX7_countWithin 16 = .ok (.iload 7, 2) := by decide +kernel
theorem dX7_countWithin_18 : decode cX7_countWithin 18 = .ok (.iload_n 2, 1) := by decide +kernel
theorem dX7_countWithin_19 : decode cX7_countWithin 19 = .ok (.if_icmp .lt 25, 3) := by decide +kernel
theorem dX7_countWithin_22 : decode cX7_countWithin 22 = .ok (.aload_n 0, 1) := by decide +kernel
theorem dX7_countWithin_23 : decode cX7_countWithin 23 = .ok (.iload 8, 2) := by decide +kernel
theorem dX7_countWithin_25 : decode cX7_countWithin 25 = .ok (.iload 7, 2) := by decide +kernel
theorem dX7_countWithin_27 : decode cX7_countWithin 27 = .ok (.invokevirtual 18, 3) := by decide +kernel
theorem dX7_countWithin_30 : decode cX7_countWithin 30 = .ok (.iload 5, 2) := by decide +kernel
theorem dX7_countWithin_32 : decode cX7_countWithin 32 = .ok (.invokestatic 85, 3) := by decide +kernel
theorem dX7_countWithin_35 : decode cX7_countWithin 35 = .ok (.ifCond .eq 9, 3) := by decide +kernel
theorem dX7_countWithin_38 : decode cX7_countWithin 38 = .ok (.iinc 7 (-1), 3) := by decide +kernel
theorem dX7_countWithin_41 : decode cX7_countWithin 41 = .ok (.goto (-25), 3) := by decide +kernel
theorem dX7_countWithin_44 : decode cX7_countWithin 44 = .ok (.iload 6, 2) := by decide +kernel
theorem dX7_countWithin_46 : decode cX7_countWithin 46 = .ok (.iload 7, 2) := by decide +kernel
theorem dX7_countWithin_48 : decode cX7_countWithin 48 = .ok (.iload_n 2, 1) := by decide +kernel
theorem dX7_countWithin_49 : decode cX7_countWithin 49 = .ok (.isub, 1) := by decide +kernel
theorem dX7_countWithin_50 : decode cX7_countWithin 50 = .ok (.iconst 1, 1) := by decide +kernel
theorem dX7_countWithin_51 : decode cX7_countWithin 51 = .ok (.iadd, 1) := by decide +kernel
theorem dX7_countWithin_52 : decode cX7_countWithin 52 = .ok (.iadd, 1) := by decide +kernel
theorem dX7_countWithin_53 : decode cX7_countWithin 53 = .ok (.istore 6, 2) := by decide +kernel
theorem dX7_countWithin_55 : decode cX7_countWithin 55 = .ok (.iinc 8 1, 3) := by decide +kernel
theorem dX7_countWithin_58 : decode cX7_countWithin 58 = .ok (.goto (-48), 3) := by decide +kernel
theorem dX7_countWithin_61 : decode cX7_countWithin 61 = .ok (.iload 6, 2) := by decide +kernel
theorem dX7_countWithin_63 : decode cX7_countWithin 63 = .ok (.ireturn, 1) := by decide +kernel
theorem dX7_isNotUpTo_0 : decode cX7_isNotUpTo 0 = .ok (.iload_n 0, 1) := by decide +kernel
theorem dX7_isNotUpTo_1 : decode cX7_isNotUpTo 1 = .ok (.iconst (-1), 1) := by decide +kernel
theorem dX7_isNotUpTo_2 : decode cX7_isNotUpTo 2 = .ok (.if_icmp .eq 8, 3) := by decide +kernel
theorem dX7_isNotUpTo_5 : decode cX7_isNotUpTo 5 = .ok (.iload_n 0, 1) := by decide +kernel
theorem dX7_isNotUpTo_6 : decode cX7_isNotUpTo 6 = .ok (.iload_n 1, 1) := by decide +kernel
theorem dX7_isNotUpTo_7 : decode cX7_isNotUpTo 7 = .ok (.if_icmp .le 7, 3) := by decide +kernel
theorem dX7_isNotUpTo_10 : decode cX7_isNotUpTo 10 = .ok (.iconst 1, 1) := by decide +kernel
theorem dX7_isNotUpTo_11 : decode cX7_isNotUpTo 11 = .ok (.goto 4, 3) := by decide +kernel
theorem dX7_isNotUpTo_14 : decode cX7_isNotUpTo 14 = .ok (.iconst 0, 1) := by decide +kernel
theorem dX7_isNotUpTo_15 : decode cX7_isNotUpTo 15 = .ok (.ireturn, 1) := by decide +kernel
set_option maxRecDepth 20000 in
theorem ggX7_kthNumber_X7_kthWithin : GoodIn wsX7_kthNumber wsX7_kthWithin := goodIn_r _ [5, 6, 7, 8, 4, 9, 10, 11, 12, 13, 14, 15, 16, 17, 18] (by decide +kernel) (by decide +kernel)
set_option maxRecDepth 20000 in
theorem gX7_kthNumber_X7_kthWithin : GoodIn wsX7_kthNumber (wsV RX7 88 RX7 yX7_kthWithin wsX7_kthWithin) := goodIn_app (goodIn_of _ (by decide +kernel)) ggX7_kthNumber_X7_kthWithin
theorem dX7_kthNumber_0 : decode cX7_kthNumber 0 = .ok (.aload_n 0, 1) := by decide +kernel
theorem dX7_kthNumber_1 : decode cX7_kthNumber 1 = .ok (.iconst 0, 1) := by decide +kernel
theorem dX7_kthNumber_2 : decode cX7_kthNumber 2 = .ok (.iconst 0, 1) := by decide +kernel
theorem dX7_kthNumber_3 : decode cX7_kthNumber 3 = .ok (.iconst 5, 1) := by decide +kernel
theorem dX7_kthNumber_4 : decode cX7_kthNumber 4 = .ok (.iconst 5, 1) := by decide +kernel
theorem dX7_kthNumber_5 : decode cX7_kthNumber 5 = .ok (.iload_n 1, 1) := by decide +kernel
theorem dX7_kthNumber_6 : decode cX7_kthNumber 6 = .ok (.invokevirtual 88, 3) := by decide +kernel
theorem dX7_kthNumber_9 : decode cX7_kthNumber 9 = .ok (.ireturn, 1) := by decide +kernel
set_option maxRecDepth 20000 in
theorem ggX7_kthWithin_X7_countWithin : GoodIn wsX7_kthWithin wsX7_countWithin := goodIn_r _ [5, 6, 7, 8, 4, 9, 10, 11, 12, 13, 14] (by decide +kernel) (by decide +kernel)
set_option maxRecDepth 20000 in
theorem gX7_kthWithin_X7_countWithin : GoodIn wsX7_kthWithin (wsV RX7 81 RX7 yX7_countWithin wsX7_countWithin) := goodIn_app (goodIn_of _ (by decide +kernel)) ggX7_kthWithin_X7_countWithin
theorem dX7_kthWithin_0 : decode cX7_kthWithin 0 = .ok (.aload_n 0, 1) := by decide +kernel
theorem dX7_kthWithin_1 : decode cX7_kthWithin 1 = .ok (.iload_n 1, 1) := by decide +kernel
theorem dX7_kthWithin_2 : decode cX7_kthWithin 2 = .ok (.iload_n 2, 1) := by decide +kernel
theorem dX7_kthWithin_3 : decode cX7_kthWithin 3 = .ok (.iload_n 3, 1) := by decide +kernel
theorem dX7_kthWithin_4 : decode cX7_kthWithin 4 = .ok (.iload 4, 2) := by decide +kernel
theorem dX7_kthWithin_6 : decode cX7_kthWithin 6 = .ok (.bipush 99, 2) := by decide +kernel
theorem dX7_kthWithin_8 : decode cX7_kthWithin 8 = .ok (.invokevirtual 81, 3) := by decide +kernel
theorem dX7_kthWithin_11 : decode cX7_kthWithin 11 = .ok (.iload 5, 2) := by decide +kernel
theorem dX7_kthWithin_13 : decode cX7_kthWithin 13 = .ok (.if_icmp .gt 6, 3) := by decide +kernel
theorem dX7_kthWithin_16 : decode cX7_kthWithin 16 = .ok (.bipush (-9), 2) := by decide +kernel
theorem dX7_kthWithin_18 : decode cX7_kthWithin 18 = .ok (.ireturn, 1) := by decide +kernel
theorem dX7_kthWithin_19 : decode cX7_kthWithin 19 = .ok (.iconst 0, 1) := by decide +kernel
theorem dX7_kthWithin_20 : decode cX7_kthWithin 20 = .ok (.istore 6, 2) := by decide +kernel
theorem dX7_kthWithin_22 : decode cX7_kthWithin 22 = .ok (.bipush 64, 2) := by decide +kernel
theorem dX7_kthWithin_24 : decode cX7_kthWithin 24 = .ok (.istore 7, 2) := by decide +kernel
theorem dX7_kthWithin_26 : decode cX7_kthWithin 26 = .ok (.iload 7, 2) := by decide +kernel
theorem dX7_kthWithin_28 : decode cX7_kthWithin 28 = .ok (.ifCond .le 40, 3) := by decide +kernel
theorem dX7_kthWithin_31 : decode cX7_kthWithin 31 = .ok (.aload_n 0, 1) := by decide +kernel
theorem dX7_kthWithin_32 : decode cX7_kthWithin 32 = .ok (.iload_n 1, 1) := by decide +kernel
theorem dX7_kthWithin_33 : decode cX7_kthWithin 33 = .ok (.iload_n 2, 1) := by decide +kernel
theorem dX7_kthWithin_34 : decode cX7_kthWithin 34 = .ok (.iload_n 3, 1) := by decide +kernel
theorem dX7_kthWithin_35 : decode cX7_kthWithin 35 = .ok (.iload 4, 2) := by decide +kernel
theorem dX7_kthWithin_37 : decode cX7_kthWithin 37 = .ok (.iload 6, 2) := by decide +kernel
theorem dX7_kthWithin_39 : decode cX7_kthWithin 39 = .ok (.iload 7, 2) := by decide +kernel
theorem dX7_kthWithin_41 : decode cX7_kthWithin 41 = .ok (.iadd, 1) := by decide +kernel
theorem dX7_kthWithin_42 : decode cX7_kthWithin 42 = .ok (.iconst 1, 1) := by decide +kernel
theorem dX7_kthWithin_43 : decode cX7_kthWithin 43 = .ok (.isub, 1) := by decide +kernel
theorem dX7_kthWithin_44 : decode cX7_kthWithin 44 = .ok (.invokevirtual 81, 3) := by decide +kernel
theorem dX7_kthWithin_47 : decode cX7_kthWithin 47 = .ok (.iload 5, 2) := by decide +kernel
theorem dX7_kthWithin_49 : decode cX7_kthWithin 49 = .ok (.if_icmp .gt 10, 3) := by decide +kernel
theorem dX7_kthWithin_52 : decode cX7_kthWithin 52 = .ok (.iload 6, 2) := by decide +kernel
theorem dX7_kthWithin_54 : decode cX7_kthWithin 54 = .ok (.iload 7, 2) := by decide +kernel
theorem dX7_kthWithin_56 : decode cX7_kthWithin 56 = .ok (.iadd, 1) := by decide +kernel
theorem dX7_kthWithin_57 : decode cX7_kthWithin 57 = .ok (.istore 6, 2) := by decide +kernel
theorem dX7_kthWithin_59 : decode cX7_kthWithin 59 = .ok (.iload 7, 2) := by decide +kernel
theorem dX7_kthWithin_61 : decode cX7_kthWithin 61 = .ok (.iconst 2, 1) := by decide +kernel
theorem dX7_kthWithin_62 : decode cX7_kthWithin 62 = .ok (.idiv, 1) := by decide +kernel
theorem dX7_kthWithin_63 : decode cX7_kthWithin 63 = .ok (.istore 7, 2) := by decide +kernel
theorem dX7_kthWithin_65 : decode cX7_kthWithin 65 = .ok (.goto (-39), 3) := by decide +kernel
theorem dX7_kthWithin_68 : decode cX7_kthWithin 68 = .ok (.iload 6, 2) := by decide +kernel
theorem dX7_kthWithin_70 : decode cX7_kthWithin 70 = .ok (.ireturn, 1) := by decide +kernel
set_option maxRecDepth 20000 in
theorem ggX7_kthPlace_X7_kthNumber : GoodIn wsX7_kthPlace wsX7_kthNumber := goodIn_r _ [5, 6, 7, 8, 4, 9, 10, 11, 12, 13, 14, 15, 16, 17, 18, 19, 20, 21, 29] (by decide +kernel) (by decide +kernel)
set_option maxRecDepth 20000 in
theorem gX7_kthPlace_X7_kthNumber : GoodIn wsX7_kthPlace (wsV RX7 91 RX7 yX7_kthNumber wsX7_kthNumber) := goodIn_app (goodIn_of _ (by decide +kernel)) ggX7_kthPlace_X7_kthNumber
set_option maxRecDepth 20000 in
theorem ggX7_kthPlace_X7_cellsUpTo : GoodIn wsX7_kthPlace wsX7_cellsUpTo := goodIn_r _ [25, 10, 11, 12, 4, 13, 14, 15, 16, 17, 18, 19, 20, 21, 29] (by decide +kernel) (by decide +kernel)
set_option maxRecDepth 20000 in
theorem gX7_kthPlace_X7_cellsUpTo : GoodIn wsX7_kthPlace (wsV RX7 94 RX7 yX7_cellsUpTo wsX7_cellsUpTo) := goodIn_app (goodIn_of _ (by decide +kernel)) ggX7_kthPlace_X7_cellsUpTo
set_option maxRecDepth 20000 in
theorem ggX7_kthPlace_X7_at : GoodIn wsX7_kthPlace wsX7_at := goodIn_r _ [17, 18, 29] (by decide +kernel) (by decide +kernel)
set_option maxRecDepth 20000 in
theorem gX7_kthPlace_X7_at : GoodIn wsX7_kthPlace (wsV RX7 18 RX7 yX7_at wsX7_at) := goodIn_app (goodIn_of _ (by decide +kernel)) ggX7_kthPlace_X7_at
set_option maxRecDepth 20000 in
theorem ggX7_kthPlace_X9_placeOf : GoodIn wsX7_kthPlace wsX9_placeOf := goodIn_r _ [28] (by decide +kernel) (by decide +kernel)
set_option maxRecDepth 20000 in
theorem gX7_kthPlace_X9_placeOf_n51 : GoodIn wsX7_kthPlace (wsX9_placeOf) := ggX7_kthPlace_X9_placeOf
theorem dX7_kthPlace_0 : decode cX7_kthPlace 0 = .ok (.aload_n 0, 1) := by decide +kernel
theorem dX7_kthPlace_1 : decode cX7_kthPlace 1 = .ok (.iload_n 1, 1) := by decide +kernel
theorem dX7_kthPlace_2 : decode cX7_kthPlace 2 = .ok (.invokevirtual 91, 3) := by decide +kernel
theorem dX7_kthPlace_5 : decode cX7_kthPlace 5 = .ok (.istore_n 2, 1) := by decide +kernel
theorem dX7_kthPlace_6 : decode cX7_kthPlace 6 = .ok (.iload_n 2, 1) := by decide +kernel
theorem dX7_kthPlace_7 : decode cX7_kthPlace 7 = .ok (.bipush (-9), 2) := by decide +kernel
theorem dX7_kthPlace_9 : decode cX7_kthPlace 9 = .ok (.if_icmp .ne 6, 3) := by decide +kernel
theorem dX7_kthPlace_12 : decode cX7_kthPlace 12 = .ok (.bipush (-9), 2) := by decide +kernel
theorem dX7_kthPlace_14 : decode cX7_kthPlace 14 = .ok (.ireturn, 1) := by decide +kernel
theorem dX7_kthPlace_15 : decode cX7_kthPlace 15 = .ok (.iload_n 1, 1) := by decide +kernel
theorem dX7_kthPlace_16 : decode cX7_kthPlace 16 = .ok (.aload_n 0, 1) := by decide +kernel
theorem dX7_kthPlace_17 : decode cX7_kthPlace 17 = .ok (.iload_n 2, 1) := by decide +kernel
theorem dX7_kthPlace_18 : decode cX7_kthPlace 18 = .ok (.iconst 1, 1) := by decide +kernel
theorem dX7_kthPlace_19 : decode cX7_kthPlace 19 = .ok (.isub, 1) := by decide +kernel
theorem dX7_kthPlace_20 : decode cX7_kthPlace 20 = .ok (.invokevirtual 94, 3) := by decide +kernel
theorem dX7_kthPlace_23 : decode cX7_kthPlace 23 = .ok (.isub, 1) := by decide +kernel
theorem dX7_kthPlace_24 : decode cX7_kthPlace 24 = .ok (.istore_n 3, 1) := by decide +kernel
theorem dX7_kthPlace_25 : decode cX7_kthPlace 25 = .ok (.iconst 0, 1) := by decide +kernel
theorem dX7_kthPlace_26 : decode cX7_kthPlace 26 = .ok (.istore 4, 2) := by decide +kernel
theorem dX7_kthPlace_28 : decode cX7_kthPlace 28 = .ok (.iload 4, 2) := by decide +kernel
theorem dX7_kthPlace_30 : decode cX7_kthPlace 30 = .ok (.bipush 6, 2) := by decide +kernel
theorem dX7_kthPlace_32 : decode cX7_kthPlace 32 = .ok (.if_icmp .ge 52, 3) := by decide +kernel
theorem dX7_kthPlace_35 : decode cX7_kthPlace 35 = .ok (.iconst 0, 1) := by decide +kernel
theorem dX7_kthPlace_36 : decode cX7_kthPlace 36 = .ok (.istore 5, 2) := by decide +kernel
theorem dX7_kthPlace_38 : decode cX7_kthPlace 38 = .ok (.iload 5, 2) := by decide +kernel
theorem dX7_kthPlace_40 : decode cX7_kthPlace 40 = .ok (.bipush 6, 2) := by decide +kernel
theorem dX7_kthPlace_42 : decode cX7_kthPlace 42 = .ok (.if_icmp .ge 36, 3) := by decide +kernel
theorem dX7_kthPlace_45 : decode cX7_kthPlace 45 = .ok (.aload_n 0, 1) := by decide +kernel
theorem dX7_kthPlace_46 : decode cX7_kthPlace 46 = .ok (.iload 4, 2) := by decide +kernel
theorem dX7_kthPlace_48 : decode cX7_kthPlace 48 = .ok (.iload 5, 2) := by decide +kernel
theorem dX7_kthPlace_50 : decode cX7_kthPlace 50 = .ok (.invokevirtual 18, 3) := by decide +kernel
theorem dX7_kthPlace_53 : decode cX7_kthPlace 53 = .ok (.iload_n 2, 1) := by decide +kernel
theorem dX7_kthPlace_54 : decode cX7_kthPlace 54 = .ok (.if_icmp .ne 18, 3) := by decide +kernel
theorem dX7_kthPlace_57 : decode cX7_kthPlace 57 = .ok (.iload_n 3, 1) := by decide +kernel
theorem dX7_kthPlace_58 : decode cX7_kthPlace 58 = .ok (.ifCond .ne 11, 3) := by decide +kernel
theorem dX7_kthPlace_61 : decode cX7_kthPlace 61 = .ok (.iload 4, 2) := by decide +kernel
theorem dX7_kthPlace_63 : decode cX7_kthPlace 63 = .ok (.iload 5, 2) := by decide +kernel
theorem dX7_kthPlace_65 : decode cX7_kthPlace 65 = .ok (.invokestatic 51, 3) := by decide +kernel
theorem dX7_kthPlace_68 : decode cX7_kthPlace 68 = .ok (.ireturn, 1) := by decide +kernel
theorem dX7_kthPlace_69 : decode cX7_kthPlace 69 = .ok (.iinc 3 (-1), 3) := by decide +kernel
theorem dX7_kthPlace_72 : decode cX7_kthPlace 72 = .ok (.iinc 5 1, 3) := by decide +kernel
theorem dX7_kthPlace_75 : decode cX7_kthPlace 75 = .ok (.goto (-37), 3) := by decide +kernel
theorem dX7_kthPlace_78 : decode cX7_kthPlace 78 = .ok (.iinc 4 1, 3) := by decide +kernel
theorem dX7_kthPlace_81 : decode cX7_kthPlace 81 = .ok (.goto (-53), 3) := by decide +kernel
theorem dX7_kthPlace_84 : decode cX7_kthPlace 84 = .ok (.bipush (-9), 2) := by decide +kernel
theorem dX7_kthPlace_86 : decode cX7_kthPlace 86 = .ok (.ireturn, 1) := by decide +kernel
set_option maxRecDepth 20000 in
theorem ggX7_cellsBefore_X7_at : GoodIn wsX7_cellsBefore wsX7_at := goodIn_r _ [5, 6, 18] (by decide +kernel) (by decide +kernel)
set_option maxRecDepth 20000 in
theorem gX7_cellsBefore_X7_at : GoodIn wsX7_cellsBefore (wsV RX7 18 RX7 yX7_at wsX7_at) := goodIn_app (goodIn_of _ (by decide +kernel)) ggX7_cellsBefore_X7_at
set_option maxRecDepth 20000 in
theorem ggX7_cellsBefore_X7_cellsUpTo : GoodIn wsX7_cellsBefore wsX7_cellsUpTo := goodIn_r _ [10, 11, 12, 13, 4, 14, 1, 2, 3, 5, 6, 15, 16, 17, 18] (by decide +kernel) (by decide +kernel)
set_option maxRecDepth 20000 in
theorem gX7_cellsBefore_X7_cellsUpTo : GoodIn wsX7_cellsBefore (wsV RX7 94 RX7 yX7_cellsUpTo wsX7_cellsUpTo) := goodIn_app (goodIn_of _ (by decide +kernel)) ggX7_cellsBefore_X7_cellsUpTo
theorem dX7_cellsBefore_0 : decode cX7_cellsBefore 0 = .ok (.aload_n 0, 1) := by decide +kernel
theorem dX7_cellsBefore_1 : decode cX7_cellsBefore 1 = .ok (.iload_n 1, 1) := by decide +kernel
theorem dX7_cellsBefore_2 : decode cX7_cellsBefore 2 = .ok (.iload_n 2, 1) := by decide +kernel
theorem dX7_cellsBefore_3 : decode cX7_cellsBefore 3 = .ok (.invokevirtual 18, 3) := by decide +kernel
theorem dX7_cellsBefore_6 : decode cX7_cellsBefore 6 = .ok (.istore_n 3, 1) := by decide +kernel
theorem dX7_cellsBefore_7 : decode cX7_cellsBefore 7 = .ok (.aload_n 0, 1) := by decide +kernel
theorem dX7_cellsBefore_8 : decode cX7_cellsBefore 8 = .ok (.iload_n 3, 1) := by decide +kernel
theorem dX7_cellsBefore_9 : decode cX7_cellsBefore 9 = .ok (.iconst 1, 1) := by decide +kernel
theorem dX7_cellsBefore_10 : decode cX7_cellsBefore 10 = .ok (.isub, 1) := by decide +kernel
theorem dX7_cellsBefore_11 : decode cX7_cellsBefore 11 = .ok (.invokevirtual 94, 3) := by decide +kernel
theorem dX7_cellsBefore_14 : decode cX7_cellsBefore 14 = .ok (.istore 4, 2) := by decide +kernel
theorem dX7_cellsBefore_16 : decode cX7_cellsBefore 16 = .ok (.iconst 0, 1) := by decide +kernel
theorem dX7_cellsBefore_17 : decode cX7_cellsBefore 17 = .ok (.istore 5, 2) := by decide +kernel
theorem dX7_cellsBefore_19 : decode cX7_cellsBefore 19 = .ok (.iload 5, 2) := by decide +kernel
theorem dX7_cellsBefore_21 : decode cX7_cellsBefore 21 = .ok (.iload_n 1, 1) := by decide +kernel
theorem dX7_cellsBefore_22 : decode cX7_cellsBefore 22 = .ok (.if_icmp .gt 61, 3) := by decide +kernel
theorem dX7_cellsBefore_25 : decode cX7_cellsBefore 25 = .ok (.iload 5, 2) := by decide +kernel
theorem dX7_cellsBefore_27 : decode cX7_cellsBefore 27 = .ok (.bipush 6, 2) := by decide +kernel
theorem dX7_cellsBefore_29 : decode cX7_cellsBefore 29 = .ok (.if_icmp .ge 54, 3) := by decide +kernel
theorem dX7_cellsBefore_32 : decode cX7_cellsBefore 32 = .ok (.iload 5, 2) := by decide +kernel
theorem dX7_cellsBefore_34 : decode cX7_cellsBefore 34 = .ok (.iload_n 1, 1) := by decide +kernel
theorem dX7_cellsBefore_35 : decode cX7_cellsBefore 35 = .ok (.if_icmp .ge 8, 3) := by decide +kernel
theorem dX7_cellsBefore_38 : decode cX7_cellsBefore 38 = .ok (.bipush 6, 2) := by decide +kernel
theorem dX7_cellsBefore_40 : decode cX7_cellsBefore 40 = .ok (.goto 4, 3) := by decide +kernel
theorem dX7_cellsBefore_43 : decode cX7_cellsBefore 43 = .ok (.iload_n 2, 1) := by decide +kernel
theorem dX7_cellsBefore_44 : decode cX7_cellsBefore 44 = .ok (.istore 6, 2) := by decide +kernel
theorem dX7_cellsBefore_46 : decode cX7_cellsBefore 46 = .ok (.iconst 0, 1) := by decide +kernel
theorem dX7_cellsBefore_47 : decode cX7_cellsBefore 47 = .ok (.istore 7, 2) := by decide +kernel
theorem dX7_cellsBefore_49 : decode cX7_cellsBefore 49 = .ok (.iload 7, 2) := by decide +kernel
theorem dX7_cellsBefore_51 : decode cX7_cellsBefore 51 = .ok (.iload 6, 2) := by decide +kernel
theorem dX7_cellsBefore_53 : decode cX7_cellsBefore 53 = .ok (.if_icmp .ge 24, 3) := by decide +kernel
theorem dX7_cellsBefore_56 : decode cX7_cellsBefore 56 = .ok (.aload_n 0, 1) := by decide +kernel
theorem dX7_cellsBefore_57 : decode cX7_cellsBefore 57 = .ok (.iload 5, 2) := by decide +kernel
theorem dX7_cellsBefore_59 : decode cX7_cellsBefore 59 = .ok (.iload 7, 2) := by decide +kernel
theorem dX7_cellsBefore_61 : decode cX7_cellsBefore 61 = .ok (.invokevirtual 18, 3) := by decide +kernel
theorem dX7_cellsBefore_64 : decode cX7_cellsBefore 64 = .ok (.iload_n 3, 1) := by decide +kernel
theorem dX7_cellsBefore_65 : decode cX7_cellsBefore 65 = .ok (.if_icmp .ne 6, 3) := by decide +kernel
theorem dX7_cellsBefore_68 : decode cX7_cellsBefore 68 = .ok (.iinc 4 1, 3) := by decide +kernel
theorem dX7_cellsBefore_71 : decode cX7_cellsBefore 71 = .ok (.iinc 7 1, 3) := by decide +kernel
theorem dX7_cellsBefore_74 : decode cX7_cellsBefore 74 = .ok (.goto (-25), 3) := by decide +kernel
theorem dX7_cellsBefore_77 : decode cX7_cellsBefore 77 = .ok (.iinc 5 1, 3) := by decide +kernel
theorem dX7_cellsBefore_80 : decode cX7_cellsBefore 80 = .ok (.goto (-61), 3) := by decide +kernel
theorem dX7_cellsBefore_83 : decode cX7_cellsBefore 83 = .ok (.iload 4, 2) := by decide +kernel
theorem dX7_cellsBefore_85 : decode cX7_cellsBefore 85 = .ok (.ireturn, 1) := by decide +kernel
set_option maxRecDepth 20000 in
theorem ggX7_tellWalk_X7_rowLength : GoodIn wsX7_tellWalk wsX7_rowLength := goodIn_r _ [9, 10, 22] (by decide +kernel) (by decide +kernel)
set_option maxRecDepth 20000 in
theorem gX7_tellWalk_X7_rowLength : GoodIn wsX7_tellWalk (wsV RX7 32 RX7 yX7_rowLength wsX7_rowLength) := goodIn_app (goodIn_of _ (by decide +kernel)) ggX7_tellWalk_X7_rowLength
set_option maxRecDepth 20000 in
theorem ggX7_tellWalk_X7_has : GoodIn wsX7_tellWalk wsX7_has := goodIn_r _ [14, 15, 16, 17, 8, 18, 10, 22] (by decide +kernel) (by decide +kernel)
set_option maxRecDepth 20000 in
theorem gX7_tellWalk_X7_has : GoodIn wsX7_tellWalk (wsV RX7 36 RX7 yX7_has wsX7_has) := goodIn_app (goodIn_of _ (by decide +kernel)) ggX7_tellWalk_X7_has
set_option maxRecDepth 20000 in
theorem ggX7_tellWalk_X9_placeOf : GoodIn wsX7_tellWalk wsX9_placeOf := goodIn_r _ [21] (by decide +kernel) (by decide +kernel)
set_option maxRecDepth 20000 in
theorem gX7_tellWalk_X9_placeOf_n51 : GoodIn wsX7_tellWalk (wsX9_placeOf) := ggX7_tellWalk_X9_placeOf
set_option maxRecDepth 20000 in
theorem ggX7_tellWalk_X7_at : GoodIn wsX7_tellWalk wsX7_at := goodIn_r _ [18, 10, 22] (by decide +kernel) (by decide +kernel)
set_option maxRecDepth 20000 in
theorem gX7_tellWalk_X7_at : GoodIn wsX7_tellWalk (wsV RX7 18 RX7 yX7_at wsX7_at) := goodIn_app (goodIn_of _ (by decide +kernel)) ggX7_tellWalk_X7_at
theorem dX7_tellWalk_0 : decode cX7_tellWalk 0 = .ok (.iconst 0, 1) := by decide +kernel
theorem dX7_tellWalk_1 : decode cX7_tellWalk 1 = .ok (.istore_n 3, 1) := by decide +kernel
theorem dX7_tellWalk_2 : decode cX7_tellWalk 2 = .ok (.aload_n 0, 1) := by decide +kernel
theorem dX7_tellWalk_3 : decode cX7_tellWalk 3 = .ok (.iconst 0, 1) := by decide +kernel
theorem dX7_tellWalk_4 : decode cX7_tellWalk 4 = .ok (.invokevirtual 32, 3) := by decide +kernel
theorem dX7_tellWalk_7 : decode cX7_tellWalk 7 = .ok (.iconst 1, 1) := by decide +kernel
theorem dX7_tellWalk_8 : decode cX7_tellWalk 8 = .ok (.isub, 1) := by decide +kernel
theorem dX7_tellWalk_9 : decode cX7_tellWalk 9 = .ok (.istore 4, 2) := by decide +kernel
theorem dX7_tellWalk_11 : decode cX7_tellWalk 11 = .ok (.iconst 0, 1) := by decide +kernel
theorem dX7_tellWalk_12 : decode cX7_tellWalk 12 = .ok (.istore 5, 2) := by decide +kernel
theorem dX7_tellWalk_14 : decode cX7_tellWalk 14 = .ok (.bipush (-9), 2) := by decide +kernel
theorem dX7_tellWalk_16 : decode cX7_tellWalk 16 = .ok (.istore 6, 2) := by decide +kernel
theorem dX7_tellWalk_18 : decode cX7_tellWalk 18 = .ok (.bipush (-9), 2) := by decide +kernel
theorem dX7_tellWalk_20 : decode cX7_tellWalk 20 = .ok (.istore 7, 2) := by decide +kernel
theorem dX7_tellWalk_22 : decode cX7_tellWalk 22 = .ok (.iload 5, 2) := by decide +kernel
theorem dX7_tellWalk_24 : decode cX7_tellWalk 24 = .ok (.bipush 12, 2) := by decide +kernel
theorem dX7_tellWalk_26 : decode cX7_tellWalk 26 = .ok (.if_icmp .ge 83, 3) := by decide +kernel
theorem dX7_tellWalk_29 : decode cX7_tellWalk 29 = .ok (.aload_n 0, 1) := by decide +kernel
theorem dX7_tellWalk_30 : decode cX7_tellWalk 30 = .ok (.iload_n 3, 1) := by decide +kernel
theorem dX7_tellWalk_31 : decode cX7_tellWalk 31 = .ok (.iload 4, 2) := by decide +kernel
theorem dX7_tellWalk_33 : decode cX7_tellWalk 33 = .ok (.invokevirtual 36, 3) := by decide +kernel
theorem dX7_tellWalk_36 : decode cX7_tellWalk 36 = .ok (.ifCond .eq 73, 3) := by decide +kernel
theorem dX7_tellWalk_39 : decode cX7_tellWalk 39 = .ok (.iinc 5 1, 3) := by decide +kernel
theorem dX7_tellWalk_42 : decode cX7_tellWalk 42 = .ok (.iload_n 3, 1) := by decide +kernel
theorem dX7_tellWalk_43 : decode cX7_tellWalk 43 = .ok (.iload 4, 2) := by decide +kernel
theorem dX7_tellWalk_45 : decode cX7_tellWalk 45 = .ok (.invokestatic 51, 3) := by decide +kernel
theorem dX7_tellWalk_48 : decode cX7_tellWalk 48 = .ok (.istore 7, 2) := by decide +kernel
theorem dX7_tellWalk_50 : decode cX7_tellWalk 50 = .ok (.iload 6, 2) := by decide +kernel
theorem dX7_tellWalk_52 : decode cX7_tellWalk 52 = .ok (.bipush (-9), 2) := by decide +kernel
theorem dX7_tellWalk_54 : decode cX7_tellWalk 54 = .ok (.if_icmp .ne 18, 3) := by decide +kernel
theorem dX7_tellWalk_57 : decode cX7_tellWalk 57 = .ok (.aload_n 0, 1) := by decide +kernel
theorem dX7_tellWalk_58 : decode cX7_tellWalk 58 = .ok (.iload_n 3, 1) := by decide +kernel
theorem dX7_tellWalk_59 : decode cX7_tellWalk 59 = .ok (.iload 4, 2) := by decide +kernel
theorem dX7_tellWalk_61 : decode cX7_tellWalk 61 = .ok (.invokevirtual 18, 3) := by decide +kernel
theorem dX7_tellWalk_64 : decode cX7_tellWalk 64 = .ok (.iload_n 1, 1) := by decide +kernel
theorem dX7_tellWalk_65 : decode cX7_tellWalk 65 = .ok (.if_icmp .ne 7, 3) := by decide +kernel
theorem dX7_tellWalk_68 : decode cX7_tellWalk 68 = .ok (.iload 7, 2) := by decide +kernel
theorem dX7_tellWalk_70 : decode cX7_tellWalk 70 = .ok (.istore 6, 2) := by decide +kernel
theorem dX7_tellWalk_72 : decode cX7_tellWalk 72 = .ok (.aload_n 0, 1) := by decide +kernel
theorem dX7_tellWalk_73 : decode cX7_tellWalk 73 = .ok (.iload_n 3, 1) := by decide +kernel
theorem dX7_tellWalk_74 : decode cX7_tellWalk 74 = .ok (.iload 4, 2) := by decide +kernel
theorem dX7_tellWalk_76 : decode cX7_tellWalk 76 = .ok (.invokevirtual 18, 3) := by decide +kernel
theorem dX7_tellWalk_79 : decode cX7_tellWalk 79 = .ok (.iload_n 1, 1) := by decide +kernel
theorem dX7_tellWalk_80 : decode cX7_tellWalk 80 = .ok (.if_icmp .le 9, 3) := by decide +kernel
theorem dX7_tellWalk_83 : decode cX7_tellWalk 83 = .ok (.iinc 4 (-1), 3) := by decide +kernel
theorem dX7_tellWalk_86 : decode cX7_tellWalk 86 = .ok (.goto (-64), 3) := by decide +kernel
theorem dX7_tellWalk_89 : decode cX7_tellWalk 89 = .ok (.iinc 3 1, 3) := by decide +kernel
theorem dX7_tellWalk_92 : decode cX7_tellWalk 92 = .ok (.iload 4, 2) := by decide +kernel
theorem dX7_tellWalk_94 : decode cX7_tellWalk 94 = .ok (.aload_n 0, 1) := by decide +kernel
theorem dX7_tellWalk_95 : decode cX7_tellWalk 95 = .ok (.iload_n 3, 1) := by decide +kernel
theorem dX7_tellWalk_96 : decode cX7_tellWalk 96 = .ok (.invokevirtual 32, 3) := by decide +kernel
theorem dX7_tellWalk_99 : decode cX7_tellWalk 99 = .ok (.iconst 1, 1) := by decide +kernel
theorem dX7_tellWalk_100 : decode cX7_tellWalk 100 = .ok (.isub, 1) := by decide +kernel
theorem dX7_tellWalk_101 : decode cX7_tellWalk 101 = .ok (.invokestatic 97, 3) := by decide +kernel
theorem dX7_tellWalk_104 : decode cX7_tellWalk 104 = .ok (.istore 4, 2) := by decide +kernel
theorem dX7_tellWalk_106 : decode cX7_tellWalk 106 = .ok (.goto (-84), 3) := by decide +kernel
theorem dX7_tellWalk_109 : decode cX7_tellWalk 109 = .ok (.iload_n 2, 1) := by decide +kernel
theorem dX7_tellWalk_110 : decode cX7_tellWalk 110 = .ok (.ifCond .ne 6, 3) := by decide +kernel
theorem dX7_tellWalk_113 : decode cX7_tellWalk 113 = .ok (.iload 5, 2) := by decide +kernel
theorem dX7_tellWalk_115 : decode cX7_tellWalk 115 = .ok (.ireturn, 1) := by decide +kernel
theorem dX7_tellWalk_116 : decode cX7_tellWalk 116 = .ok (.iload_n 2, 1) := by decide +kernel
theorem dX7_tellWalk_117 : decode cX7_tellWalk 117 = .ok (.iconst 1, 1) := by decide +kernel
theorem dX7_tellWalk_118 : decode cX7_tellWalk 118 = .ok (.if_icmp .ne 8, 3) := by decide +kernel
theorem dX7_tellWalk_121 : decode cX7_tellWalk 121 = .ok (.iload 6, 2) := by decide +kernel
theorem dX7_tellWalk_123 : decode cX7_tellWalk 123 = .ok (.goto 5, 3) := by decide +kernel
theorem dX7_tellWalk_126 : decode cX7_tellWalk 126 = .ok (.iload 7, 2) := by decide +kernel
theorem dX7_tellWalk_128 : decode cX7_tellWalk 128 = .ok (.ireturn, 1) := by decide +kernel
theorem dX8_init_0 : decode cX8_init 0 = .ok (.aload_n 0, 1) := by decide +kernel
theorem dX8_init_1 : decode cX8_init 1 = .ok (.invokespecial 3, 3) := by decide +kernel
theorem dX8_init_4 : decode cX8_init 4 = .ok (.aload_n 0, 1) := by decide +kernel
theorem dX8_init_5 : decode cX8_init 5 = .ok (.sipush 160, 3) := by decide +kernel
theorem dX8_init_8 : decode cX8_init 8 = .ok (.newarray .int, 2) := by decide +kernel
theorem dX8_init_10 : decode cX8_init 10 = .ok (.putfield 9, 3) := by decide +kernel
theorem dX8_init_13 : decode cX8_init 13 = .ok (.aload_n 0, 1) := by decide +kernel
theorem dX8_init_14 : decode cX8_init 14 = .ok (.iconst 0, 1) := by decide +kernel
theorem dX8_init_15 : decode cX8_init 15 = .ok (.putfield 15, 3) := by decide +kernel
theorem dX8_init_18 : decode cX8_init 18 = .ok (.return_, 1) := by decide +kernel
theorem dX8_length_0 : decode cX8_length 0 = .ok (.aload_n 0, 1) := by decide +kernel
theorem dX8_length_1 : decode cX8_length 1 = .ok (.getfield 15, 3) := by decide +kernel
theorem dX8_length_4 : decode cX8_length 4 = .ok (.ireturn, 1) := by decide +kernel
theorem dX8_isFull_0 : decode cX8_isFull 0 = .ok (.aload_n 0, 1) := by decide +kernel
theorem dX8_isFull_1 : decode cX8_isFull 1 = .ok (.getfield 15, 3) := by decide +kernel
theorem dX8_isFull_4 : decode cX8_isFull 4 = .ok (.sipush 160, 3) := by decide +kernel
theorem dX8_isFull_7 : decode cX8_isFull 7 = .ok (.if_icmp .lt 7, 3) := by decide +kernel
theorem dX8_isFull_10 : decode cX8_isFull 10 = .ok (.iconst 1, 1) := by decide +kernel
theorem dX8_isFull_11 : decode cX8_isFull 11 = .ok (.goto 4, 3) := by decide +kernel
theorem dX8_isFull_14 : decode cX8_isFull 14 = .ok (.iconst 0, 1) := by decide +kernel
theorem dX8_isFull_15 : decode cX8_isFull 15 = .ok (.ireturn, 1) := by decide +kernel
theorem dX8_codeAt_0 : decode cX8_codeAt 0 = .ok (.iload_n 1, 1) := by decide +kernel
theorem dX8_codeAt_1 : decode cX8_codeAt 1 = .ok (.ifCond .lt 27, 3) := by decide +kernel
theorem dX8_codeAt_4 : decode cX8_codeAt 4 = .ok (.iload_n 1, 1) := by decide +kernel
theorem dX8_codeAt_5 : decode cX8_codeAt 5 = .ok (.aload_n 0, 1) := by decide +kernel
theorem dX8_codeAt_6 : decode cX8_codeAt 6 = .ok (.getfield 15, 3) := by decide +kernel
theorem dX8_codeAt_9 : decode cX8_codeAt 9 = .ok (.if_icmp .ge 19, 3) := by decide +kernel
theorem dX8_codeAt_12 : decode cX8_codeAt 12 = .ok (.iload_n 1, 1) := by decide +kernel
theorem dX8_codeAt_13 : decode cX8_codeAt 13 = .ok (.sipush 160, 3) := by decide +kernel
theorem dX8_codeAt_16 : decode cX8_codeAt 16 = .ok (.if_icmp .ge 12, 3) := by decide +kernel
theorem dX8_codeAt_19 : decode cX8_codeAt 19 = .ok (.aload_n 0, 1) := by decide +kernel
theorem dX8_codeAt_20 : decode cX8_codeAt 20 = .ok (.getfield 9, 3) := by decide +kernel
theorem dX8_codeAt_23 : decode cX8_codeAt 23 = .ok (.iload_n 1, 1) := by decide +kernel
theorem dX8_codeAt_24 : decode cX8_codeAt 24 = .ok (.iaload, 1) := by decide +kernel
theorem dX8_codeAt_25 : decode cX8_codeAt 25 = .ok (.goto 4, 3) := by decide +kernel
theorem dX8_codeAt_28 : decode cX8_codeAt 28 = .ok (.iconst (-1), 1) := by decide +kernel
theorem dX8_codeAt_29 : decode cX8_codeAt 29 = .ok (.ireturn, 1) := by decide +kernel
set_option maxRecDepth 20000 in
theorem ggX8_add_X8_isFull : GoodIn wsX8_add wsX8_isFull := goodIn_r _ [7, 2, 8, 9] (by decide +kernel) (by decide +kernel)
set_option maxRecDepth 20000 in
theorem gX8_add_X8_isFull : GoodIn wsX8_add (wsV RX8 19 RX8 yX8_isFull wsX8_isFull) := goodIn_app (goodIn_of _ (by decide +kernel)) ggX8_add_X8_isFull
theorem dX8_add_0 : decode cX8_add 0 = .ok (.aload_n 0, 1) := by decide +kernel
theorem dX8_add_1 : decode cX8_add 1 = .ok (.invokevirtual 19, 3) := by decide +kernel
theorem dX8_add_4 : decode cX8_add 4 = .ok (.ifCond .ne 23, 3) := by decide +kernel
theorem dX8_add_7 : decode cX8_add 7 = .ok (.aload_n 0, 1) := by decide +kernel
theorem dX8_add_8 : decode cX8_add 8 = .ok (.getfield 9, 3) := by decide +kernel
theorem dX8_add_11 : decode cX8_add 11 = .ok (.aload_n 0, 1) := by decide +kernel
theorem dX8_add_12 : decode cX8_add 12 = .ok (.getfield 15, 3) := by decide +kernel
theorem dX8_add_15 : decode cX8_add 15 = .ok (.iload_n 1, 1) := by decide +kernel
theorem dX8_add_16 : decode cX8_add 16 = .ok (.iastore, 1) := by decide +kernel
theorem dX8_add_17 : decode cX8_add 17 = .ok (.aload_n 0, 1) := by decide +kernel
theorem dX8_add_18 : decode cX8_add 18 = .ok (.dup, 1) := by decide +kernel
theorem dX8_add_19 : decode cX8_add 19 = .ok (.getfield 15, 3) := by decide +kernel
theorem dX8_add_22 : decode cX8_add 22 = .ok (.iconst 1, 1) := by decide +kernel
theorem dX8_add_23 : decode cX8_add 23 = .ok (.iadd, 1) := by decide +kernel
theorem dX8_add_24 : decode cX8_add 24 = .ok (.putfield 15, 3) := by decide +kernel
theorem dX8_add_27 : decode cX8_add 27 = .ok (.return_, 1) := by decide +kernel
theorem dX8_empty_0 : decode cX8_empty 0 = .ok (.aload_n 0, 1) := by decide +kernel
theorem dX8_empty_1 : decode cX8_empty 1 = .ok (.iconst 0, 1) := by decide +kernel
theorem dX8_empty_2 : decode cX8_empty 2 = .ok (.putfield 15, 3) := by decide +kernel
theorem dX8_empty_5 : decode cX8_empty 5 = .ok (.return_, 1) := by decide +kernel
set_option maxRecDepth 20000 in
theorem ggX9_init_X2_init : GoodIn wsX9_init wsX2_init := goodIn_r _ [35, 36, 2, 3, 37, 38, 39, 40, 41, 42, 43, 44, 45, 46, 47, 48, 49, 50, 51, 117, 89, 90] (by decide +kernel) (by decide +kernel)
set_option maxRecDepth 20000 in
theorem gX9_init_X2_init_n11 : GoodIn wsX9_init (wsX2_init) := ggX9_init_X2_init
set_option maxRecDepth 20000 in
theorem ggX9_init_X3_init : GoodIn wsX9_init wsX3_init := goodIn_r _ [53, 54, 2, 3, 46, 55, 56, 57, 100, 101, 102] (by decide +kernel) (by decide +kernel)
set_option maxRecDepth 20000 in
theorem gX9_init_X3_init_n21 : GoodIn wsX9_init (wsX3_init) := ggX9_init_X3_init
set_option maxRecDepth 20000 in
theorem ggX9_init_X8_init : GoodIn wsX9_init wsX8_init := goodIn_r _ [59, 60, 2, 3, 46, 61, 62, 103, 104] (by decide +kernel) (by decide +kernel)
set_option maxRecDepth 20000 in
theorem gX9_init_X8_init_n28 : GoodIn wsX9_init (wsX8_init) := ggX9_init_X8_init
set_option maxRecDepth 20000 in
theorem ggX9_init_X4_init : GoodIn wsX9_init wsX4_init := goodIn_r _ [64, 65, 2, 3, 66, 5, 6, 67, 68, 69, 70, 71, 72, 34, 35, 36, 37, 38, 39, 40, 41, 42, 43, 44, 45, 46, 47, 48, 49, 50, 51, 89, 90, 105, 106, 107, 108, 109, 110, 117] (by decide +kernel) (by decide +kernel)
set_option maxRecDepth 20000 in
theorem gX9_init_X4_init_n35 : GoodIn wsX9_init (wsX4_init) := ggX9_init_X4_init
set_option maxRecDepth 20000 in
theorem ggX9_init_X6_init : GoodIn wsX9_init wsX6_init := goodIn_r _ [74, 75, 2, 3, 76, 5, 6, 77, 78, 34, 35, 36, 37, 38, 39, 40, 41, 42, 43, 44, 45, 46, 47, 48, 49, 50, 51, 89, 90, 111, 112, 117] (by decide +kernel) (by decide +kernel)
set_option maxRecDepth 20000 in
theorem gX9_init_X6_init_n42 : GoodIn wsX9_init (wsX6_init) := ggX9_init_X6_init
set_option maxRecDepth 20000 in
theorem ggX9_init_X1_init : GoodIn wsX9_init wsX1_init := goodIn_r _ [80, 81, 2, 3, 46, 82, 83, 84, 113, 114, 115] (by decide +kernel) (by decide +kernel)
set_option maxRecDepth 20000 in
theorem gX9_init_X1_init_n52 : GoodIn wsX9_init (wsX1_init) := ggX9_init_X1_init
set_option maxRecDepth 20000 in
theorem ggX9_init_X0_init : GoodIn wsX9_init wsX0_init := goodIn_r _ [86, 87, 2, 3, 46, 88, 116] (by decide +kernel) (by decide +kernel)
set_option maxRecDepth 20000 in
theorem gX9_init_X0_init_n59 : GoodIn wsX9_init (wsX0_init) := ggX9_init_X0_init
theorem dX9_init_0 : decode cX9_init 0 = .ok (.aload_n 0, 1) := by decide +kernel
theorem dX9_init_1 : decode cX9_init 1 = .ok (.invokespecial 3, 3) := by decide +kernel
theorem dX9_init_4 : decode cX9_init 4 = .ok (.aload_n 0, 1) := by decide +kernel
theorem dX9_init_5 : decode cX9_init 5 = .ok (.new 9, 3) := by decide +kernel
theorem dX9_init_8 : decode cX9_init 8 = .ok (.dup, 1) := by decide +kernel
theorem dX9_init_9 : decode cX9_init 9 = .ok (.invokespecial 11, 3) := by decide +kernel
theorem dX9_init_12 : decode cX9_init 12 = .ok (.putfield 12, 3) := by decide +kernel
theorem dX9_init_15 : decode cX9_init 15 = .ok (.aload_n 0, 1) := by decide +kernel
theorem dX9_init_16 : decode cX9_init 16 = .ok (.new 9, 3) := by decide +kernel
theorem dX9_init_19 : decode cX9_init 19 = .ok (.dup, 1) := by decide +kernel
theorem dX9_init_20 : decode cX9_init 20 = .ok (.invokespecial 11, 3) := by decide +kernel
theorem dX9_init_23 : decode cX9_init 23 = .ok (.putfield 16, 3) := by decide +kernel
theorem dX9_init_26 : decode cX9_init 26 = .ok (.aload_n 0, 1) := by decide +kernel
theorem dX9_init_27 : decode cX9_init 27 = .ok (.new 19, 3) := by decide +kernel
theorem dX9_init_30 : decode cX9_init 30 = .ok (.dup, 1) := by decide +kernel
theorem dX9_init_31 : decode cX9_init 31 = .ok (.invokespecial 21, 3) := by decide +kernel
theorem dX9_init_34 : decode cX9_init 34 = .ok (.putfield 22, 3) := by decide +kernel
theorem dX9_init_37 : decode cX9_init 37 = .ok (.aload_n 0, 1) := by decide +kernel
theorem dX9_init_38 : decode cX9_init 38 = .ok (.new 26, 3) := by decide +kernel
theorem dX9_init_41 : decode cX9_init 41 = .ok (.dup, 1) := by decide +kernel
theorem dX9_init_42 : decode cX9_init 42 = .ok (.invokespecial 28, 3) := by decide +kernel
theorem dX9_init_45 : decode cX9_init 45 = .ok (.putfield 29, 3) := by decide +kernel
theorem dX9_init_48 : decode cX9_init 48 = .ok (.aload_n 0, 1) := by decide +kernel
theorem dX9_init_49 : decode cX9_init 49 = .ok (.new 33, 3) := by decide +kernel
theorem dX9_init_52 : decode cX9_init 52 = .ok (.dup, 1) := by decide +kernel
theorem dX9_init_53 : decode cX9_init 53 = .ok (.invokespecial 35, 3) := by decide +kernel
theorem dX9_init_56 : decode cX9_init 56 = .ok (.putfield 36, 3) := by decide +kernel
theorem dX9_init_59 : decode cX9_init 59 = .ok (.aload_n 0, 1) := by decide +kernel
theorem dX9_init_60 : decode cX9_init 60 = .ok (.new 40, 3) := by decide +kernel
theorem dX9_init_63 : decode cX9_init 63 = .ok (.dup, 1) := by decide +kernel
theorem dX9_init_64 : decode cX9_init 64 = .ok (.invokespecial 42, 3) := by decide +kernel
theorem dX9_init_67 : decode cX9_init 67 = .ok (.putfield 43, 3) := by decide +kernel
theorem dX9_init_70 : decode cX9_init 70 = .ok (.aload_n 0, 1) := by decide +kernel
theorem dX9_init_71 : decode cX9_init 71 = .ok (.new 40, 3) := by decide +kernel
theorem dX9_init_74 : decode cX9_init 74 = .ok (.dup, 1) := by decide +kernel
theorem dX9_init_75 : decode cX9_init 75 = .ok (.invokespecial 42, 3) := by decide +kernel
theorem dX9_init_78 : decode cX9_init 78 = .ok (.putfield 47, 3) := by decide +kernel
theorem dX9_init_81 : decode cX9_init 81 = .ok (.aload_n 0, 1) := by decide +kernel
theorem dX9_init_82 : decode cX9_init 82 = .ok (.new 50, 3) := by decide +kernel
theorem dX9_init_85 : decode cX9_init 85 = .ok (.dup, 1) := by decide +kernel
theorem dX9_init_86 : decode cX9_init 86 = .ok (.invokespecial 52, 3) := by decide +kernel
theorem dX9_init_89 : decode cX9_init 89 = .ok (.putfield 53, 3) := by decide +kernel
theorem dX9_init_92 : decode cX9_init 92 = .ok (.aload_n 0, 1) := by decide +kernel
theorem dX9_init_93 : decode cX9_init 93 = .ok (.new 57, 3) := by decide +kernel
theorem dX9_init_96 : decode cX9_init 96 = .ok (.dup, 1) := by decide +kernel
theorem dX9_init_97 : decode cX9_init 97 = .ok (.invokespecial 59, 3) := by decide +kernel
theorem dX9_init_100 : decode cX9_init 100 = .ok (.putfield 60, 3) := by decide +kernel
theorem dX9_init_103 : decode cX9_init 103 = .ok (.return_, 1) := by decide +kernel
set_option maxRecDepth 20000 in
theorem ggX9_append_X9_requireRange : GoodIn wsX9_append wsX9_requireRange := goodIn_ca (goodIn_r _ [7, 8, 9] (by decide +kernel) (by decide +kernel)) (goodIn_sub (fun _ h => List.mem_cons_of_mem _ (List.mem_append_right _ h)) (by decide +kernel))
set_option maxRecDepth 20000 in
theorem gX9_append_X9_requireRange : GoodIn wsX9_append (va_wsS RX9 64 yX9_requireRange wsX9_requireRange) := goodIn_app (goodIn_of _ (by decide +kernel)) ggX9_append_X9_requireRange
set_option maxRecDepth 20000 in
theorem ggX9_append_X8_isFull : GoodIn wsX9_append wsX8_isFull := goodIn_r _ [14, 15, 35, 36] (by decide +kernel) (by decide +kernel)
set_option maxRecDepth 20000 in
theorem gX9_append_X8_isFull : GoodIn wsX9_append (wsV RX9 68 RX8 yX8_isFull wsX8_isFull) := goodIn_app (goodIn_of _ (by decide +kernel)) ggX9_append_X8_isFull
set_option maxRecDepth 20000 in
theorem ggX9_append_X8_add : GoodIn wsX9_append wsX8_add := goodIn_r _ [19, 20, 15, 21, 11, 12, 13, 14, 35, 36] (by decide +kernel) (by decide +kernel)
set_option maxRecDepth 20000 in
theorem gX9_append_X8_add : GoodIn wsX9_append (wsV RX9 79 RX8 yX8_add wsX8_add) := goodIn_app (goodIn_of _ (by decide +kernel)) ggX9_append_X8_add
set_option maxRecDepth 20000 in
theorem ggX9_append_X8_length : GoodIn wsX9_append wsX8_length := goodIn_r _ [25, 15, 35, 36] (by decide +kernel) (by decide +kernel)
set_option maxRecDepth 20000 in
theorem gX9_append_X8_length : GoodIn wsX9_append (wsV RX9 83 RX8 yX8_length wsX8_length) := goodIn_app (goodIn_of _ (by decide +kernel)) ggX9_append_X8_length
theorem dX9_append_0 : decode cX9_append 0 = .ok (.iload_n 1, 1) := by decide +kernel
theorem dX9_append_1 : decode cX9_append 1 = .ok (.iconst 0, 1) := by decide +kernel
theorem dX9_append_2 : decode cX9_append 2 = .ok (.sipush 255, 3) := by decide +kernel
theorem dX9_append_5 : decode cX9_append 5 = .ok (.invokestatic 64, 3) := by decide +kernel
theorem dX9_append_8 : decode cX9_append 8 = .ok (.aload_n 0, 1) := by decide +kernel
theorem dX9_append_9 : decode cX9_append 9 = .ok (.getfield 29, 3) := by decide +kernel
theorem dX9_append_12 : decode cX9_append 12 = .ok (.invokevirtual 68, 3) := by decide +kernel
theorem dX9_append_15 : decode cX9_append 15 = .ok (.ifCond .eq 13, 3) := by decide +kernel
theorem dX9_append_18 : decode cX9_append 18 = .ok (.new 72, 3) := by decide +kernel
theorem dX9_append_21 : decode cX9_append 21 = .ok (.dup, 1) := by decide +kernel
theorem dX9_append_22 : decode cX9_append 22 = .ok (.ldc 74, 2) := by decide +kernel
theorem dX9_append_24 : decode cX9_append 24 = .ok (.invokespecial 76, 3) := by decide +kernel
theorem dX9_append_27 : decode cX9_append 27 = .ok (.athrow, 1) := by decide +kernel
theorem dX9_append_28 : decode cX9_append 28 = .ok (.aload_n 0, 1) := by decide +kernel
theorem dX9_append_29 : decode cX9_append 29 = .ok (.getfield 29, 3) := by decide +kernel
theorem dX9_append_32 : decode cX9_append 32 = .ok (.iload_n 1, 1) := by decide +kernel
theorem dX9_append_33 : decode cX9_append 33 = .ok (.invokevirtual 79, 3) := by decide +kernel
theorem dX9_append_36 : decode cX9_append 36 = .ok (.aload_n 0, 1) := by decide +kernel
theorem dX9_append_37 : decode cX9_append 37 = .ok (.getfield 29, 3) := by decide +kernel
theorem dX9_append_40 : decode cX9_append 40 = .ok (.invokevirtual 83, 3) := by decide +kernel
theorem dX9_append_43 : decode cX9_append 43 = .ok (.ireturn, 1) := by decide +kernel
set_option maxRecDepth 20000 in
theorem ggX9_clearText_X8_length : GoodIn wsX9_clearText wsX8_length := goodIn_r _ [6, 7, 21, 22] (by decide +kernel) (by decide +kernel)
set_option maxRecDepth 20000 in
theorem gX9_clearText_X8_length : GoodIn wsX9_clearText (wsV RX9 83 RX8 yX8_length wsX8_length) := goodIn_app (goodIn_of _ (by decide +kernel)) ggX9_clearText_X8_length
set_option maxRecDepth 20000 in
theorem ggX9_clearText_X8_empty : GoodIn wsX9_clearText wsX8_empty := goodIn_r _ [11, 7, 21, 22] (by decide +kernel) (by decide +kernel)
set_option maxRecDepth 20000 in
theorem gX9_clearText_X8_empty : GoodIn wsX9_clearText (wsV RX9 87 RX8 yX8_empty wsX8_empty) := goodIn_app (goodIn_of _ (by decide +kernel)) ggX9_clearText_X8_empty
theorem dX9_clearText_0 : decode cX9_clearText 0 = .ok (.aload_n 0, 1) := by decide +kernel
theorem dX9_clearText_1 : decode cX9_clearText 1 = .ok (.getfield 29, 3) := by decide +kernel
theorem dX9_clearText_4 : decode cX9_clearText 4 = .ok (.invokevirtual 83, 3) := by decide +kernel
theorem dX9_clearText_7 : decode cX9_clearText 7 = .ok (.istore_n 1, 1) := by decide +kernel
theorem dX9_clearText_8 : decode cX9_clearText 8 = .ok (.aload_n 0, 1) := by decide +kernel
theorem dX9_clearText_9 : decode cX9_clearText 9 = .ok (.getfield 29, 3) := by decide +kernel
theorem dX9_clearText_12 : decode cX9_clearText 12 = .ok (.invokevirtual 87, 3) := by decide +kernel
theorem dX9_clearText_15 : decode cX9_clearText 15 = .ok (.iload_n 1, 1) := by decide +kernel
theorem dX9_clearText_16 : decode cX9_clearText 16 = .ok (.ireturn, 1) := by decide +kernel
set_option maxRecDepth 20000 in
theorem ggX9_errorPosition_X4_read : GoodIn wsX9_errorPosition wsX4_read := goodIn_r _ [7, 8, 9, 10, 11, 12, 13, 14, 15, 16, 17, 18, 19, 20, 21, 22, 23, 24, 25, 26, 6, 27, 28, 29, 30, 31, 32, 33, 34, 35, 36, 37, 38, 39, 40, 41, 42, 43, 44, 45, 46, 47, 48, 49, 50, 51, 52, 53, 54, 55, 56, 57, 58, 59, 60, 61, 62, 63, 64, 65, 66, 67, 68, 69, 70, 71, 72, 73, 74, 75, 76, 77, 78, 79, 80, 81, 82, 83, 84, 85, 86, 87, 88, 89, 99, 100, 101, 102, 103, 104, 105, 106, 107, 108, 109] (by decide +kernel) (by decide +kernel)
set_option maxRecDepth 20000 in
theorem gX9_errorPosition_X4_read : GoodIn wsX9_errorPosition (wsV RX9 90 RX4 yX4_read wsX4_read) := goodIn_app (goodIn_of _ (by decide +kernel)) ggX9_errorPosition_X4_read
theorem dX9_errorPosition_0 : decode cX9_errorPosition 0 = .ok (.aload_n 0, 1) := by decide +kernel
theorem dX9_errorPosition_1 : decode cX9_errorPosition 1 = .ok (.getfield 36, 3) := by decide +kernel
theorem dX9_errorPosition_4 : decode cX9_errorPosition 4 = .ok (.aload_n 0, 1) := by decide +kernel
theorem dX9_errorPosition_5 : decode cX9_errorPosition 5 = .ok (.getfield 29, 3) := by decide +kernel
theorem dX9_errorPosition_8 : decode cX9_errorPosition 8 = .ok (.invokevirtual 90, 3) := by decide +kernel
theorem dX9_errorPosition_11 : decode cX9_errorPosition 11 = .ok (.ireturn, 1) := by decide +kernel
set_option maxRecDepth 20000 in
theorem ggX9_load_X4_read : GoodIn wsX9_load wsX4_read := goodIn_r _ [13, 14, 15, 16, 17, 18, 19, 20, 21, 22, 23, 24, 25, 26, 27, 28, 29, 30, 31, 32, 12, 33, 34, 35, 36, 37, 38, 39, 40, 41, 42, 43, 44, 45, 46, 47, 48, 49, 50, 51, 52, 53, 54, 55, 56, 57, 58, 59, 60, 61, 62, 63, 64, 65, 66, 67, 68, 69, 70, 71, 72, 73, 74, 75, 76, 77, 78, 79, 80, 81, 82, 83, 84, 85, 86, 87, 88, 89, 90, 91, 92, 93, 94, 95, 142, 143, 144, 145, 146, 147, 148, 149, 150, 151, 152] (by decide +kernel) (by decide +kernel)
set_option maxRecDepth 20000 in
theorem gX9_load_X4_read : GoodIn wsX9_load (wsV RX9 90 RX4 yX4_read wsX4_read) := goodIn_app (goodIn_of _ (by decide +kernel)) ggX9_load_X4_read
set_option maxRecDepth 20000 in
theorem ggX9_load_X4_tables : GoodIn wsX9_load wsX4_tables := goodIn_r _ [99, 14, 142, 143, 144, 145, 146, 147] (by decide +kernel) (by decide +kernel)
set_option maxRecDepth 20000 in
theorem gX9_load_X4_tables : GoodIn wsX9_load (wsV RX9 96 RX4 yX4_tables wsX4_tables) := goodIn_app (goodIn_of _ (by decide +kernel)) ggX9_load_X4_tables
set_option maxRecDepth 20000 in
theorem ggX9_load_X2_copyFrom : GoodIn wsX9_load wsX2_copyFrom := goodIn_r _ [103, 22, 23, 104, 105, 106, 27, 107, 29, 108, 109, 110, 111, 148, 149, 150] (by decide +kernel) (by decide +kernel)
set_option maxRecDepth 20000 in
theorem gX9_load_X2_copyFrom : GoodIn wsX9_load (wsV RX9 100 RX2 yX2_copyFrom wsX2_copyFrom) := goodIn_app (goodIn_of _ (by decide +kernel)) ggX9_load_X2_copyFrom
set_option maxRecDepth 20000 in
theorem ggX9_load_X3_forgetAll : GoodIn wsX9_load wsX3_forgetAll := goodIn_r _ [116, 117, 153, 154, 155] (by decide +kernel) (by decide +kernel)
set_option maxRecDepth 20000 in
theorem gX9_load_X3_forgetAll : GoodIn wsX9_load (wsV RX9 104 RX3 yX3_forgetAll wsX3_forgetAll) := goodIn_app (goodIn_of _ (by decide +kernel)) ggX9_load_X3_forgetAll
set_option maxRecDepth 20000 in
theorem ggX9_load_X6_empty : GoodIn wsX9_load wsX6_empty := goodIn_r _ [122, 123, 156, 157] (by decide +kernel) (by decide +kernel)
set_option maxRecDepth 20000 in
theorem gX9_load_X6_empty : GoodIn wsX9_load (wsV RX9 107 RX6 yX6_empty wsX6_empty) := goodIn_app (goodIn_of _ (by decide +kernel)) ggX9_load_X6_empty
set_option maxRecDepth 20000 in
theorem ggX9_load_X2_cells : GoodIn wsX9_load wsX2_cells := goodIn_r _ [127, 22, 23, 128, 129, 130, 27, 131, 132, 61, 62, 63, 29, 148, 149, 150] (by decide +kernel) (by decide +kernel)
set_option maxRecDepth 20000 in
theorem gX9_load_X2_cells : GoodIn wsX9_load (wsV RX9 108 RX2 yX2_cells wsX2_cells) := goodIn_app (goodIn_of _ (by decide +kernel)) ggX9_load_X2_cells
theorem dX9_load_0 : decode cX9_load 0 = .ok (.aload_n 0, 1) := by decide +kernel
theorem dX9_load_1 : decode cX9_load 1 = .ok (.getfield 36, 3) := by decide +kernel
theorem dX9_load_4 : decode cX9_load 4 = .ok (.aload_n 0, 1) := by decide +kernel
theorem dX9_load_5 : decode cX9_load 5 = .ok (.getfield 29, 3) := by decide +kernel
theorem dX9_load_8 : decode cX9_load 8 = .ok (.invokevirtual 90, 3) := by decide +kernel
theorem dX9_load_11 : decode cX9_load 11 = .ok (.bipush (-9), 2) := by decide +kernel
theorem dX9_load_13 : decode cX9_load 13 = .ok (.if_icmp .eq 13, 3) := by decide +kernel
theorem dX9_load_16 : decode cX9_load 16 = .ok (.new 72, 3) := by decide +kernel
theorem dX9_load_19 : decode cX9_load 19 = .ok (.dup, 1) := by decide +kernel
theorem dX9_load_20 : decode cX9_load 20 = .ok (.ldc 94, 2) := by decide +kernel
theorem dX9_load_22 : decode cX9_load 22 = .ok (.invokespecial 76, 3) := by decide +kernel
theorem dX9_load_25 : decode cX9_load 25 = .ok (.athrow, 1) := by decide +kernel
theorem dX9_load_26 : decode cX9_load 26 = .ok (.aload_n 0, 1) := by decide +kernel
theorem dX9_load_27 : decode cX9_load 27 = .ok (.getfield 12, 3) := by decide +kernel
theorem dX9_load_30 : decode cX9_load 30 = .ok (.aload_n 0, 1) := by decide +kernel
theorem dX9_load_31 : decode cX9_load 31 = .ok (.getfield 36, 3) := by decide +kernel
theorem dX9_load_34 : decode cX9_load 34 = .ok (.invokevirtual 96, 3) := by decide +kernel
theorem dX9_load_37 : decode cX9_load 37 = .ok (.invokevirtual 100, 3) := by decide +kernel
theorem dX9_load_40 : decode cX9_load 40 = .ok (.aload_n 0, 1) := by decide +kernel
theorem dX9_load_41 : decode cX9_load 41 = .ok (.getfield 22, 3) := by decide +kernel
theorem dX9_load_44 : decode cX9_load 44 = .ok (.invokevirtual 104, 3) := by decide +kernel
theorem dX9_load_47 : decode cX9_load 47 = .ok (.aload_n 0, 1) := by decide +kernel
theorem dX9_load_48 : decode cX9_load 48 = .ok (.getfield 43, 3) := by decide +kernel
theorem dX9_load_51 : decode cX9_load 51 = .ok (.invokevirtual 107, 3) := by decide +kernel
theorem dX9_load_54 : decode cX9_load 54 = .ok (.aload_n 0, 1) := by decide +kernel
theorem dX9_load_55 : decode cX9_load 55 = .ok (.getfield 47, 3) := by decide +kernel
theorem dX9_load_58 : decode cX9_load 58 = .ok (.invokevirtual 107, 3) := by decide +kernel
theorem dX9_load_61 : decode cX9_load 61 = .ok (.aload_n 0, 1) := by decide +kernel
theorem dX9_load_62 : decode cX9_load 62 = .ok (.getfield 12, 3) := by decide +kernel
theorem dX9_load_65 : decode cX9_load 65 = .ok (.invokevirtual 108, 3) := by decide +kernel
theorem dX9_load_68 : decode cX9_load 68 = .ok (.ireturn, 1) := by decide +kernel
set_option maxRecDepth 20000 in
theorem ggX9_about_X9_existingTable : GoodIn wsX9_about wsX9_existingTable := goodIn_ca (goodIn_r _ [5, 6, 7, 8, 9, 10, 11, 12, 13, 14, 15, 73, 74, 75, 76, 77, 78, 79, 80, 81, 82, 83] (by decide +kernel) (by decide +kernel)) (goodIn_sub (fun _ h => List.mem_cons_of_mem _ (List.mem_append_left _ (List.mem_append_right _ h))) (by decide +kernel))
set_option maxRecDepth 20000 in
theorem gX9_about_X9_existingTable : GoodIn wsX9_about (wsV RX9 111 RX9 yX9_existingTable wsX9_existingTable) := goodIn_app (goodIn_of _ (by decide +kernel)) ggX9_about_X9_existingTable
set_option maxRecDepth 20000 in
theorem ggX9_about_X9_requireRange : GoodIn wsX9_about wsX9_requireRange := goodIn_ca (goodIn_r _ [18, 19, 20] (by decide +kernel) (by decide +kernel)) (goodIn_sub (fun _ h => List.mem_cons_of_mem _ (List.mem_append_right _ h)) (by decide +kernel))
set_option maxRecDepth 20000 in
theorem gX9_about_X9_requireRange : GoodIn wsX9_about (va_wsS RX9 64 yX9_requireRange wsX9_requireRange) := goodIn_app (goodIn_of _ (by decide +kernel)) ggX9_about_X9_requireRange
set_option maxRecDepth 20000 in
theorem ggX9_about_X7_columnLength : GoodIn wsX9_about wsX7_columnLength := goodIn_r _ [25, 26, 27, 28, 24, 29, 30, 84] (by decide +kernel) (by decide +kernel)
set_option maxRecDepth 20000 in
theorem gX9_about_X7_columnLength : GoodIn wsX9_about (wsV RX9 115 RX7 yX7_columnLength wsX7_columnLength) := goodIn_app (goodIn_of _ (by decide +kernel)) ggX9_about_X7_columnLength
set_option maxRecDepth 20000 in
theorem ggX9_about_X7_rowLength : GoodIn wsX9_about wsX7_rowLength := goodIn_r _ [34, 30, 84] (by decide +kernel) (by decide +kernel)
set_option maxRecDepth 20000 in
theorem gX9_about_X7_rowLength : GoodIn wsX9_about (wsV RX9 121 RX7 yX7_rowLength wsX7_rowLength) := goodIn_app (goodIn_of _ (by decide +kernel)) ggX9_about_X7_rowLength
set_option maxRecDepth 20000 in
theorem ggX9_about_X7_cells : GoodIn wsX9_about wsX7_cells := goodIn_r _ [38, 39, 32, 33, 24, 34, 30, 84] (by decide +kernel) (by decide +kernel)
set_option maxRecDepth 20000 in
theorem gX9_about_X7_cells : GoodIn wsX9_about (wsV RX9 124 RX7 yX7_cells wsX7_cells) := goodIn_app (goodIn_of _ (by decide +kernel)) ggX9_about_X7_cells
set_option maxRecDepth 20000 in
theorem ggX9_about_X7_has : GoodIn wsX9_about wsX7_has := goodIn_r _ [43, 26, 27, 28, 24, 29, 30, 84] (by decide +kernel) (by decide +kernel)
set_option maxRecDepth 20000 in
theorem gX9_about_X7_has : GoodIn wsX9_about (wsV RX9 125 RX7 yX7_has wsX7_has) := goodIn_app (goodIn_of _ (by decide +kernel)) ggX9_about_X7_has
set_option maxRecDepth 20000 in
theorem ggX9_about_X7_at : GoodIn wsX9_about wsX7_at := goodIn_r _ [29, 30, 84] (by decide +kernel) (by decide +kernel)
set_option maxRecDepth 20000 in
theorem gX9_about_X7_at : GoodIn wsX9_about (wsV RX9 129 RX7 yX7_at wsX7_at) := goodIn_app (goodIn_of _ (by decide +kernel)) ggX9_about_X7_at
set_option maxRecDepth 20000 in
theorem ggX9_about_X7_greatest : GoodIn wsX9_about wsX7_greatest := goodIn_r _ [48, 30, 49, 50, 51, 52, 84] (by decide +kernel) (by decide +kernel)
set_option maxRecDepth 20000 in
theorem gX9_about_X7_greatest : GoodIn wsX9_about (wsV RX9 133 RX7 yX7_greatest wsX7_greatest) := goodIn_app (goodIn_of _ (by decide +kernel)) ggX9_about_X7_greatest
set_option maxRecDepth 20000 in
theorem ggX9_about_X7_sum : GoodIn wsX9_about wsX7_sum := goodIn_r _ [56, 30, 84] (by decide +kernel) (by decide +kernel)
set_option maxRecDepth 20000 in
theorem gX9_about_X7_sum : GoodIn wsX9_about (wsV RX9 136 RX7 yX7_sum wsX7_sum) := goodIn_app (goodIn_of _ (by decide +kernel)) ggX9_about_X7_sum
set_option maxRecDepth 20000 in
theorem ggX9_about_X7_ends : GoodIn wsX9_about wsX7_ends := goodIn_r _ [60, 61, 62, 63, 24, 64, 65, 66, 67, 68, 39, 32, 33, 34, 30, 69, 70, 71, 72, 84] (by decide +kernel) (by decide +kernel)
set_option maxRecDepth 20000 in
theorem gX9_about_X7_ends : GoodIn wsX9_about (wsV RX9 139 RX7 yX7_ends wsX7_ends) := goodIn_app (goodIn_of _ (by decide +kernel)) ggX9_about_X7_ends
theorem dX9_about_0 : decode cX9_about 0 = .ok (.aload_n 0, 1) := by decide +kernel
theorem dX9_about_1 : decode cX9_about 1 = .ok (.iload_n 1, 1) := by decide +kernel
theorem dX9_about_2 : decode cX9_about 2 = .ok (.invokevirtual 111, 3) := by decide +kernel
theorem dX9_about_5 : decode cX9_about 5 = .ok (.astore_n 3, 1) := by decide +kernel
theorem dX9_about_6 : decode cX9_about 6 = .ok (.iload_n 2, 1) := by decide +kernel
theorem dX9_about_7 : decode cX9_about 7 = .ok (.iconst 0, 1) := by decide +kernel
theorem dX9_about_8 : decode cX9_about 8 = .ok (.bipush 7, 2) := by decide +kernel
theorem dX9_about_10 : decode cX9_about 10 = .ok (.invokestatic 64, 3) := by decide +kernel
theorem dX9_about_13 : decode cX9_about 13 = .ok (.iload_n 2, 1) := by decide +kernel
theorem dX9_about_14 : decode cX9_about 14 = .ok (.tableswitch 96 0 6 #[42, 48, 54, 59, 80, 85, 90], 42) := by decide +kernel
theorem dX9_about_56 : decode cX9_about 56 = .ok (.aload_n 3, 1) := by decide +kernel
theorem dX9_about_57 : decode cX9_about 57 = .ok (.iconst 0, 1) := by decide +kernel
theorem dX9_about_58 : decode cX9_about 58 = .ok (.invokevirtual 115, 3) := by decide +kernel
theorem dX9_about_61 : decode cX9_about 61 = .ok (.ireturn, 1) := by decide +kernel
theorem dX9_about_62 : decode cX9_about 62 = .ok (.aload_n 3, 1) := by decide +kernel
theorem dX9_about_63 : decode cX9_about 63 = .ok (.iconst 0, 1) := by decide +kernel
theorem dX9_about_64 : decode cX9_about 64 = .ok (.invokevirtual 121, 3) := by decide +kernel
theorem dX9_about_67 : decode cX9_about 67 = .ok (.ireturn, 1) := by decide +kernel
theorem dX9_about_68 : decode cX9_about 68 = .ok (.aload_n 3, 1) := by decide +kernel
theorem dX9_about_69 : decode cX9_about 69 = .ok (.invokevirtual 124, 3) := by decide +kernel
theorem dX9_about_72 : decode cX9_about 72 = .ok (.ireturn, 1) := by decide +kernel
theorem dX9_about_73 : decode cX9_about 73 = .ok (.aload_n 3, 1) := by decide +kernel
theorem dX9_about_74 : decode cX9_about 74 = .ok (.iconst 0, 1) := by decide +kernel
theorem dX9_about_75 : decode cX9_about 75 = .ok (.iconst 0, 1) := by decide +kernel
theorem dX9_about_76 : decode cX9_about 76 = .ok (.invokevirtual 125, 3) := by decide +kernel
theorem dX9_about_79 : decode cX9_about 79 = .ok (.ifCond .eq 12, 3) := by decide +kernel
theorem dX9_about_82 : decode cX9_about 82 = .ok (.aload_n 3, 1) := by decide +kernel
theorem dX9_about_83 : decode cX9_about 83 = .ok (.iconst 0, 1) := by decide +kernel
theorem dX9_about_84 : decode cX9_about 84 = .ok (.iconst 0, 1) := by decide +kernel
theorem dX9_about_85 : decode cX9_about 85 = .ok (.invokevirtual 129, 3) := by decide +kernel
theorem dX9_about_88 : decode cX9_about 88 = .ok (.goto 5, 3) := by decide +kernel
theorem dX9_about_91 : decode cX9_about 91 = .ok (.bipush (-9), 2) := by decide +kernel
theorem dX9_about_93 : decode cX9_about 93 = .ok (.ireturn, 1) := by decide +kernel
theorem dX9_about_94 : decode cX9_about 94 = .ok (.aload_n 3, 1) := by decide +kernel
theorem dX9_about_95 : decode cX9_about 95 = .ok (.invokevirtual 133, 3) := by decide +kernel
theorem dX9_about_98 : decode cX9_about 98 = .ok (.ireturn, 1) := by decide +kernel
theorem dX9_about_99 : decode cX9_about 99 = .ok (.aload_n 3, 1) := by decide +kernel
theorem dX9_about_100 : decode cX9_about 100 = .ok (.invokevirtual 136, 3) := by decide +kernel
theorem dX9_about_103 : decode cX9_about 103 = .ok (.ireturn, 1) := by decide +kernel
theorem dX9_about_104 : decode cX9_about 104 = .ok (.aload_n 3, 1) := by decide +kernel
theorem dX9_about_105 : decode cX9_about 105 = .ok (.iconst 0, 1) := by decide +kernel
theorem dX9_about_106 : decode cX9_about 106 = .ok (.invokevirtual 139, 3) := by decide +kernel
theorem dX9_about_109 : decode cX9_about 109 = .ok (.ireturn, 1) := by decide +kernel
theorem dX9_about_110 : decode cX9_about 110 = .ok (.aload_n 3, 1) := by decide +kernel
theorem dX9_about_111 : decode cX9_about 111 = .ok (.iconst 1, 1) := by decide +kernel
theorem dX9_about_112 : decode cX9_about 112 = .ok (.invokevirtual 139, 3) := by decide +kernel
theorem dX9_about_115 : decode cX9_about 115 = .ok (.ireturn, 1) := by decide +kernel
set_option maxRecDepth 20000 in
theorem ggX9_cell_X9_tableWithCell : GoodIn wsX9_cell wsX9_tableWithCell := goodIn_ca (goodIn_r _ [5, 6, 7, 8, 9, 10, 4, 11, 12, 13, 14, 15, 16, 17, 18, 19, 20, 21, 22, 23, 24, 25, 26, 27, 28, 29, 31, 32, 33, 34, 35, 36, 37, 38, 39, 40, 41, 42] (by decide +kernel) (by decide +kernel)) (goodIn_sub (fun _ h => List.mem_cons_of_mem _ (List.mem_append_right _ h)) (by decide +kernel))
set_option maxRecDepth 20000 in
theorem gX9_cell_X9_tableWithCell : GoodIn wsX9_cell (wsV RX9 143 RX9 yX9_tableWithCell wsX9_tableWithCell) := goodIn_app (goodIn_of _ (by decide +kernel)) ggX9_cell_X9_tableWithCell
set_option maxRecDepth 20000 in
theorem ggX9_cell_X7_at : GoodIn wsX9_cell wsX7_at := goodIn_r _ [28, 29, 42] (by decide +kernel) (by decide +kernel)
set_option maxRecDepth 20000 in
theorem gX9_cell_X7_at : GoodIn wsX9_cell (wsV RX9 129 RX7 yX7_at wsX7_at) := goodIn_app (goodIn_of _ (by decide +kernel)) ggX9_cell_X7_at
theorem dX9_cell_0 : decode cX9_cell 0 = .ok (.aload_n 0, 1) := by decide +kernel
theorem dX9_cell_1 : decode cX9_cell 1 = .ok (.iload_n 1, 1) := by decide +kernel
theorem dX9_cell_2 : decode cX9_cell 2 = .ok (.iload_n 2, 1) := by decide +kernel
theorem dX9_cell_3 : decode cX9_cell 3 = .ok (.iload_n 3, 1) := by decide +kernel
theorem dX9_cell_4 : decode cX9_cell 4 = .ok (.invokevirtual 143, 3) := by decide +kernel
theorem dX9_cell_7 : decode cX9_cell 7 = .ok (.iload_n 2, 1) := by decide +kernel
theorem dX9_cell_8 : decode cX9_cell 8 = .ok (.iload_n 3, 1) := by decide +kernel
theorem dX9_cell_9 : decode cX9_cell 9 = .ok (.invokevirtual 129, 3) := by decide +kernel
theorem dX9_cell_12 : decode cX9_cell 12 = .ok (.ireturn, 1) := by decide +kernel
set_option maxRecDepth 20000 in
theorem ggX9_size_X9_existingTable : GoodIn wsX9_size wsX9_existingTable := goodIn_ca (goodIn_r _ [5, 6, 7, 8, 9, 10, 11, 12, 13, 14, 15, 35, 36, 37, 38, 39, 40, 41, 42, 43, 44, 45] (by decide +kernel) (by decide +kernel)) (goodIn_sub (fun _ h => List.mem_cons_of_mem _ (List.mem_append_left _ (List.mem_append_right _ h))) (by decide +kernel))
set_option maxRecDepth 20000 in
theorem gX9_size_X9_existingTable : GoodIn wsX9_size (wsV RX9 111 RX9 yX9_existingTable wsX9_existingTable) := goodIn_app (goodIn_of _ (by decide +kernel)) ggX9_size_X9_existingTable
set_option maxRecDepth 20000 in
theorem ggX9_size_X9_requireRange : GoodIn wsX9_size wsX9_requireRange := goodIn_ca (goodIn_r _ [18, 19, 20] (by decide +kernel) (by decide +kernel)) (goodIn_sub (fun _ h => List.mem_cons_of_mem _ (List.mem_append_right _ h)) (by decide +kernel))
set_option maxRecDepth 20000 in
theorem gX9_size_X9_requireRange : GoodIn wsX9_size (va_wsS RX9 64 yX9_requireRange wsX9_requireRange) := goodIn_app (goodIn_of _ (by decide +kernel)) ggX9_size_X9_requireRange
set_option maxRecDepth 20000 in
theorem ggX9_size_X7_columnLength : GoodIn wsX9_size wsX7_columnLength := goodIn_r _ [25, 26, 27, 28, 24, 29, 30, 46] (by decide +kernel) (by decide +kernel)
set_option maxRecDepth 20000 in
theorem gX9_size_X7_columnLength : GoodIn wsX9_size (wsV RX9 115 RX7 yX7_columnLength wsX7_columnLength) := goodIn_app (goodIn_of _ (by decide +kernel)) ggX9_size_X7_columnLength
set_option maxRecDepth 20000 in
theorem ggX9_size_X7_rowLength : GoodIn wsX9_size wsX7_rowLength := goodIn_r _ [34, 30, 46] (by decide +kernel) (by decide +kernel)
set_option maxRecDepth 20000 in
theorem gX9_size_X7_rowLength : GoodIn wsX9_size (wsV RX9 121 RX7 yX7_rowLength wsX7_rowLength) := goodIn_app (goodIn_of _ (by decide +kernel)) ggX9_size_X7_rowLength
theorem dX9_size_0 : decode cX9_size 0 = .ok (.aload_n 0, 1) := by decide +kernel
theorem dX9_size_1 : decode cX9_size 1 = .ok (.iload_n 1, 1) := by decide +kernel
theorem dX9_size_2 : decode cX9_size 2 = .ok (.invokevirtual 111, 3) := by decide +kernel
theorem dX9_size_5 : decode cX9_size 5 = .ok (.astore 4, 2) := by decide +kernel
theorem dX9_size_7 : decode cX9_size 7 = .ok (.iload_n 2, 1) := by decide +kernel
theorem dX9_size_8 : decode cX9_size 8 = .ok (.iconst 0, 1) := by decide +kernel
theorem dX9_size_9 : decode cX9_size 9 = .ok (.iconst 5, 1) := by decide +kernel
theorem dX9_size_10 : decode cX9_size 10 = .ok (.invokestatic 64, 3) := by decide +kernel
theorem dX9_size_13 : decode cX9_size 13 = .ok (.iload_n 3, 1) := by decide +kernel
theorem dX9_size_14 : decode cX9_size 14 = .ok (.ifCond .eq 12, 3) := by decide +kernel
theorem dX9_size_17 : decode cX9_size 17 = .ok (.aload 4, 2) := by decide +kernel
theorem dX9_size_19 : decode cX9_size 19 = .ok (.iload_n 2, 1) := by decide +kernel
theorem dX9_size_20 : decode cX9_size 20 = .ok (.invokevirtual 115, 3) := by decide +kernel
theorem dX9_size_23 : decode cX9_size 23 = .ok (.goto 9, 3) := by decide +kernel
theorem dX9_size_26 : decode cX9_size 26 = .ok (.aload 4, 2) := by decide +kernel
theorem dX9_size_28 : decode cX9_size 28 = .ok (.iload_n 2, 1) := by decide +kernel
theorem dX9_size_29 : decode cX9_size 29 = .ok (.invokevirtual 121, 3) := by decide +kernel
theorem dX9_size_32 : decode cX9_size 32 = .ok (.ireturn, 1) := by decide +kernel
set_option maxRecDepth 20000 in
theorem ggX9_insert_X9_existingTable : GoodIn wsX9_insert wsX9_existingTable := goodIn_ca (goodIn_r _ [7, 8, 9, 2, 10, 11, 12, 13, 14, 15, 16, 91, 92, 93, 94, 95, 96, 97, 98, 99, 100, 101] (by decide +kernel) (by decide +kernel)) (goodIn_sub (fun _ h => List.mem_cons_of_mem _ (List.mem_append_left _ (List.mem_append_left _ (List.mem_append_right _ h)))) (by decide +kernel))
set_option maxRecDepth 20000 in
theorem gX9_insert_X9_existingTable : GoodIn wsX9_insert (wsV RX9 111 RX9 yX9_existingTable wsX9_existingTable) := goodIn_app (goodIn_of _ (by decide +kernel)) ggX9_insert_X9_existingTable
set_option maxRecDepth 20000 in
theorem ggX9_insert_X9_requireRange : GoodIn wsX9_insert wsX9_requireRange := goodIn_ca (goodIn_r _ [19, 20, 21] (by decide +kernel) (by decide +kernel)) (goodIn_sub (fun _ h => List.mem_cons_of_mem _ (List.mem_append_left _ (List.mem_append_right _ h))) (by decide +kernel))
set_option maxRecDepth 20000 in
theorem gX9_insert_X9_requireRange : GoodIn wsX9_insert (va_wsS RX9 64 yX9_requireRange wsX9_requireRange) := goodIn_app (goodIn_of _ (by decide +kernel)) ggX9_insert_X9_requireRange
set_option maxRecDepth 20000 in
theorem ggX9_insert_X9_requireGap : GoodIn wsX9_insert wsX9_requireGap := goodIn_ca (goodIn_r _ [24, 25, 26, 27, 28, 29, 30, 31, 32, 33, 34, 35, 36, 37, 38, 39, 40, 102] (by decide +kernel) (by decide +kernel)) (goodIn_sub (fun _ h => List.mem_cons_of_mem _ (List.mem_append_right _ h)) (by decide +kernel))
set_option maxRecDepth 20000 in
theorem gX9_insert_X9_requireGap : GoodIn wsX9_insert (va_wsS RX9 147 yX9_requireGap wsX9_requireGap) := goodIn_app (goodIn_of _ (by decide +kernel)) ggX9_insert_X9_requireGap
set_option maxRecDepth 20000 in
theorem ggX9_insert_X3_remember : GoodIn wsX9_insert wsX3_remember := goodIn_r _ [45, 46, 47, 48, 49, 50, 51, 44, 52, 53, 54, 55, 13, 56, 15, 16, 57, 58, 59, 30, 60, 40, 61, 62, 63, 64, 103, 104, 105, 100, 101, 102] (by decide +kernel) (by decide +kernel)
set_option maxRecDepth 20000 in
theorem gX9_insert_X3_remember : GoodIn wsX9_insert (wsV RX9 151 RX3 yX3_remember wsX3_remember) := goodIn_app (goodIn_of _ (by decide +kernel)) ggX9_insert_X3_remember
set_option maxRecDepth 20000 in
theorem ggX9_insert_X7_takeIn : GoodIn wsX9_insert wsX7_takeIn := goodIn_r _ [68, 69, 70, 71, 30, 72, 73, 74, 75, 76, 40, 77, 6, 78, 79, 80, 81, 82, 83, 84, 85, 86, 87, 88, 89, 90, 36, 37, 38, 39, 102] (by decide +kernel) (by decide +kernel)
set_option maxRecDepth 20000 in
theorem gX9_insert_X7_takeIn : GoodIn wsX9_insert (wsV RX9 154 RX7 yX7_takeIn wsX7_takeIn) := goodIn_app (goodIn_of _ (by decide +kernel)) ggX9_insert_X7_takeIn
theorem dX9_insert_0 : decode cX9_insert 0 = .ok (.aload_n 0, 1) := by decide +kernel
theorem dX9_insert_1 : decode cX9_insert 1 = .ok (.iload_n 1, 1) := by decide +kernel
theorem dX9_insert_2 : decode cX9_insert 2 = .ok (.invokevirtual 111, 3) := by decide +kernel
theorem dX9_insert_5 : decode cX9_insert 5 = .ok (.astore_n 3, 1) := by decide +kernel
theorem dX9_insert_6 : decode cX9_insert 6 = .ok (.iload_n 2, 1) := by decide +kernel
theorem dX9_insert_7 : decode cX9_insert 7 = .ok (.iconst 0, 1) := by decide +kernel
theorem dX9_insert_8 : decode cX9_insert 8 = .ok (.bipush 99, 2) := by decide +kernel
theorem dX9_insert_10 : decode cX9_insert 10 = .ok (.invokestatic 64, 3) := by decide +kernel
theorem dX9_insert_13 : decode cX9_insert 13 = .ok (.aload_n 3, 1) := by decide +kernel
theorem dX9_insert_14 : decode cX9_insert 14 = .ok (.invokestatic 147, 3) := by decide +kernel
theorem dX9_insert_17 : decode cX9_insert 17 = .ok (.aload_n 0, 1) := by decide +kernel
theorem dX9_insert_18 : decode cX9_insert 18 = .ok (.getfield 22, 3) := by decide +kernel
theorem dX9_insert_21 : decode cX9_insert 21 = .ok (.aload_n 0, 1) := by decide +kernel
theorem dX9_insert_22 : decode cX9_insert 22 = .ok (.getfield 12, 3) := by decide +kernel
theorem dX9_insert_25 : decode cX9_insert 25 = .ok (.invokevirtual 151, 3) := by decide +kernel
theorem dX9_insert_28 : decode cX9_insert 28 = .ok (.aload_n 3, 1) := by decide +kernel
theorem dX9_insert_29 : decode cX9_insert 29 = .ok (.iload_n 2, 1) := by decide +kernel
theorem dX9_insert_30 : decode cX9_insert 30 = .ok (.invokevirtual 154, 3) := by decide +kernel
theorem dX9_insert_33 : decode cX9_insert 33 = .ok (.ireturn, 1) := by decide +kernel
set_option maxRecDepth 20000 in
theorem ggX9_remove_X9_tableWithCell : GoodIn wsX9_remove wsX9_tableWithCell := goodIn_ca (goodIn_r _ [7, 8, 9, 10, 11, 12, 6, 13, 2, 14, 15, 16, 17, 18, 19, 20, 21, 22, 23, 24, 25, 26, 27, 28, 29, 30, 77, 78, 79, 80, 81, 82, 83, 84, 85, 86, 87, 88] (by decide +kernel) (by decide +kernel)) (goodIn_sub (fun _ h => List.mem_cons_of_mem _ (List.mem_append_right _ h)) (by decide +kernel))
set_option maxRecDepth 20000 in
theorem gX9_remove_X9_tableWithCell : GoodIn wsX9_remove (wsV RX9 143 RX9 yX9_tableWithCell wsX9_tableWithCell) := goodIn_app (goodIn_of _ (by decide +kernel)) ggX9_remove_X9_tableWithCell
set_option maxRecDepth 20000 in
theorem ggX9_remove_X7_at : GoodIn wsX9_remove wsX7_at := goodIn_r _ [29, 30, 88] (by decide +kernel) (by decide +kernel)
set_option maxRecDepth 20000 in
theorem gX9_remove_X7_at : GoodIn wsX9_remove (wsV RX9 129 RX7 yX7_at wsX7_at) := goodIn_app (goodIn_of _ (by decide +kernel)) ggX9_remove_X7_at
set_option maxRecDepth 20000 in
theorem ggX9_remove_X3_remember : GoodIn wsX9_remove wsX3_remember := goodIn_r _ [36, 37, 38, 39, 40, 41, 42, 35, 43, 44, 45, 46, 17, 47, 19, 20, 48, 49, 50, 24, 51, 30, 52, 53, 54, 55, 89, 90, 91, 86, 87, 88] (by decide +kernel) (by decide +kernel)
set_option maxRecDepth 20000 in
theorem gX9_remove_X3_remember : GoodIn wsX9_remove (wsV RX9 151 RX3 yX3_remember wsX3_remember) := goodIn_app (goodIn_of _ (by decide +kernel)) ggX9_remove_X3_remember
set_option maxRecDepth 20000 in
theorem ggX9_remove_X7_takeAway : GoodIn wsX9_remove wsX7_takeAway := goodIn_r _ [59, 60, 61, 62, 24, 63, 30, 64, 65, 66, 67, 26, 27, 28, 29, 68, 69, 70, 71, 6, 72, 73, 74, 75, 76, 88] (by decide +kernel) (by decide +kernel)
set_option maxRecDepth 20000 in
theorem gX9_remove_X7_takeAway : GoodIn wsX9_remove (wsV RX9 157 RX7 yX7_takeAway wsX7_takeAway) := goodIn_app (goodIn_of _ (by decide +kernel)) ggX9_remove_X7_takeAway
theorem dX9_remove_0 : decode cX9_remove 0 = .ok (.aload_n 0, 1) := by decide +kernel
theorem dX9_remove_1 : decode cX9_remove 1 = .ok (.iload_n 1, 1) := by decide +kernel
theorem dX9_remove_2 : decode cX9_remove 2 = .ok (.iload_n 2, 1) := by decide +kernel
theorem dX9_remove_3 : decode cX9_remove 3 = .ok (.iload_n 3, 1) := by decide +kernel
theorem dX9_remove_4 : decode cX9_remove 4 = .ok (.invokevirtual 143, 3) := by decide +kernel
theorem dX9_remove_7 : decode cX9_remove 7 = .ok (.astore 4, 2) := by decide +kernel
theorem dX9_remove_9 : decode cX9_remove 9 = .ok (.aload 4, 2) := by decide +kernel
theorem dX9_remove_11 : decode cX9_remove 11 = .ok (.iload_n 2, 1) := by decide +kernel
theorem dX9_remove_12 : decode cX9_remove 12 = .ok (.iload_n 3, 1) := by decide +kernel
theorem dX9_remove_13 : decode cX9_remove 13 = .ok (.invokevirtual 129, 3) := by decide +kernel
theorem dX9_remove_16 : decode cX9_remove 16 = .ok (.istore 5, 2) := by decide +kernel
theorem dX9_remove_18 : decode cX9_remove 18 = .ok (.aload_n 0, 1) := by decide +kernel
theorem dX9_remove_19 : decode cX9_remove 19 = .ok (.getfield 22, 3) := by decide +kernel
theorem dX9_remove_22 : decode cX9_remove 22 = .ok (.aload_n 0, 1) := by decide +kernel
theorem dX9_remove_23 : decode cX9_remove 23 = .ok (.getfield 12, 3) := by decide +kernel
theorem dX9_remove_26 : decode cX9_remove 26 = .ok (.invokevirtual 151, 3) := by decide +kernel
theorem dX9_remove_29 : decode cX9_remove 29 = .ok (.aload 4, 2) := by decide +kernel
theorem dX9_remove_31 : decode cX9_remove 31 = .ok (.iload_n 2, 1) := by decide +kernel
theorem dX9_remove_32 : decode cX9_remove 32 = .ok (.iload_n 3, 1) := by decide +kernel
theorem dX9_remove_33 : decode cX9_remove 33 = .ok (.invokevirtual 157, 3) := by decide +kernel
theorem dX9_remove_36 : decode cX9_remove 36 = .ok (.pop, 1) := by decide +kernel
theorem dX9_remove_37 : decode cX9_remove 37 = .ok (.iload 5, 2) := by decide +kernel
theorem dX9_remove_39 : decode cX9_remove 39 = .ok (.ireturn, 1) := by decide +kernel
set_option maxRecDepth 20000 in
theorem ggX9_change_X9_tableWithCell : GoodIn wsX9_change wsX9_tableWithCell := goodIn_ca (goodIn_r _ [7, 8, 9, 10, 11, 12, 6, 13, 2, 14, 15, 16, 17, 18, 19, 20, 21, 22, 23, 24, 25, 26, 27, 28, 29, 30, 85, 86, 87, 88, 89, 90, 91, 92, 93, 94, 95, 96] (by decide +kernel) (by decide +kernel)) (goodIn_sub (fun _ h => List.mem_cons_of_mem _ (List.mem_append_left _ (List.mem_append_right _ h))) (by decide +kernel))
set_option maxRecDepth 20000 in
theorem gX9_change_X9_tableWithCell : GoodIn wsX9_change (wsV RX9 143 RX9 yX9_tableWithCell wsX9_tableWithCell) := goodIn_app (goodIn_of _ (by decide +kernel)) ggX9_change_X9_tableWithCell
set_option maxRecDepth 20000 in
theorem ggX9_change_X9_requireRange : GoodIn wsX9_change wsX9_requireRange := goodIn_ca (goodIn_r _ [33, 34, 35] (by decide +kernel) (by decide +kernel)) (goodIn_sub (fun _ h => List.mem_cons_of_mem _ (List.mem_append_right _ h)) (by decide +kernel))
set_option maxRecDepth 20000 in
theorem gX9_change_X9_requireRange : GoodIn wsX9_change (va_wsS RX9 64 yX9_requireRange wsX9_requireRange) := goodIn_app (goodIn_of _ (by decide +kernel)) ggX9_change_X9_requireRange
set_option maxRecDepth 20000 in
theorem ggX9_change_X3_remember : GoodIn wsX9_change wsX3_remember := goodIn_r _ [40, 41, 42, 43, 44, 45, 46, 39, 47, 48, 49, 50, 17, 51, 19, 20, 52, 53, 54, 24, 55, 30, 56, 57, 58, 59, 97, 98, 99, 94, 95, 96] (by decide +kernel) (by decide +kernel)
set_option maxRecDepth 20000 in
theorem gX9_change_X3_remember : GoodIn wsX9_change (wsV RX9 151 RX3 yX3_remember wsX3_remember) := goodIn_app (goodIn_of _ (by decide +kernel)) ggX9_change_X3_remember
set_option maxRecDepth 20000 in
theorem ggX9_change_X7_replace : GoodIn wsX9_change wsX7_replace := goodIn_r _ [63, 64, 65, 66, 24, 67, 30, 68, 69, 70, 71, 26, 27, 28, 29, 72, 6, 73, 74, 75, 76, 77, 78, 79, 80, 81, 82, 83, 84, 96] (by decide +kernel) (by decide +kernel)
set_option maxRecDepth 20000 in
theorem gX9_change_X7_replace : GoodIn wsX9_change (wsV RX9 160 RX7 yX7_replace wsX7_replace) := goodIn_app (goodIn_of _ (by decide +kernel)) ggX9_change_X7_replace
theorem dX9_change_0 : decode cX9_change 0 = .ok (.aload_n 0, 1) := by decide +kernel
theorem dX9_change_1 : decode cX9_change 1 = .ok (.iload_n 1, 1) := by decide +kernel
theorem dX9_change_2 : decode cX9_change 2 = .ok (.iload_n 2, 1) := by decide +kernel
theorem dX9_change_3 : decode cX9_change 3 = .ok (.iload_n 3, 1) := by decide +kernel
theorem dX9_change_4 : decode cX9_change 4 = .ok (.invokevirtual 143, 3) := by decide +kernel
theorem dX9_change_7 : decode cX9_change 7 = .ok (.astore 5, 2) := by decide +kernel
theorem dX9_change_9 : decode cX9_change 9 = .ok (.iload 4, 2) := by decide +kernel
theorem dX9_change_11 : decode cX9_change 11 = .ok (.iconst 0, 1) := by decide +kernel
theorem dX9_change_12 : decode cX9_change 12 = .ok (.bipush 99, 2) := by decide +kernel
theorem dX9_change_14 : decode cX9_change 14 = .ok (.invokestatic 64, 3) := by decide +kernel
theorem dX9_change_17 : decode cX9_change 17 = .ok (.aload_n 0, 1) := by decide +kernel
theorem dX9_change_18 : decode cX9_change 18 = .ok (.getfield 22, 3) := by decide +kernel
theorem dX9_change_21 : decode cX9_change 21 = .ok (.aload_n 0, 1) := by decide +kernel
theorem dX9_change_22 : decode cX9_change 22 = .ok (.getfield 12, 3) := by decide +kernel
theorem dX9_change_25 : decode cX9_change 25 = .ok (.invokevirtual 151, 3) := by decide +kernel
theorem dX9_change_28 : decode cX9_change 28 = .ok (.aload 5, 2) := by decide +kernel
theorem dX9_change_30 : decode cX9_change 30 = .ok (.iload_n 2, 1) := by decide +kernel
theorem dX9_change_31 : decode cX9_change 31 = .ok (.iload_n 3, 1) := by decide +kernel
theorem dX9_change_32 : decode cX9_change 32 = .ok (.iload 4, 2) := by decide +kernel
theorem dX9_change_34 : decode cX9_change 34 = .ok (.invokevirtual 160, 3) := by decide +kernel
theorem dX9_change_37 : decode cX9_change 37 = .ok (.ireturn, 1) := by decide +kernel
set_option maxRecDepth 20000 in
theorem ggX9_transfer_X9_tableWithCell : GoodIn wsX9_transfer wsX9_tableWithCell := goodIn_ca (goodIn_r _ [7, 8, 9, 10, 11, 12, 6, 13, 1, 14, 15, 16, 17, 18, 19, 20, 21, 22, 23, 24, 25, 26, 27, 28, 29, 30, 108, 109, 110, 111, 112, 113, 114, 115, 116, 117, 118, 119] (by decide +kernel) (by decide +kernel)) (goodIn_sub (fun _ h => List.mem_cons_of_mem _ (List.mem_append_left _ (List.mem_append_right _ h))) (by decide +kernel))
set_option maxRecDepth 20000 in
theorem gX9_transfer_X9_tableWithCell : GoodIn wsX9_transfer (wsV RX9 143 RX9 yX9_tableWithCell wsX9_tableWithCell) := goodIn_app (goodIn_of _ (by decide +kernel)) ggX9_transfer_X9_tableWithCell
set_option maxRecDepth 20000 in
theorem ggX9_transfer_X2_table : GoodIn wsX9_transfer wsX2_table := goodIn_r _ [18, 19, 20, 117, 118] (by decide +kernel) (by decide +kernel)
set_option maxRecDepth 20000 in
theorem gX9_transfer_X2_table : GoodIn wsX9_transfer (wsV RX9 164 RX2 yX2_table wsX2_table) := goodIn_app (goodIn_of _ (by decide +kernel)) ggX9_transfer_X2_table
set_option maxRecDepth 20000 in
theorem ggX9_transfer_X9_requireGap : GoodIn wsX9_transfer wsX9_requireGap := goodIn_ca (goodIn_r _ [33, 34, 35, 36, 37, 38, 24, 39, 40, 22, 23, 25, 26, 27, 28, 29, 30, 119] (by decide +kernel) (by decide +kernel)) (goodIn_sub (fun _ h => List.mem_cons_of_mem _ (List.mem_append_right _ h)) (by decide +kernel))
set_option maxRecDepth 20000 in
theorem gX9_transfer_X9_requireGap : GoodIn wsX9_transfer (va_wsS RX9 147 yX9_requireGap wsX9_requireGap) := goodIn_app (goodIn_of _ (by decide +kernel)) ggX9_transfer_X9_requireGap
set_option maxRecDepth 20000 in
theorem ggX9_transfer_X3_remember : GoodIn wsX9_transfer wsX3_remember := goodIn_r _ [45, 46, 47, 48, 49, 50, 51, 44, 52, 53, 54, 55, 17, 56, 19, 20, 57, 58, 59, 24, 60, 30, 61, 62, 63, 64, 120, 121, 122, 117, 118, 119] (by decide +kernel) (by decide +kernel)
set_option maxRecDepth 20000 in
theorem gX9_transfer_X3_remember : GoodIn wsX9_transfer (wsV RX9 151 RX3 yX3_remember wsX3_remember) := goodIn_app (goodIn_of _ (by decide +kernel)) ggX9_transfer_X3_remember
set_option maxRecDepth 20000 in
theorem ggX9_transfer_X2_moveOver : GoodIn wsX9_transfer wsX2_moveOver := goodIn_r _ [68, 69, 15, 16, 17, 18, 19, 20, 70, 27, 28, 24, 29, 30, 71, 72, 73, 74, 75, 76, 77, 78, 79, 80, 81, 82, 26, 83, 84, 85, 86, 6, 87, 88, 89, 90, 91, 92, 93, 94, 95, 96, 97, 98, 99, 100, 101, 102, 103, 104, 105, 106, 107, 117, 118, 119] (by decide +kernel) (by decide +kernel)
set_option maxRecDepth 20000 in
theorem gX9_transfer_X2_moveOver : GoodIn wsX9_transfer (wsV RX9 167 RX2 yX2_moveOver wsX2_moveOver) := goodIn_app (goodIn_of _ (by decide +kernel)) ggX9_transfer_X2_moveOver
theorem dX9_transfer_0 : decode cX9_transfer 0 = .ok (.aload_n 0, 1) := by decide +kernel
theorem dX9_transfer_1 : decode cX9_transfer 1 = .ok (.iload_n 1, 1) := by decide +kernel
theorem dX9_transfer_2 : decode cX9_transfer 2 = .ok (.iload_n 2, 1) := by decide +kernel
theorem dX9_transfer_3 : decode cX9_transfer 3 = .ok (.iload_n 3, 1) := by decide +kernel
theorem dX9_transfer_4 : decode cX9_transfer 4 = .ok (.invokevirtual 143, 3) := by decide +kernel
theorem dX9_transfer_7 : decode cX9_transfer 7 = .ok (.pop, 1) := by decide +kernel
theorem dX9_transfer_8 : decode cX9_transfer 8 = .ok (.aload_n 0, 1) := by decide +kernel
theorem dX9_transfer_9 : decode cX9_transfer 9 = .ok (.getfield 12, 3) := by decide +kernel
theorem dX9_transfer_12 : decode cX9_transfer 12 = .ok (.iconst 1, 1) := by decide +kernel
theorem dX9_transfer_13 : decode cX9_transfer 13 = .ok (.iload_n 1, 1) := by decide +kernel
theorem dX9_transfer_14 : decode cX9_transfer 14 = .ok (.isub, 1) := by decide +kernel
theorem dX9_transfer_15 : decode cX9_transfer 15 = .ok (.invokevirtual 164, 3) := by decide +kernel
theorem dX9_transfer_18 : decode cX9_transfer 18 = .ok (.invokestatic 147, 3) := by decide +kernel
theorem dX9_transfer_21 : decode cX9_transfer 21 = .ok (.aload_n 0, 1) := by decide +kernel
theorem dX9_transfer_22 : decode cX9_transfer 22 = .ok (.getfield 22, 3) := by decide +kernel
theorem dX9_transfer_25 : decode cX9_transfer 25 = .ok (.aload_n 0, 1) := by decide +kernel
theorem dX9_transfer_26 : decode cX9_transfer 26 = .ok (.getfield 12, 3) := by decide +kernel
theorem dX9_transfer_29 : decode cX9_transfer 29 = .ok (.invokevirtual 151, 3) := by decide +kernel
theorem dX9_transfer_32 : decode cX9_transfer 32 = .ok (.aload_n 0, 1) := by decide +kernel
theorem dX9_transfer_33 : decode cX9_transfer 33 = .ok (.getfield 12, 3) := by decide +kernel
theorem dX9_transfer_36 : decode cX9_transfer 36 = .ok (.iload_n 1, 1) := by decide +kernel
theorem dX9_transfer_37 : decode cX9_transfer 37 = .ok (.iload_n 2, 1) := by decide +kernel
theorem dX9_transfer_38 : decode cX9_transfer 38 = .ok (.iload_n 3, 1) := by decide +kernel
theorem dX9_transfer_39 : decode cX9_transfer 39 = .ok (.invokevirtual 167, 3) := by decide +kernel
theorem dX9_transfer_42 : decode cX9_transfer 42 = .ok (.ireturn, 1) := by decide +kernel
set_option maxRecDepth 20000 in
theorem ggX9_transpose_X9_existingTable : GoodIn wsX9_transpose wsX9_existingTable := goodIn_ca (goodIn_r _ [7, 8, 9, 2, 10, 11, 12, 13, 14, 15, 16, 59, 60, 61, 62, 63, 64, 65, 66, 67, 68, 69] (by decide +kernel) (by decide +kernel)) (goodIn_sub (fun _ h => List.mem_cons_of_mem _ (List.mem_append_right _ h)) (by decide +kernel))
set_option maxRecDepth 20000 in
theorem gX9_transpose_X9_existingTable : GoodIn wsX9_transpose (wsV RX9 111 RX9 yX9_existingTable wsX9_existingTable) := goodIn_app (goodIn_of _ (by decide +kernel)) ggX9_transpose_X9_existingTable
set_option maxRecDepth 20000 in
theorem ggX9_transpose_X3_remember : GoodIn wsX9_transpose wsX3_remember := goodIn_r _ [21, 22, 23, 24, 25, 26, 27, 20, 28, 29, 30, 31, 13, 32, 15, 16, 33, 34, 35, 36, 37, 38, 39, 40, 41, 42, 70, 71, 72, 68, 69, 73] (by decide +kernel) (by decide +kernel)
set_option maxRecDepth 20000 in
theorem gX9_transpose_X3_remember : GoodIn wsX9_transpose (wsV RX9 151 RX3 yX3_remember wsX3_remember) := goodIn_app (goodIn_of _ (by decide +kernel)) ggX9_transpose_X3_remember
set_option maxRecDepth 20000 in
theorem ggX9_transpose_X7_flip : GoodIn wsX9_transpose wsX7_flip := goodIn_r _ [46, 47, 48, 49, 36, 50, 38, 51, 52, 53, 54, 73] (by decide +kernel) (by decide +kernel)
set_option maxRecDepth 20000 in
theorem gX9_transpose_X7_flip : GoodIn wsX9_transpose (wsV RX9 170 RX7 yX7_flip wsX7_flip) := goodIn_app (goodIn_of _ (by decide +kernel)) ggX9_transpose_X7_flip
set_option maxRecDepth 20000 in
theorem ggX9_transpose_X7_columnLength : GoodIn wsX9_transpose wsX7_columnLength := goodIn_r _ [58, 47, 48, 49, 36, 50, 38, 73] (by decide +kernel) (by decide +kernel)
set_option maxRecDepth 20000 in
theorem gX9_transpose_X7_columnLength : GoodIn wsX9_transpose (wsV RX9 115 RX7 yX7_columnLength wsX7_columnLength) := goodIn_app (goodIn_of _ (by decide +kernel)) ggX9_transpose_X7_columnLength
theorem dX9_transpose_0 : decode cX9_transpose 0 = .ok (.aload_n 0, 1) := by decide +kernel
theorem dX9_transpose_1 : decode cX9_transpose 1 = .ok (.iload_n 1, 1) := by decide +kernel
theorem dX9_transpose_2 : decode cX9_transpose 2 = .ok (.invokevirtual 111, 3) := by decide +kernel
theorem dX9_transpose_5 : decode cX9_transpose 5 = .ok (.astore_n 2, 1) := by decide +kernel
theorem dX9_transpose_6 : decode cX9_transpose 6 = .ok (.aload_n 0, 1) := by decide +kernel
theorem dX9_transpose_7 : decode cX9_transpose 7 = .ok (.getfield 22, 3) := by decide +kernel
theorem dX9_transpose_10 : decode cX9_transpose 10 = .ok (.aload_n 0, 1) := by decide +kernel
theorem dX9_transpose_11 : decode cX9_transpose 11 = .ok (.getfield 12, 3) := by decide +kernel
theorem dX9_transpose_14 : decode cX9_transpose 14 = .ok (.invokevirtual 151, 3) := by decide +kernel
theorem dX9_transpose_17 : decode cX9_transpose 17 = .ok (.aload_n 2, 1) := by decide +kernel
theorem dX9_transpose_18 : decode cX9_transpose 18 = .ok (.invokevirtual 170, 3) := by decide +kernel
theorem dX9_transpose_21 : decode cX9_transpose 21 = .ok (.aload_n 2, 1) := by decide +kernel
theorem dX9_transpose_22 : decode cX9_transpose 22 = .ok (.iconst 0, 1) := by decide +kernel
theorem dX9_transpose_23 : decode cX9_transpose 23 = .ok (.invokevirtual 115, 3) := by decide +kernel
theorem dX9_transpose_26 : decode cX9_transpose 26 = .ok (.ireturn, 1) := by decide +kernel
set_option maxRecDepth 20000 in
theorem ggX9_exchange_X3_remember : GoodIn wsX9_exchange wsX3_remember := goodIn_r _ [7, 8, 9, 10, 11, 12, 13, 6, 14, 15, 16, 17, 18, 19, 20, 21, 22, 23, 24, 25, 26, 27, 28, 29, 30, 31, 61, 62, 63, 64, 65, 66] (by decide +kernel) (by decide +kernel)
set_option maxRecDepth 20000 in
theorem gX9_exchange_X3_remember : GoodIn wsX9_exchange (wsV RX9 151 RX3 yX3_remember wsX3_remember) := goodIn_app (goodIn_of _ (by decide +kernel)) ggX9_exchange_X3_remember
set_option maxRecDepth 20000 in
theorem ggX9_exchange_X2_swap : GoodIn wsX9_exchange wsX2_swap := goodIn_r _ [35, 20, 21, 36, 37, 38, 25, 39, 27, 64, 65, 66] (by decide +kernel) (by decide +kernel)
set_option maxRecDepth 20000 in
theorem gX9_exchange_X2_swap : GoodIn wsX9_exchange (wsV RX9 173 RX2 yX2_swap wsX2_swap) := goodIn_app (goodIn_of _ (by decide +kernel)) ggX9_exchange_X2_swap
set_option maxRecDepth 20000 in
theorem ggX9_exchange_X2_table : GoodIn wsX9_exchange wsX2_table := goodIn_r _ [43, 20, 21, 64, 65] (by decide +kernel) (by decide +kernel)
set_option maxRecDepth 20000 in
theorem gX9_exchange_X2_table : GoodIn wsX9_exchange (wsV RX9 164 RX2 yX2_table wsX2_table) := goodIn_app (goodIn_of _ (by decide +kernel)) ggX9_exchange_X2_table
set_option maxRecDepth 20000 in
theorem ggX9_exchange_X7_cells : GoodIn wsX9_exchange wsX7_cells := goodIn_r _ [47, 48, 49, 50, 25, 51, 27, 66] (by decide +kernel) (by decide +kernel)
set_option maxRecDepth 20000 in
theorem gX9_exchange_X7_cells : GoodIn wsX9_exchange (wsV RX9 124 RX7 yX7_cells wsX7_cells) := goodIn_app (goodIn_of _ (by decide +kernel)) ggX9_exchange_X7_cells
theorem dX9_exchange_0 : decode cX9_exchange 0 = .ok (.aload_n 0, 1) := by decide +kernel
theorem dX9_exchange_1 : decode cX9_exchange 1 = .ok (.getfield 22, 3) := by decide +kernel
theorem dX9_exchange_4 : decode cX9_exchange 4 = .ok (.aload_n 0, 1) := by decide +kernel
theorem dX9_exchange_5 : decode cX9_exchange 5 = .ok (.getfield 12, 3) := by decide +kernel
theorem dX9_exchange_8 : decode cX9_exchange 8 = .ok (.invokevirtual 151, 3) := by decide +kernel
theorem dX9_exchange_11 : decode cX9_exchange 11 = .ok (.aload_n 0, 1) := by decide +kernel
theorem dX9_exchange_12 : decode cX9_exchange 12 = .ok (.getfield 12, 3) := by decide +kernel
theorem dX9_exchange_15 : decode cX9_exchange 15 = .ok (.invokevirtual 173, 3) := by decide +kernel
theorem dX9_exchange_18 : decode cX9_exchange 18 = .ok (.aload_n 0, 1) := by decide +kernel
theorem dX9_exchange_19 : decode cX9_exchange 19 = .ok (.getfield 12, 3) := by decide +kernel
theorem dX9_exchange_22 : decode cX9_exchange 22 = .ok (.iconst 0, 1) := by decide +kernel
theorem dX9_exchange_23 : decode cX9_exchange 23 = .ok (.invokevirtual 164, 3) := by decide +kernel
theorem dX9_exchange_26 : decode cX9_exchange 26 = .ok (.invokevirtual 124, 3) := by decide +kernel
theorem dX9_exchange_29 : decode cX9_exchange 29 = .ok (.ireturn, 1) := by decide +kernel
set_option maxRecDepth 20000 in
theorem ggX9_undo_X3_isEmpty : GoodIn wsX9_undo wsX3_isEmpty := goodIn_r _ [9, 10, 51, 52, 53] (by decide +kernel) (by decide +kernel)
set_option maxRecDepth 20000 in
theorem gX9_undo_X3_isEmpty : GoodIn wsX9_undo (wsV RX9 176 RX3 yX3_isEmpty wsX3_isEmpty) := goodIn_app (goodIn_of _ (by decide +kernel)) ggX9_undo_X3_isEmpty
set_option maxRecDepth 20000 in
theorem ggX9_undo_X3_takeBack : GoodIn wsX9_undo wsX3_takeBack := goodIn_r _ [14, 10, 15, 16, 17, 18, 8, 19, 20, 21, 22, 23, 24, 25, 26, 27, 28, 29, 30, 31, 32, 33, 34, 35, 36, 37, 51, 52, 53, 54, 55, 56] (by decide +kernel) (by decide +kernel)
set_option maxRecDepth 20000 in
theorem gX9_undo_X3_takeBack : GoodIn wsX9_undo (wsV RX9 181 RX3 yX3_takeBack wsX3_takeBack) := goodIn_app (goodIn_of _ (by decide +kernel)) ggX9_undo_X3_takeBack
set_option maxRecDepth 20000 in
theorem ggX9_undo_X3_remembered : GoodIn wsX9_undo wsX3_remembered := goodIn_r _ [41, 10, 51, 52, 53] (by decide +kernel) (by decide +kernel)
set_option maxRecDepth 20000 in
theorem gX9_undo_X3_remembered : GoodIn wsX9_undo (wsV RX9 184 RX3 yX3_remembered wsX3_remembered) := goodIn_app (goodIn_of _ (by decide +kernel)) ggX9_undo_X3_remembered
theorem dX9_undo_0 : decode cX9_undo 0 = .ok (.aload_n 0, 1) := by decide +kernel
theorem dX9_undo_1 : decode cX9_undo 1 = .ok (.getfield 22, 3) := by decide +kernel
theorem dX9_undo_4 : decode cX9_undo 4 = .ok (.invokevirtual 176, 3) := by decide +kernel
theorem dX9_undo_7 : decode cX9_undo 7 = .ok (.ifCond .eq 13, 3) := by decide +kernel
theorem dX9_undo_10 : decode cX9_undo 10 = .ok (.new 72, 3) := by decide +kernel
theorem dX9_undo_13 : decode cX9_undo 13 = .ok (.dup, 1) := by decide +kernel
theorem dX9_undo_14 : decode cX9_undo 14 = .ok (.ldc 179, 2) := by decide +kernel
theorem dX9_undo_16 : decode cX9_undo 16 = .ok (.invokespecial 76, 3) := by decide +kernel
theorem dX9_undo_19 : decode cX9_undo 19 = .ok (.athrow, 1) := by decide +kernel
theorem dX9_undo_20 : decode cX9_undo 20 = .ok (.aload_n 0, 1) := by decide +kernel
theorem dX9_undo_21 : decode cX9_undo 21 = .ok (.getfield 22, 3) := by decide +kernel
theorem dX9_undo_24 : decode cX9_undo 24 = .ok (.aload_n 0, 1) := by decide +kernel
theorem dX9_undo_25 : decode cX9_undo 25 = .ok (.getfield 12, 3) := by decide +kernel
theorem dX9_undo_28 : decode cX9_undo 28 = .ok (.invokevirtual 181, 3) := by decide +kernel
theorem dX9_undo_31 : decode cX9_undo 31 = .ok (.aload_n 0, 1) := by decide +kernel
theorem dX9_undo_32 : decode cX9_undo 32 = .ok (.getfield 22, 3) := by decide +kernel
theorem dX9_undo_35 : decode cX9_undo 35 = .ok (.invokevirtual 184, 3) := by decide +kernel
theorem dX9_undo_38 : decode cX9_undo 38 = .ok (.ireturn, 1) := by decide +kernel
set_option maxRecDepth 20000 in
theorem ggX9_count_X9_existingTable : GoodIn wsX9_count wsX9_existingTable := goodIn_ca (goodIn_r _ [5, 6, 7, 8, 9, 10, 11, 12, 13, 14, 15, 38, 39, 40, 41, 42, 43, 44, 45, 46, 47, 48] (by decide +kernel) (by decide +kernel)) (goodIn_sub (fun _ h => List.mem_cons_of_mem _ (List.mem_append_left _ (List.mem_append_right _ h))) (by decide +kernel))
set_option maxRecDepth 20000 in
theorem gX9_count_X9_existingTable : GoodIn wsX9_count (wsV RX9 111 RX9 yX9_existingTable wsX9_existingTable) := goodIn_app (goodIn_of _ (by decide +kernel)) ggX9_count_X9_existingTable
set_option maxRecDepth 20000 in
theorem ggX9_count_X9_requireRange : GoodIn wsX9_count wsX9_requireRange := goodIn_ca (goodIn_r _ [18, 19, 20] (by decide +kernel) (by decide +kernel)) (goodIn_sub (fun _ h => List.mem_cons_of_mem _ (List.mem_append_right _ h)) (by decide +kernel))
set_option maxRecDepth 20000 in
theorem gX9_count_X9_requireRange : GoodIn wsX9_count (va_wsS RX9 64 yX9_requireRange wsX9_requireRange) := goodIn_app (goodIn_of _ (by decide +kernel)) ggX9_count_X9_requireRange
set_option maxRecDepth 20000 in
theorem ggX9_count_X7_cellsUpTo : GoodIn wsX9_count wsX7_cellsUpTo := goodIn_r _ [25, 26, 27, 28, 24, 29, 30, 31, 32, 33, 34, 35, 36, 37, 49] (by decide +kernel) (by decide +kernel)
set_option maxRecDepth 20000 in
theorem gX9_count_X7_cellsUpTo : GoodIn wsX9_count (wsV RX9 187 RX7 yX7_cellsUpTo wsX7_cellsUpTo) := goodIn_app (goodIn_of _ (by decide +kernel)) ggX9_count_X7_cellsUpTo
theorem dX9_count_0 : decode cX9_count 0 = .ok (.aload_n 0, 1) := by decide +kernel
theorem dX9_count_1 : decode cX9_count 1 = .ok (.iload_n 1, 1) := by decide +kernel
theorem dX9_count_2 : decode cX9_count 2 = .ok (.invokevirtual 111, 3) := by decide +kernel
theorem dX9_count_5 : decode cX9_count 5 = .ok (.astore_n 3, 1) := by decide +kernel
theorem dX9_count_6 : decode cX9_count 6 = .ok (.iload_n 2, 1) := by decide +kernel
theorem dX9_count_7 : decode cX9_count 7 = .ok (.iconst 0, 1) := by decide +kernel
theorem dX9_count_8 : decode cX9_count 8 = .ok (.bipush 99, 2) := by decide +kernel
theorem dX9_count_10 : decode cX9_count 10 = .ok (.invokestatic 64, 3) := by decide +kernel
theorem dX9_count_13 : decode cX9_count 13 = .ok (.aload_n 3, 1) := by decide +kernel
theorem dX9_count_14 : decode cX9_count 14 = .ok (.iload_n 2, 1) := by decide +kernel
theorem dX9_count_15 : decode cX9_count 15 = .ok (.invokevirtual 187, 3) := by decide +kernel
theorem dX9_count_18 : decode cX9_count 18 = .ok (.ireturn, 1) := by decide +kernel
set_option maxRecDepth 20000 in
theorem ggX9_walk_X9_existingTable : GoodIn wsX9_walk wsX9_existingTable := goodIn_ca (goodIn_r _ [5, 6, 7, 8, 9, 10, 11, 12, 13, 14, 15, 45, 46, 47, 48, 49, 50, 51, 52, 53, 54, 55] (by decide +kernel) (by decide +kernel)) (goodIn_sub (fun _ h => List.mem_cons_of_mem _ (List.mem_append_left _ (List.mem_append_right _ h))) (by decide +kernel))
set_option maxRecDepth 20000 in
theorem gX9_walk_X9_existingTable : GoodIn wsX9_walk (wsV RX9 111 RX9 yX9_existingTable wsX9_existingTable) := goodIn_app (goodIn_of _ (by decide +kernel)) ggX9_walk_X9_existingTable
set_option maxRecDepth 20000 in
theorem ggX9_walk_X9_requireRange : GoodIn wsX9_walk wsX9_requireRange := goodIn_ca (goodIn_r _ [18, 19, 20] (by decide +kernel) (by decide +kernel)) (goodIn_sub (fun _ h => List.mem_cons_of_mem _ (List.mem_append_right _ h)) (by decide +kernel))
set_option maxRecDepth 20000 in
theorem gX9_walk_X9_requireRange : GoodIn wsX9_walk (va_wsS RX9 64 yX9_requireRange wsX9_requireRange) := goodIn_app (goodIn_of _ (by decide +kernel)) ggX9_walk_X9_requireRange
set_option maxRecDepth 20000 in
theorem ggX9_walk_X7_tellWalk : GoodIn wsX9_walk wsX7_tellWalk := goodIn_r _ [25, 26, 27, 28, 29, 30, 31, 32, 24, 33, 34, 35, 36, 37, 38, 39, 40, 41, 42, 43, 4, 44, 56] (by decide +kernel) (by decide +kernel)
set_option maxRecDepth 20000 in
theorem gX9_walk_X7_tellWalk : GoodIn wsX9_walk (wsV RX9 190 RX7 yX7_tellWalk wsX7_tellWalk) := goodIn_app (goodIn_of _ (by decide +kernel)) ggX9_walk_X7_tellWalk
theorem dX9_walk_0 : decode cX9_walk 0 = .ok (.aload_n 0, 1) := by decide +kernel
theorem dX9_walk_1 : decode cX9_walk 1 = .ok (.iload_n 1, 1) := by decide +kernel
theorem dX9_walk_2 : decode cX9_walk 2 = .ok (.invokevirtual 111, 3) := by decide +kernel
theorem dX9_walk_5 : decode cX9_walk 5 = .ok (.astore 4, 2) := by decide +kernel
theorem dX9_walk_7 : decode cX9_walk 7 = .ok (.iload_n 2, 1) := by decide +kernel
theorem dX9_walk_8 : decode cX9_walk 8 = .ok (.iconst 0, 1) := by decide +kernel
theorem dX9_walk_9 : decode cX9_walk 9 = .ok (.bipush 99, 2) := by decide +kernel
theorem dX9_walk_11 : decode cX9_walk 11 = .ok (.invokestatic 64, 3) := by decide +kernel
theorem dX9_walk_14 : decode cX9_walk 14 = .ok (.iload_n 3, 1) := by decide +kernel
theorem dX9_walk_15 : decode cX9_walk 15 = .ok (.iconst 0, 1) := by decide +kernel
theorem dX9_walk_16 : decode cX9_walk 16 = .ok (.iconst 2, 1) := by decide +kernel
theorem dX9_walk_17 : decode cX9_walk 17 = .ok (.invokestatic 64, 3) := by decide +kernel
theorem dX9_walk_20 : decode cX9_walk 20 = .ok (.aload 4, 2) := by decide +kernel
theorem dX9_walk_22 : decode cX9_walk 22 = .ok (.iload_n 2, 1) := by decide +kernel
theorem dX9_walk_23 : decode cX9_walk 23 = .ok (.iload_n 3, 1) := by decide +kernel
theorem dX9_walk_24 : decode cX9_walk 24 = .ok (.invokevirtual 190, 3) := by decide +kernel
theorem dX9_walk_27 : decode cX9_walk 27 = .ok (.ireturn, 1) := by decide +kernel
set_option maxRecDepth 20000 in
theorem ggX9_kth_X9_existingTable : GoodIn wsX9_kth wsX9_existingTable := goodIn_ca (goodIn_r _ [5, 6, 7, 8, 9, 10, 11, 12, 13, 14, 15, 53, 54, 55, 56, 57, 58, 59, 60, 61, 62, 63] (by decide +kernel) (by decide +kernel)) (goodIn_sub (fun _ h => List.mem_cons_of_mem _ (List.mem_append_left _ (List.mem_append_right _ h))) (by decide +kernel))
set_option maxRecDepth 20000 in
theorem gX9_kth_X9_existingTable : GoodIn wsX9_kth (wsV RX9 111 RX9 yX9_existingTable wsX9_existingTable) := goodIn_app (goodIn_of _ (by decide +kernel)) ggX9_kth_X9_existingTable
set_option maxRecDepth 20000 in
theorem ggX9_kth_X9_requireNotNegative : GoodIn wsX9_kth wsX9_requireNotNegative := goodIn_ca (goodIn_r _ [18, 19, 20] (by decide +kernel) (by decide +kernel)) (goodIn_sub (fun _ h => List.mem_cons_of_mem _ (List.mem_append_right _ h)) (by decide +kernel))
set_option maxRecDepth 20000 in
theorem gX9_kth_X9_requireNotNegative : GoodIn wsX9_kth (va_wsS RX9 193 yX9_requireNotNegative wsX9_requireNotNegative) := goodIn_app (goodIn_of _ (by decide +kernel)) ggX9_kth_X9_requireNotNegative
set_option maxRecDepth 20000 in
theorem ggX9_kth_X7_kthPlace : GoodIn wsX9_kth wsX7_kthPlace := goodIn_r _ [25, 26, 27, 28, 24, 29, 30, 31, 32, 33, 34, 35, 36, 37, 38, 39, 40, 41, 42, 43, 44, 45, 46, 47, 48, 49, 50, 4, 51, 64] (by decide +kernel) (by decide +kernel)
set_option maxRecDepth 20000 in
theorem gX9_kth_X7_kthPlace : GoodIn wsX9_kth (wsV RX9 196 RX7 yX7_kthPlace wsX7_kthPlace) := goodIn_app (goodIn_of _ (by decide +kernel)) ggX9_kth_X7_kthPlace
set_option maxRecDepth 20000 in
theorem ggX9_kth_X7_kthNumber : GoodIn wsX9_kth wsX7_kthNumber := goodIn_r _ [29, 30, 31, 32, 24, 33, 34, 35, 36, 37, 38, 39, 40, 41, 42, 43, 44, 45, 64] (by decide +kernel) (by decide +kernel)
set_option maxRecDepth 20000 in
theorem gX9_kth_X7_kthNumber : GoodIn wsX9_kth (wsV RX9 199 RX7 yX7_kthNumber wsX7_kthNumber) := goodIn_app (goodIn_of _ (by decide +kernel)) ggX9_kth_X7_kthNumber
theorem dX9_kth_0 : decode cX9_kth 0 = .ok (.aload_n 0, 1) := by decide +kernel
theorem dX9_kth_1 : decode cX9_kth 1 = .ok (.iload_n 1, 1) := by decide +kernel
theorem dX9_kth_2 : decode cX9_kth 2 = .ok (.invokevirtual 111, 3) := by decide +kernel
theorem dX9_kth_5 : decode cX9_kth 5 = .ok (.astore 4, 2) := by decide +kernel
theorem dX9_kth_7 : decode cX9_kth 7 = .ok (.iload_n 2, 1) := by decide +kernel
theorem dX9_kth_8 : decode cX9_kth 8 = .ok (.invokestatic 193, 3) := by decide +kernel
theorem dX9_kth_11 : decode cX9_kth 11 = .ok (.iload_n 3, 1) := by decide +kernel
theorem dX9_kth_12 : decode cX9_kth 12 = .ok (.ifCond .eq 12, 3) := by decide +kernel
theorem dX9_kth_15 : decode cX9_kth 15 = .ok (.aload 4, 2) := by decide +kernel
theorem dX9_kth_17 : decode cX9_kth 17 = .ok (.iload_n 2, 1) := by decide +kernel
theorem dX9_kth_18 : decode cX9_kth 18 = .ok (.invokevirtual 196, 3) := by decide +kernel
theorem dX9_kth_21 : decode cX9_kth 21 = .ok (.goto 9, 3) := by decide +kernel
theorem dX9_kth_24 : decode cX9_kth 24 = .ok (.aload 4, 2) := by decide +kernel
theorem dX9_kth_26 : decode cX9_kth 26 = .ok (.iload_n 2, 1) := by decide +kernel
theorem dX9_kth_27 : decode cX9_kth 27 = .ok (.invokevirtual 199, 3) := by decide +kernel
theorem dX9_kth_30 : decode cX9_kth 30 = .ok (.ireturn, 1) := by decide +kernel
set_option maxRecDepth 20000 in
theorem ggX9_rank_X9_tableWithCell : GoodIn wsX9_rank wsX9_tableWithCell := goodIn_ca (goodIn_r _ [5, 6, 7, 8, 9, 10, 4, 11, 12, 13, 14, 15, 16, 17, 18, 19, 20, 21, 22, 23, 24, 25, 26, 27, 28, 29, 45, 46, 47, 48, 49, 50, 51, 52, 53, 54, 55, 56] (by decide +kernel) (by decide +kernel)) (goodIn_sub (fun _ h => List.mem_cons_of_mem _ (List.mem_append_right _ h)) (by decide +kernel))
set_option maxRecDepth 20000 in
theorem gX9_rank_X9_tableWithCell : GoodIn wsX9_rank (wsV RX9 143 RX9 yX9_tableWithCell wsX9_tableWithCell) := goodIn_app (goodIn_of _ (by decide +kernel)) ggX9_rank_X9_tableWithCell
set_option maxRecDepth 20000 in
theorem ggX9_rank_X7_cellsBefore : GoodIn wsX9_rank wsX7_cellsBefore := goodIn_r _ [33, 25, 26, 27, 23, 28, 29, 34, 35, 36, 37, 38, 39, 40, 41, 42, 43, 44, 56] (by decide +kernel) (by decide +kernel)
set_option maxRecDepth 20000 in
theorem gX9_rank_X7_cellsBefore : GoodIn wsX9_rank (wsV RX9 202 RX7 yX7_cellsBefore wsX7_cellsBefore) := goodIn_app (goodIn_of _ (by decide +kernel)) ggX9_rank_X7_cellsBefore
theorem dX9_rank_0 : decode cX9_rank 0 = .ok (.aload_n 0, 1) := by decide +kernel
theorem dX9_rank_1 : decode cX9_rank 1 = .ok (.iload_n 1, 1) := by decide +kernel
theorem dX9_rank_2 : decode cX9_rank 2 = .ok (.iload_n 2, 1) := by decide +kernel
theorem dX9_rank_3 : decode cX9_rank 3 = .ok (.iload_n 3, 1) := by decide +kernel
theorem dX9_rank_4 : decode cX9_rank 4 = .ok (.invokevirtual 143, 3) := by decide +kernel
theorem dX9_rank_7 : decode cX9_rank 7 = .ok (.iload_n 2, 1) := by decide +kernel
theorem dX9_rank_8 : decode cX9_rank 8 = .ok (.iload_n 3, 1) := by decide +kernel
theorem dX9_rank_9 : decode cX9_rank 9 = .ok (.invokevirtual 202, 3) := by decide +kernel
theorem dX9_rank_12 : decode cX9_rank 12 = .ok (.ireturn, 1) := by decide +kernel
set_option maxRecDepth 20000 in
theorem ggX9_windowCount_X9_existingTable : GoodIn wsX9_windowCount wsX9_existingTable := goodIn_ca (goodIn_r _ [5, 6, 7, 8, 9, 10, 11, 12, 13, 14, 15, 44, 45, 46, 47, 48, 49, 50, 51, 52, 53, 54] (by decide +kernel) (by decide +kernel)) (goodIn_sub (fun _ h => List.mem_cons_of_mem _ (List.mem_append_left _ (List.mem_append_right _ h))) (by decide +kernel))
set_option maxRecDepth 20000 in
theorem gX9_windowCount_X9_existingTable : GoodIn wsX9_windowCount (wsV RX9 111 RX9 yX9_existingTable wsX9_existingTable) := goodIn_app (goodIn_of _ (by decide +kernel)) ggX9_windowCount_X9_existingTable
set_option maxRecDepth 20000 in
theorem ggX9_windowCount_X9_requireWindow : GoodIn wsX9_windowCount wsX9_requireWindow := goodIn_ca (goodIn_r _ [18, 19, 20, 4, 21, 22, 23] (by decide +kernel) (by decide +kernel)) (goodIn_sub (fun _ h => List.mem_cons_of_mem _ (List.mem_append_right _ h)) (by decide +kernel))
set_option maxRecDepth 20000 in
theorem gX9_windowCount_X9_requireWindow : GoodIn wsX9_windowCount (va_wsS RX9 205 yX9_requireWindow wsX9_requireWindow) := goodIn_app (goodIn_of _ (by decide +kernel)) ggX9_windowCount_X9_requireWindow
set_option maxRecDepth 20000 in
theorem ggX9_windowCount_X9_requireRange : GoodIn wsX9_windowCount wsX9_requireRange := goodIn_ca (goodIn_r _ [21, 22, 23] (by decide +kernel) (by decide +kernel)) (goodIn_sub (fun _ h => List.mem_cons_of_mem _ (List.mem_append_right _ h)) (by decide +kernel))
set_option maxRecDepth 20000 in
theorem gX9_windowCount_X9_requireRange : GoodIn wsX9_windowCount (va_wsS RX9 64 yX9_requireRange wsX9_requireRange) := goodIn_app (goodIn_of _ (by decide +kernel)) ggX9_windowCount_X9_requireRange
set_option maxRecDepth 20000 in
theorem ggX9_windowCount_X9_lastOf : GoodIn wsX9_windowCount wsX9_lastOf := goodIn_r _ [26, 27, 28, 29, 30] (by decide +kernel) (by decide +kernel)
set_option maxRecDepth 20000 in
theorem gX9_windowCount_X9_lastOf : GoodIn wsX9_windowCount (va_wsS RX9 209 yX9_lastOf wsX9_lastOf) := goodIn_app (goodIn_of _ (by decide +kernel)) ggX9_windowCount_X9_lastOf
set_option maxRecDepth 20000 in
theorem ggX9_windowCount_X7_countWithin : GoodIn wsX9_windowCount wsX7_countWithin := goodIn_r _ [35, 36, 37, 38, 34, 39, 40, 41, 42, 43, 55] (by decide +kernel) (by decide +kernel)
set_option maxRecDepth 20000 in
theorem gX9_windowCount_X7_countWithin : GoodIn wsX9_windowCount (wsV RX9 212 RX7 yX7_countWithin wsX7_countWithin) := goodIn_app (goodIn_of _ (by decide +kernel)) ggX9_windowCount_X7_countWithin
theorem dX9_windowCount_0 : decode cX9_windowCount 0 = .ok (.aload_n 0, 1) := by decide +kernel
theorem dX9_windowCount_1 : decode cX9_windowCount 1 = .ok (.iload_n 1, 1) := by decide +kernel
theorem dX9_windowCount_2 : decode cX9_windowCount 2 = .ok (.invokevirtual 111, 3) := by decide +kernel
theorem dX9_windowCount_5 : decode cX9_windowCount 5 = .ok (.astore 7, 2) := by decide +kernel
theorem dX9_windowCount_7 : decode cX9_windowCount 7 = .ok (.iload_n 2, 1) := by decide +kernel
theorem dX9_windowCount_8 : decode cX9_windowCount 8 = .ok (.iload_n 3, 1) := by decide +kernel
theorem dX9_windowCount_9 : decode cX9_windowCount 9 = .ok (.iload 4, 2) := by decide +kernel
theorem dX9_windowCount_11 : decode cX9_windowCount 11 = .ok (.iload 5, 2) := by decide +kernel
theorem dX9_windowCount_13 : decode cX9_windowCount 13 = .ok (.invokestatic 205, 3) := by decide +kernel
theorem dX9_windowCount_16 : decode cX9_windowCount 16 = .ok (.iload 6, 2) := by decide +kernel
theorem dX9_windowCount_18 : decode cX9_windowCount 18 = .ok (.iconst 0, 1) := by decide +kernel
theorem dX9_windowCount_19 : decode cX9_windowCount 19 = .ok (.bipush 99, 2) := by decide +kernel
theorem dX9_windowCount_21 : decode cX9_windowCount 21 = .ok (.invokestatic 64, 3) := by decide +kernel
theorem dX9_windowCount_24 : decode cX9_windowCount 24 = .ok (.aload 7, 2) := by decide +kernel
theorem dX9_windowCount_26 : decode cX9_windowCount 26 = .ok (.iload_n 2, 1) := by decide +kernel
theorem dX9_windowCount_27 : decode cX9_windowCount 27 = .ok (.iload_n 3, 1) := by decide +kernel
theorem dX9_windowCount_28 : decode cX9_windowCount 28 = .ok (.iload_n 2, 1) := by decide +kernel
theorem dX9_windowCount_29 : decode cX9_windowCount 29 = .ok (.iload 4, 2) := by decide +kernel
theorem dX9_windowCount_31 : decode cX9_windowCount 31 = .ok (.invokestatic 209, 3) := by decide +kernel
theorem dX9_windowCount_34 : decode cX9_windowCount 34 = .ok (.iload_n 3, 1) := by decide +kernel
theorem dX9_windowCount_35 : decode cX9_windowCount 35 = .ok (.iload 5, 2) := by decide +kernel
theorem dX9_windowCount_37 : decode cX9_windowCount 37 = .ok (.invokestatic 209, 3) := by decide +kernel
theorem dX9_windowCount_40 : decode cX9_windowCount 40 = .ok (.iload 6, 2) := by decide +kernel
theorem dX9_windowCount_42 : decode cX9_windowCount 42 = .ok (.invokevirtual 212, 3) := by decide +kernel
theorem dX9_windowCount_45 : decode cX9_windowCount 45 = .ok (.ireturn, 1) := by decide +kernel
set_option maxRecDepth 20000 in
theorem ggX9_windowKth_X9_existingTable : GoodIn wsX9_windowKth wsX9_existingTable := goodIn_ca (goodIn_r _ [5, 6, 7, 8, 9, 10, 11, 12, 13, 14, 15, 51, 52, 53, 54, 55, 56, 57, 58, 59, 60, 61] (by decide +kernel) (by decide +kernel)) (goodIn_sub (fun _ h => List.mem_cons_of_mem _ (List.mem_append_left _ (List.mem_append_right _ h))) (by decide +kernel))
set_option maxRecDepth 20000 in
theorem gX9_windowKth_X9_existingTable : GoodIn wsX9_windowKth (wsV RX9 111 RX9 yX9_existingTable wsX9_existingTable) := goodIn_app (goodIn_of _ (by decide +kernel)) ggX9_windowKth_X9_existingTable
set_option maxRecDepth 20000 in
theorem ggX9_windowKth_X9_requireWindow : GoodIn wsX9_windowKth wsX9_requireWindow := goodIn_ca (goodIn_r _ [18, 19, 20, 4, 21, 22, 23] (by decide +kernel) (by decide +kernel)) (goodIn_sub (fun _ h => List.mem_cons_of_mem _ (List.mem_append_right _ h)) (by decide +kernel))
set_option maxRecDepth 20000 in
theorem gX9_windowKth_X9_requireWindow : GoodIn wsX9_windowKth (va_wsS RX9 205 yX9_requireWindow wsX9_requireWindow) := goodIn_app (goodIn_of _ (by decide +kernel)) ggX9_windowKth_X9_requireWindow
set_option maxRecDepth 20000 in
theorem ggX9_windowKth_X9_requireNotNegative : GoodIn wsX9_windowKth wsX9_requireNotNegative := goodIn_ca (goodIn_r _ [26, 22, 23] (by decide +kernel) (by decide +kernel)) (goodIn_sub (fun _ h => List.mem_cons_of_mem _ (List.mem_append_right _ h)) (by decide +kernel))
set_option maxRecDepth 20000 in
theorem gX9_windowKth_X9_requireNotNegative : GoodIn wsX9_windowKth (va_wsS RX9 193 yX9_requireNotNegative wsX9_requireNotNegative) := goodIn_app (goodIn_of _ (by decide +kernel)) ggX9_windowKth_X9_requireNotNegative
set_option maxRecDepth 20000 in
theorem ggX9_windowKth_X9_lastOf : GoodIn wsX9_windowKth wsX9_lastOf := goodIn_r _ [29, 30, 31, 32, 33] (by decide +kernel) (by decide +kernel)
set_option maxRecDepth 20000 in
theorem gX9_windowKth_X9_lastOf : GoodIn wsX9_windowKth (va_wsS RX9 209 yX9_lastOf wsX9_lastOf) := goodIn_app (goodIn_of _ (by decide +kernel)) ggX9_windowKth_X9_lastOf
set_option maxRecDepth 20000 in
theorem ggX9_windowKth_X7_kthWithin : GoodIn wsX9_windowKth wsX7_kthWithin := goodIn_r _ [38, 39, 40, 41, 37, 42, 43, 44, 45, 46, 47, 48, 49, 50, 62] (by decide +kernel) (by decide +kernel)
set_option maxRecDepth 20000 in
theorem gX9_windowKth_X7_kthWithin : GoodIn wsX9_windowKth (wsV RX9 216 RX7 yX7_kthWithin wsX7_kthWithin) := goodIn_app (goodIn_of _ (by decide +kernel)) ggX9_windowKth_X7_kthWithin
theorem dX9_windowKth_0 : decode cX9_windowKth 0 = .ok (.aload_n 0, 1) := by decide +kernel
theorem dX9_windowKth_1 : decode cX9_windowKth 1 = .ok (.iload_n 1, 1) := by decide +kernel
theorem dX9_windowKth_2 : decode cX9_windowKth 2 = .ok (.invokevirtual 111, 3) := by decide +kernel
theorem dX9_windowKth_5 : decode cX9_windowKth 5 = .ok (.astore 7, 2) := by decide +kernel
theorem dX9_windowKth_7 : decode cX9_windowKth 7 = .ok (.iload_n 2, 1) := by decide +kernel
theorem dX9_windowKth_8 : decode cX9_windowKth 8 = .ok (.iload_n 3, 1) := by decide +kernel
theorem dX9_windowKth_9 : decode cX9_windowKth 9 = .ok (.iload 4, 2) := by decide +kernel
theorem dX9_windowKth_11 : decode cX9_windowKth 11 = .ok (.iload 5, 2) := by decide +kernel
theorem dX9_windowKth_13 : decode cX9_windowKth 13 = .ok (.invokestatic 205, 3) := by decide +kernel
theorem dX9_windowKth_16 : decode cX9_windowKth 16 = .ok (.iload 6, 2) := by decide +kernel
theorem dX9_windowKth_18 : decode cX9_windowKth 18 = .ok (.invokestatic 193, 3) := by decide +kernel
theorem dX9_windowKth_21 : decode cX9_windowKth 21 = .ok (.aload 7, 2) := by decide +kernel
theorem dX9_windowKth_23 : decode cX9_windowKth 23 = .ok (.iload_n 2, 1) := by decide +kernel
theorem dX9_windowKth_24 : decode cX9_windowKth 24 = .ok (.iload_n 3, 1) := by decide +kernel
theorem dX9_windowKth_25 : decode cX9_windowKth 25 = .ok (.iload_n 2, 1) := by decide +kernel
theorem dX9_windowKth_26 : decode cX9_windowKth 26 = .ok (.iload 4, 2) := by decide +kernel
theorem dX9_windowKth_28 : decode cX9_windowKth 28 = .ok (.invokestatic 209, 3) := by decide +kernel
theorem dX9_windowKth_31 : decode cX9_windowKth 31 = .ok (.iload_n 3, 1) := by decide +kernel
theorem dX9_windowKth_32 : decode cX9_windowKth 32 = .ok (.iload 5, 2) := by decide +kernel
theorem dX9_windowKth_34 : decode cX9_windowKth 34 = .ok (.invokestatic 209, 3) := by decide +kernel
theorem dX9_windowKth_37 : decode cX9_windowKth 37 = .ok (.iload 6, 2) := by decide +kernel
theorem dX9_windowKth_39 : decode cX9_windowKth 39 = .ok (.invokevirtual 216, 3) := by decide +kernel
theorem dX9_windowKth_42 : decode cX9_windowKth 42 = .ok (.ireturn, 1) := by decide +kernel
set_option maxRecDepth 20000 in
theorem ggX9_kthOfBoth_X9_requireNotNegative : GoodIn wsX9_kthOfBoth wsX9_requireNotNegative := goodIn_ca (goodIn_r _ [5, 6, 7] (by decide +kernel) (by decide +kernel)) (goodIn_sub (fun _ h => List.mem_cons_of_mem _ (List.mem_append_right _ h)) (by decide +kernel))
set_option maxRecDepth 20000 in
theorem gX9_kthOfBoth_X9_requireNotNegative : GoodIn wsX9_kthOfBoth (va_wsS RX9 193 yX9_requireNotNegative wsX9_requireNotNegative) := goodIn_app (goodIn_of _ (by decide +kernel)) ggX9_kthOfBoth_X9_requireNotNegative
set_option maxRecDepth 20000 in
theorem ggX9_kthOfBoth_X2_kthNumberOfBoth : GoodIn wsX9_kthOfBoth wsX2_kthNumberOfBoth := goodIn_r _ [12, 13, 14, 15, 11, 16, 17, 18, 19, 20, 21, 22, 23, 24, 25, 26, 27, 28, 29, 30, 31, 32, 33, 34, 35, 49, 50, 51] (by decide +kernel) (by decide +kernel)
set_option maxRecDepth 20000 in
theorem gX9_kthOfBoth_X2_kthNumberOfBoth : GoodIn wsX9_kthOfBoth (wsV RX9 219 RX2 yX2_kthNumberOfBoth wsX2_kthNumberOfBoth) := goodIn_app (goodIn_of _ (by decide +kernel)) ggX9_kthOfBoth_X2_kthNumberOfBoth
set_option maxRecDepth 20000 in
theorem ggX9_kthOfBoth_X2_tableOfKth : GoodIn wsX9_kthOfBoth wsX2_tableOfKth := goodIn_r _ [39, 17, 18, 19, 20, 21, 22, 23, 24, 25, 26, 27, 28, 29, 30, 31, 32, 33, 34, 35, 49, 50, 51] (by decide +kernel) (by decide +kernel)
set_option maxRecDepth 20000 in
theorem gX9_kthOfBoth_X2_tableOfKth : GoodIn wsX9_kthOfBoth (wsV RX9 222 RX2 yX2_tableOfKth wsX2_tableOfKth) := goodIn_app (goodIn_of _ (by decide +kernel)) ggX9_kthOfBoth_X2_tableOfKth
theorem dX9_kthOfBoth_0 : decode cX9_kthOfBoth 0 = .ok (.iload_n 1, 1) := by decide +kernel
theorem dX9_kthOfBoth_1 : decode cX9_kthOfBoth 1 = .ok (.invokestatic 193, 3) := by decide +kernel
theorem dX9_kthOfBoth_4 : decode cX9_kthOfBoth 4 = .ok (.aload_n 0, 1) := by decide +kernel
theorem dX9_kthOfBoth_5 : decode cX9_kthOfBoth 5 = .ok (.getfield 12, 3) := by decide +kernel
theorem dX9_kthOfBoth_8 : decode cX9_kthOfBoth 8 = .ok (.iload_n 1, 1) := by decide +kernel
theorem dX9_kthOfBoth_9 : decode cX9_kthOfBoth 9 = .ok (.invokevirtual 219, 3) := by decide +kernel
theorem dX9_kthOfBoth_12 : decode cX9_kthOfBoth 12 = .ok (.istore_n 3, 1) := by decide +kernel
theorem dX9_kthOfBoth_13 : decode cX9_kthOfBoth 13 = .ok (.iload_n 2, 1) := by decide +kernel
theorem dX9_kthOfBoth_14 : decode cX9_kthOfBoth 14 = .ok (.ifCond .eq 21, 3) := by decide +kernel
theorem dX9_kthOfBoth_17 : decode cX9_kthOfBoth 17 = .ok (.iload_n 3, 1) := by decide +kernel
theorem dX9_kthOfBoth_18 : decode cX9_kthOfBoth 18 = .ok (.bipush (-9), 2) := by decide +kernel
theorem dX9_kthOfBoth_20 : decode cX9_kthOfBoth 20 = .ok (.if_icmp .eq 15, 3) := by decide +kernel
theorem dX9_kthOfBoth_23 : decode cX9_kthOfBoth 23 = .ok (.aload_n 0, 1) := by decide +kernel
theorem dX9_kthOfBoth_24 : decode cX9_kthOfBoth 24 = .ok (.getfield 12, 3) := by decide +kernel
theorem dX9_kthOfBoth_27 : decode cX9_kthOfBoth 27 = .ok (.iload_n 1, 1) := by decide +kernel
theorem dX9_kthOfBoth_28 : decode cX9_kthOfBoth 28 = .ok (.iload_n 3, 1) := by decide +kernel
theorem dX9_kthOfBoth_29 : decode cX9_kthOfBoth 29 = .ok (.invokevirtual 222, 3) := by decide +kernel
theorem dX9_kthOfBoth_32 : decode cX9_kthOfBoth 32 = .ok (.goto 4, 3) := by decide +kernel
theorem dX9_kthOfBoth_35 : decode cX9_kthOfBoth 35 = .ok (.iload_n 3, 1) := by decide +kernel
theorem dX9_kthOfBoth_36 : decode cX9_kthOfBoth 36 = .ok (.ireturn, 1) := by decide +kernel
set_option maxRecDepth 20000 in
theorem ggX9_pairs_X9_requireRange : GoodIn wsX9_pairs wsX9_requireRange := goodIn_ca (goodIn_r _ [5, 6, 7] (by decide +kernel) (by decide +kernel)) (goodIn_sub (fun _ h => List.mem_cons_of_mem _ (List.mem_append_right _ h)) (by decide +kernel))
set_option maxRecDepth 20000 in
theorem gX9_pairs_X9_requireRange : GoodIn wsX9_pairs (va_wsS RX9 64 yX9_requireRange wsX9_requireRange) := goodIn_app (goodIn_of _ (by decide +kernel)) ggX9_pairs_X9_requireRange
set_option maxRecDepth 20000 in
theorem ggX9_pairs_X2_pairsUpTo : GoodIn wsX9_pairs wsX2_pairsUpTo := goodIn_r _ [12, 13, 14, 15, 16, 17, 18, 19, 20, 21, 22, 23, 24, 25, 26, 27, 28, 29, 30, 31, 32, 33, 34, 35, 36, 46, 47, 48] (by decide +kernel) (by decide +kernel)
set_option maxRecDepth 20000 in
theorem gX9_pairs_X2_pairsUpTo : GoodIn wsX9_pairs (wsV RX9 225 RX2 yX2_pairsUpTo wsX2_pairsUpTo) := goodIn_app (goodIn_of _ (by decide +kernel)) ggX9_pairs_X2_pairsUpTo
theorem dX9_pairs_0 : decode cX9_pairs 0 = .ok (.iload_n 1, 1) := by decide +kernel
theorem dX9_pairs_1 : decode cX9_pairs 1 = .ok (.iconst 0, 1) := by decide +kernel
theorem dX9_pairs_2 : decode cX9_pairs 2 = .ok (.sipush 198, 3) := by decide +kernel
theorem dX9_pairs_5 : decode cX9_pairs 5 = .ok (.invokestatic 64, 3) := by decide +kernel
theorem dX9_pairs_8 : decode cX9_pairs 8 = .ok (.aload_n 0, 1) := by decide +kernel
theorem dX9_pairs_9 : decode cX9_pairs 9 = .ok (.getfield 12, 3) := by decide +kernel
theorem dX9_pairs_12 : decode cX9_pairs 12 = .ok (.iload_n 1, 1) := by decide +kernel
theorem dX9_pairs_13 : decode cX9_pairs 13 = .ok (.invokevirtual 225, 3) := by decide +kernel
theorem dX9_pairs_16 : decode cX9_pairs 16 = .ok (.ireturn, 1) := by decide +kernel
set_option maxRecDepth 20000 in
theorem ggX9_kthSum_X9_requireNotNegative : GoodIn wsX9_kthSum wsX9_requireNotNegative := goodIn_ca (goodIn_r _ [5, 6, 7] (by decide +kernel) (by decide +kernel)) (goodIn_sub (fun _ h => List.mem_cons_of_mem _ (List.mem_append_right _ h)) (by decide +kernel))
set_option maxRecDepth 20000 in
theorem gX9_kthSum_X9_requireNotNegative : GoodIn wsX9_kthSum (va_wsS RX9 193 yX9_requireNotNegative wsX9_requireNotNegative) := goodIn_app (goodIn_of _ (by decide +kernel)) ggX9_kthSum_X9_requireNotNegative
set_option maxRecDepth 20000 in
theorem ggX9_kthSum_X2_kthSumOfPair : GoodIn wsX9_kthSum wsX2_kthSumOfPair := goodIn_r _ [12, 13, 14, 15, 11, 16, 17, 18, 19, 20, 21, 22, 23, 24, 25, 26, 27, 28, 29, 30, 31, 32, 33, 34, 35, 36, 37, 38, 39, 40, 50, 51, 52] (by decide +kernel) (by decide +kernel)
set_option maxRecDepth 20000 in
theorem gX9_kthSum_X2_kthSumOfPair : GoodIn wsX9_kthSum (wsV RX9 228 RX2 yX2_kthSumOfPair wsX2_kthSumOfPair) := goodIn_app (goodIn_of _ (by decide +kernel)) ggX9_kthSum_X2_kthSumOfPair
theorem dX9_kthSum_0 : decode cX9_kthSum 0 = .ok (.iload_n 1, 1) := by decide +kernel
theorem dX9_kthSum_1 : decode cX9_kthSum 1 = .ok (.invokestatic 193, 3) := by decide +kernel
theorem dX9_kthSum_4 : decode cX9_kthSum 4 = .ok (.aload_n 0, 1) := by decide +kernel
theorem dX9_kthSum_5 : decode cX9_kthSum 5 = .ok (.getfield 12, 3) := by decide +kernel
theorem dX9_kthSum_8 : decode cX9_kthSum 8 = .ok (.iload_n 1, 1) := by decide +kernel
theorem dX9_kthSum_9 : decode cX9_kthSum 9 = .ok (.invokevirtual 228, 3) := by decide +kernel
theorem dX9_kthSum_12 : decode cX9_kthSum 12 = .ok (.ireturn, 1) := by decide +kernel
set_option maxRecDepth 20000 in
theorem ggX9_corner_X9_existingTable : GoodIn wsX9_corner wsX9_existingTable := goodIn_ca (goodIn_r _ [5, 6, 7, 8, 9, 10, 11, 12, 13, 14, 15, 45, 46, 47, 48, 49, 50, 51, 52, 53, 54, 55] (by decide +kernel) (by decide +kernel)) (goodIn_sub (fun _ h => List.mem_cons_of_mem _ (List.mem_append_left _ (List.mem_append_right _ h))) (by decide +kernel))
set_option maxRecDepth 20000 in
theorem gX9_corner_X9_existingTable : GoodIn wsX9_corner (wsV RX9 111 RX9 yX9_existingTable wsX9_existingTable) := goodIn_app (goodIn_of _ (by decide +kernel)) ggX9_corner_X9_existingTable
set_option maxRecDepth 20000 in
theorem ggX9_corner_X9_requireNotNegative : GoodIn wsX9_corner wsX9_requireNotNegative := goodIn_ca (goodIn_r _ [18, 19, 20] (by decide +kernel) (by decide +kernel)) (goodIn_sub (fun _ h => List.mem_cons_of_mem _ (List.mem_append_right _ h)) (by decide +kernel))
set_option maxRecDepth 20000 in
theorem gX9_corner_X9_requireNotNegative : GoodIn wsX9_corner (va_wsS RX9 193 yX9_requireNotNegative wsX9_requireNotNegative) := goodIn_app (goodIn_of _ (by decide +kernel)) ggX9_corner_X9_requireNotNegative
set_option maxRecDepth 20000 in
theorem ggX9_corner_X7_kthEnd : GoodIn wsX9_corner wsX7_kthEnd := goodIn_r _ [25, 26, 27, 28, 24, 29, 30, 31, 32, 33, 34, 35, 36, 37, 38, 39, 40, 41, 42, 43, 4, 44, 56] (by decide +kernel) (by decide +kernel)
set_option maxRecDepth 20000 in
theorem gX9_corner_X7_kthEnd : GoodIn wsX9_corner (wsV RX9 231 RX7 yX7_kthEnd wsX7_kthEnd) := goodIn_app (goodIn_of _ (by decide +kernel)) ggX9_corner_X7_kthEnd
theorem dX9_corner_0 : decode cX9_corner 0 = .ok (.aload_n 0, 1) := by decide +kernel
theorem dX9_corner_1 : decode cX9_corner 1 = .ok (.iload_n 1, 1) := by decide +kernel
theorem dX9_corner_2 : decode cX9_corner 2 = .ok (.invokevirtual 111, 3) := by decide +kernel
theorem dX9_corner_5 : decode cX9_corner 5 = .ok (.astore 4, 2) := by decide +kernel
theorem dX9_corner_7 : decode cX9_corner 7 = .ok (.iload_n 2, 1) := by decide +kernel
theorem dX9_corner_8 : decode cX9_corner 8 = .ok (.invokestatic 193, 3) := by decide +kernel
theorem dX9_corner_11 : decode cX9_corner 11 = .ok (.aload 4, 2) := by decide +kernel
theorem dX9_corner_13 : decode cX9_corner 13 = .ok (.iload_n 2, 1) := by decide +kernel
theorem dX9_corner_14 : decode cX9_corner 14 = .ok (.iload_n 3, 1) := by decide +kernel
theorem dX9_corner_15 : decode cX9_corner 15 = .ok (.invokevirtual 231, 3) := by decide +kernel
theorem dX9_corner_18 : decode cX9_corner 18 = .ok (.ireturn, 1) := by decide +kernel
set_option maxRecDepth 20000 in
theorem ggX9_hook_X9_tableWithCell : GoodIn wsX9_hook wsX9_tableWithCell := goodIn_ca (goodIn_r _ [5, 6, 7, 8, 9, 10, 4, 11, 12, 13, 14, 15, 16, 17, 18, 19, 20, 21, 22, 23, 24, 25, 26, 27, 28, 29, 42, 43, 44, 45, 46, 47, 48, 49, 50, 51, 52, 53] (by decide +kernel) (by decide +kernel)) (goodIn_sub (fun _ h => List.mem_cons_of_mem _ (List.mem_append_right _ h)) (by decide +kernel))
set_option maxRecDepth 20000 in
theorem gX9_hook_X9_tableWithCell : GoodIn wsX9_hook (wsV RX9 143 RX9 yX9_tableWithCell wsX9_tableWithCell) := goodIn_app (goodIn_of _ (by decide +kernel)) ggX9_hook_X9_tableWithCell
set_option maxRecDepth 20000 in
theorem ggX9_hook_X7_hookOf : GoodIn wsX9_hook wsX7_hookOf := goodIn_r _ [33, 34, 35, 36, 23, 37, 29, 38, 39, 40, 41, 25, 26, 27, 28, 53] (by decide +kernel) (by decide +kernel)
set_option maxRecDepth 20000 in
theorem gX9_hook_X7_hookOf : GoodIn wsX9_hook (wsV RX9 235 RX7 yX7_hookOf wsX7_hookOf) := goodIn_app (goodIn_of _ (by decide +kernel)) ggX9_hook_X7_hookOf
theorem dX9_hook_0 : decode cX9_hook 0 = .ok (.aload_n 0, 1) := by decide +kernel
theorem dX9_hook_1 : decode cX9_hook 1 = .ok (.iload_n 1, 1) := by decide +kernel
theorem dX9_hook_2 : decode cX9_hook 2 = .ok (.iload_n 2, 1) := by decide +kernel
theorem dX9_hook_3 : decode cX9_hook 3 = .ok (.iload_n 3, 1) := by decide +kernel
theorem dX9_hook_4 : decode cX9_hook 4 = .ok (.invokevirtual 143, 3) := by decide +kernel
theorem dX9_hook_7 : decode cX9_hook 7 = .ok (.iload_n 2, 1) := by decide +kernel
theorem dX9_hook_8 : decode cX9_hook 8 = .ok (.iload_n 3, 1) := by decide +kernel
theorem dX9_hook_9 : decode cX9_hook 9 = .ok (.invokevirtual 235, 3) := by decide +kernel
theorem dX9_hook_12 : decode cX9_hook 12 = .ok (.ireturn, 1) := by decide +kernel
set_option maxRecDepth 20000 in
theorem ggX9_fillings_X9_existingTable : GoodIn wsX9_fillings wsX9_existingTable := goodIn_ca (goodIn_r _ [6, 7, 8, 9, 10, 11, 12, 13, 14, 15, 16, 60, 61, 62, 63, 64, 65, 66, 67, 68, 69, 70] (by decide +kernel) (by decide +kernel)) (goodIn_sub (fun _ h => List.mem_cons_of_mem _ (List.mem_append_right _ h)) (by decide +kernel))
set_option maxRecDepth 20000 in
theorem gX9_fillings_X9_existingTable : GoodIn wsX9_fillings (wsV RX9 111 RX9 yX9_existingTable wsX9_existingTable) := goodIn_app (goodIn_of _ (by decide +kernel)) ggX9_fillings_X9_existingTable
set_option maxRecDepth 20000 in
theorem ggX9_fillings_X0_countFor : GoodIn wsX9_fillings wsX0_countFor := goodIn_r _ [21, 22, 23, 24, 25, 26, 27, 28, 29, 30, 31, 32, 33, 34, 35, 20, 36, 37, 38, 39, 40, 41, 42, 43, 44, 45, 46, 47, 48, 49, 50, 51, 52, 53, 54, 55, 56, 57, 58, 59, 71, 72] (by decide +kernel) (by decide +kernel)
set_option maxRecDepth 20000 in
theorem gX9_fillings_X0_countFor : GoodIn wsX9_fillings (wsV RX9 238 RX0 yX0_countFor wsX0_countFor) := goodIn_app (goodIn_of _ (by decide +kernel)) ggX9_fillings_X0_countFor
theorem dX9_fillings_0 : decode cX9_fillings 0 = .ok (.aload_n 0, 1) := by decide +kernel
theorem dX9_fillings_1 : decode cX9_fillings 1 = .ok (.getfield 60, 3) := by decide +kernel
theorem dX9_fillings_4 : decode cX9_fillings 4 = .ok (.aload_n 0, 1) := by decide +kernel
theorem dX9_fillings_5 : decode cX9_fillings 5 = .ok (.iload_n 1, 1) := by decide +kernel
theorem dX9_fillings_6 : decode cX9_fillings 6 = .ok (.invokevirtual 111, 3) := by decide +kernel
theorem dX9_fillings_9 : decode cX9_fillings 9 = .ok (.invokevirtual 238, 3) := by decide +kernel
theorem dX9_fillings_12 : decode cX9_fillings 12 = .ok (.lreturn, 1) := by decide +kernel
set_option maxRecDepth 20000 in
theorem ggX9_path_X9_existingTable : GoodIn wsX9_path wsX9_existingTable := goodIn_ca (goodIn_r _ [6, 7, 8, 9, 10, 11, 12, 13, 14, 15, 16, 72, 73, 74, 75, 76, 77, 78, 79, 80, 81, 82] (by decide +kernel) (by decide +kernel)) (goodIn_sub (fun _ h => List.mem_cons_of_mem _ (List.mem_append_left _ (List.mem_append_right _ h))) (by decide +kernel))
set_option maxRecDepth 20000 in
theorem gX9_path_X9_existingTable : GoodIn wsX9_path (wsV RX9 111 RX9 yX9_existingTable wsX9_existingTable) := goodIn_app (goodIn_of _ (by decide +kernel)) ggX9_path_X9_existingTable
set_option maxRecDepth 20000 in
theorem ggX9_path_X9_requireRange : GoodIn wsX9_path wsX9_requireRange := goodIn_ca (goodIn_r _ [19, 20, 21] (by decide +kernel) (by decide +kernel)) (goodIn_sub (fun _ h => List.mem_cons_of_mem _ (List.mem_append_right _ h)) (by decide +kernel))
set_option maxRecDepth 20000 in
theorem gX9_path_X9_requireRange : GoodIn wsX9_path (va_wsS RX9 64 yX9_requireRange wsX9_requireRange) := goodIn_app (goodIn_of _ (by decide +kernel)) ggX9_path_X9_requireRange
set_option maxRecDepth 20000 in
theorem ggX9_path_X1_search : GoodIn wsX9_path wsX1_search := goodIn_r _ [26, 27, 28, 29, 30, 31, 32, 25, 33, 34, 35, 36, 37, 38, 39, 40, 41, 42, 43, 44, 45, 46, 47, 48, 49, 50, 51, 52, 53, 54, 55, 56, 57, 58, 59, 60, 61, 62, 5, 63, 83, 84, 85, 86] (by decide +kernel) (by decide +kernel)
set_option maxRecDepth 20000 in
theorem gX9_path_X1_search : GoodIn wsX9_path (wsV RX9 242 RX1 yX1_search wsX1_search) := goodIn_app (goodIn_of _ (by decide +kernel)) ggX9_path_X1_search
set_option maxRecDepth 20000 in
theorem ggX9_path_X1_sum : GoodIn wsX9_path wsX1_sum := goodIn_r _ [67, 27, 83, 84, 85] (by decide +kernel) (by decide +kernel)
set_option maxRecDepth 20000 in
theorem gX9_path_X1_sum : GoodIn wsX9_path (wsV RX9 245 RX1 yX1_sum wsX1_sum) := goodIn_app (goodIn_of _ (by decide +kernel)) ggX9_path_X1_sum
set_option maxRecDepth 20000 in
theorem ggX9_path_X1_end : GoodIn wsX9_path wsX1_end := goodIn_r _ [71, 28, 83, 84, 85] (by decide +kernel) (by decide +kernel)
set_option maxRecDepth 20000 in
theorem gX9_path_X1_end : GoodIn wsX9_path (wsV RX9 246 RX1 yX1_end wsX1_end) := goodIn_app (goodIn_of _ (by decide +kernel)) ggX9_path_X1_end
theorem dX9_path_0 : decode cX9_path 0 = .ok (.aload_n 0, 1) := by decide +kernel
theorem dX9_path_1 : decode cX9_path 1 = .ok (.iload_n 1, 1) := by decide +kernel
theorem dX9_path_2 : decode cX9_path 2 = .ok (.invokevirtual 111, 3) := by decide +kernel
theorem dX9_path_5 : decode cX9_path 5 = .ok (.astore_n 3, 1) := by decide +kernel
theorem dX9_path_6 : decode cX9_path 6 = .ok (.iload_n 2, 1) := by decide +kernel
theorem dX9_path_7 : decode cX9_path 7 = .ok (.iconst 0, 1) := by decide +kernel
theorem dX9_path_8 : decode cX9_path 8 = .ok (.iconst 1, 1) := by decide +kernel
theorem dX9_path_9 : decode cX9_path 9 = .ok (.invokestatic 64, 3) := by decide +kernel
theorem dX9_path_12 : decode cX9_path 12 = .ok (.aload_n 0, 1) := by decide +kernel
theorem dX9_path_13 : decode cX9_path 13 = .ok (.getfield 53, 3) := by decide +kernel
theorem dX9_path_16 : decode cX9_path 16 = .ok (.aload_n 3, 1) := by decide +kernel
theorem dX9_path_17 : decode cX9_path 17 = .ok (.invokevirtual 242, 3) := by decide +kernel
theorem dX9_path_20 : decode cX9_path 20 = .ok (.iload_n 2, 1) := by decide +kernel
theorem dX9_path_21 : decode cX9_path 21 = .ok (.ifCond .ne 13, 3) := by decide +kernel
theorem dX9_path_24 : decode cX9_path 24 = .ok (.aload_n 0, 1) := by decide +kernel
theorem dX9_path_25 : decode cX9_path 25 = .ok (.getfield 53, 3) := by decide +kernel
theorem dX9_path_28 : decode cX9_path 28 = .ok (.invokevirtual 245, 3) := by decide +kernel
theorem dX9_path_31 : decode cX9_path 31 = .ok (.goto 10, 3) := by decide +kernel
theorem dX9_path_34 : decode cX9_path 34 = .ok (.aload_n 0, 1) := by decide +kernel
theorem dX9_path_35 : decode cX9_path 35 = .ok (.getfield 53, 3) := by decide +kernel
theorem dX9_path_38 : decode cX9_path 38 = .ok (.invokevirtual 246, 3) := by decide +kernel
theorem dX9_path_41 : decode cX9_path 41 = .ok (.ireturn, 1) := by decide +kernel
set_option maxRecDepth 20000 in
theorem ggX9_ifInserted_X9_existingTable : GoodIn wsX9_ifInserted wsX9_existingTable := goodIn_ca (goodIn_r _ [6, 7, 8, 9, 10, 11, 12, 13, 14, 15, 16, 76, 77, 78, 79, 80, 81, 82, 83, 84, 85, 86] (by decide +kernel) (by decide +kernel)) (goodIn_sub (fun _ h => List.mem_cons_of_mem _ (List.mem_append_left _ (List.mem_append_right _ h))) (by decide +kernel))
set_option maxRecDepth 20000 in
theorem gX9_ifInserted_X9_existingTable : GoodIn wsX9_ifInserted (wsV RX9 111 RX9 yX9_existingTable wsX9_existingTable) := goodIn_app (goodIn_of _ (by decide +kernel)) ggX9_ifInserted_X9_existingTable
set_option maxRecDepth 20000 in
theorem ggX9_ifInserted_X9_requireRange : GoodIn wsX9_ifInserted wsX9_requireRange := goodIn_ca (goodIn_r _ [19, 20, 21] (by decide +kernel) (by decide +kernel)) (goodIn_sub (fun _ h => List.mem_cons_of_mem _ (List.mem_append_right _ h)) (by decide +kernel))
set_option maxRecDepth 20000 in
theorem gX9_ifInserted_X9_requireRange : GoodIn wsX9_ifInserted (va_wsS RX9 64 yX9_requireRange wsX9_requireRange) := goodIn_app (goodIn_of _ (by decide +kernel)) ggX9_ifInserted_X9_requireRange
set_option maxRecDepth 20000 in
theorem ggX9_ifInserted_X7_isFull : GoodIn wsX9_ifInserted wsX7_isFull := goodIn_r _ [26, 27, 28, 29, 25, 30, 31, 32, 33, 34, 35, 87] (by decide +kernel) (by decide +kernel)
set_option maxRecDepth 20000 in
theorem gX9_ifInserted_X7_isFull : GoodIn wsX9_ifInserted (wsV RX9 249 RX7 yX7_isFull wsX7_isFull) := goodIn_app (goodIn_of _ (by decide +kernel)) ggX9_ifInserted_X7_isFull
set_option maxRecDepth 20000 in
theorem ggX9_ifInserted_X7_nearestGap : GoodIn wsX9_ifInserted wsX7_nearestGap := goodIn_r _ [39, 40, 41, 42, 25, 43, 35, 44, 5, 45, 87] (by decide +kernel) (by decide +kernel)
set_option maxRecDepth 20000 in
theorem gX9_ifInserted_X7_nearestGap : GoodIn wsX9_ifInserted (wsV RX9 250 RX7 yX7_nearestGap wsX7_nearestGap) := goodIn_app (goodIn_of _ (by decide +kernel)) ggX9_ifInserted_X7_nearestGap
set_option maxRecDepth 20000 in
theorem ggX9_ifInserted_X2_table : GoodIn wsX9_ifInserted wsX2_table := goodIn_r _ [14, 15, 16, 85, 86] (by decide +kernel) (by decide +kernel)
set_option maxRecDepth 20000 in
theorem gX9_ifInserted_X2_table : GoodIn wsX9_ifInserted (wsV RX9 164 RX2 yX2_table wsX2_table) := goodIn_app (goodIn_of _ (by decide +kernel)) ggX9_ifInserted_X2_table
set_option maxRecDepth 20000 in
theorem ggX9_ifInserted_X7_copyFrom : GoodIn wsX9_ifInserted wsX7_copyFrom := goodIn_r _ [49, 35, 50, 51, 52, 53, 87] (by decide +kernel) (by decide +kernel)
set_option maxRecDepth 20000 in
theorem gX9_ifInserted_X7_copyFrom : GoodIn wsX9_ifInserted (wsV RX9 253 RX7 yX7_copyFrom wsX7_copyFrom) := goodIn_app (goodIn_of _ (by decide +kernel)) ggX9_ifInserted_X7_copyFrom
set_option maxRecDepth 20000 in
theorem ggX9_ifInserted_X7_takeIn : GoodIn wsX9_ifInserted wsX7_takeIn := goodIn_r _ [57, 58, 37, 38, 25, 39, 40, 41, 42, 43, 35, 44, 5, 45, 59, 60, 61, 62, 63, 64, 65, 66, 67, 68, 69, 70, 31, 32, 33, 34, 87] (by decide +kernel) (by decide +kernel)
set_option maxRecDepth 20000 in
theorem gX9_ifInserted_X7_takeIn : GoodIn wsX9_ifInserted (wsV RX9 154 RX7 yX7_takeIn wsX7_takeIn) := goodIn_app (goodIn_of _ (by decide +kernel)) ggX9_ifInserted_X7_takeIn
set_option maxRecDepth 20000 in
theorem ggX9_ifInserted_X9_stepsFromOrigin : GoodIn wsX9_ifInserted wsX9_stepsFromOrigin := goodIn_r _ [73, 74, 59, 5, 60, 75, 61, 62] (by decide +kernel) (by decide +kernel)
set_option maxRecDepth 20000 in
theorem gX9_ifInserted_X9_stepsFromOrigin : GoodIn wsX9_ifInserted (va_wsS RX9 255 yX9_stepsFromOrigin wsX9_stepsFromOrigin) := goodIn_app (goodIn_of _ (by decide +kernel)) ggX9_ifInserted_X9_stepsFromOrigin
theorem dX9_ifInserted_0 : decode cX9_ifInserted 0 = .ok (.aload_n 0, 1) := by decide +kernel
theorem dX9_ifInserted_1 : decode cX9_ifInserted 1 = .ok (.iload_n 1, 1) := by decide +kernel
theorem dX9_ifInserted_2 : decode cX9_ifInserted 2 = .ok (.invokevirtual 111, 3) := by decide +kernel
theorem dX9_ifInserted_5 : decode cX9_ifInserted 5 = .ok (.astore 4, 2) := by decide +kernel
theorem dX9_ifInserted_7 : decode cX9_ifInserted 7 = .ok (.iload_n 2, 1) := by decide +kernel
theorem dX9_ifInserted_8 : decode cX9_ifInserted 8 = .ok (.iconst 0, 1) := by decide +kernel
theorem dX9_ifInserted_9 : decode cX9_ifInserted 9 = .ok (.bipush 99, 2) := by decide +kernel
theorem dX9_ifInserted_11 : decode cX9_ifInserted 11 = .ok (.invokestatic 64, 3) := by decide +kernel
theorem dX9_ifInserted_14 : decode cX9_ifInserted 14 = .ok (.aload 4, 2) := by decide +kernel
theorem dX9_ifInserted_16 : decode cX9_ifInserted 16 = .ok (.invokevirtual 249, 3) := by decide +kernel
theorem dX9_ifInserted_19 : decode cX9_ifInserted 19 = .ok (.ifCond .eq 6, 3) := by decide +kernel
theorem dX9_ifInserted_22 : decode cX9_ifInserted 22 = .ok (.bipush (-9), 2) := by decide +kernel
theorem dX9_ifInserted_24 : decode cX9_ifInserted 24 = .ok (.ireturn, 1) := by decide +kernel
theorem dX9_ifInserted_25 : decode cX9_ifInserted 25 = .ok (.aload 4, 2) := by decide +kernel
theorem dX9_ifInserted_27 : decode cX9_ifInserted 27 = .ok (.invokevirtual 250, 3) := by decide +kernel
theorem dX9_ifInserted_30 : decode cX9_ifInserted 30 = .ok (.istore 5, 2) := by decide +kernel
theorem dX9_ifInserted_32 : decode cX9_ifInserted 32 = .ok (.aload_n 0, 1) := by decide +kernel
theorem dX9_ifInserted_33 : decode cX9_ifInserted 33 = .ok (.getfield 16, 3) := by decide +kernel
theorem dX9_ifInserted_36 : decode cX9_ifInserted 36 = .ok (.iconst 0, 1) := by decide +kernel
theorem dX9_ifInserted_37 : decode cX9_ifInserted 37 = .ok (.invokevirtual 164, 3) := by decide +kernel
theorem dX9_ifInserted_40 : decode cX9_ifInserted 40 = .ok (.astore 6, 2) := by decide +kernel
theorem dX9_ifInserted_42 : decode cX9_ifInserted 42 = .ok (.aload 6, 2) := by decide +kernel
theorem dX9_ifInserted_44 : decode cX9_ifInserted 44 = .ok (.aload 4, 2) := by decide +kernel
theorem dX9_ifInserted_46 : decode cX9_ifInserted 46 = .ok (.invokevirtual 253, 3) := by decide +kernel
theorem dX9_ifInserted_49 : decode cX9_ifInserted 49 = .ok (.aload 6, 2) := by decide +kernel
theorem dX9_ifInserted_51 : decode cX9_ifInserted 51 = .ok (.iload_n 2, 1) := by decide +kernel
theorem dX9_ifInserted_52 : decode cX9_ifInserted 52 = .ok (.invokevirtual 154, 3) := by decide +kernel
theorem dX9_ifInserted_55 : decode cX9_ifInserted 55 = .ok (.istore 7, 2) := by decide +kernel
theorem dX9_ifInserted_57 : decode cX9_ifInserted 57 = .ok (.iload_n 3, 1) := by decide +kernel
theorem dX9_ifInserted_58 : decode cX9_ifInserted 58 = .ok (.ifCond .eq 17, 3) := by decide +kernel
theorem dX9_ifInserted_61 : decode cX9_ifInserted 61 = .ok (.iload 5, 2) := by decide +kernel
theorem dX9_ifInserted_63 : decode cX9_ifInserted 63 = .ok (.invokestatic 255, 3) := by decide +kernel
theorem dX9_ifInserted_66 : decode cX9_ifInserted 66 = .ok (.iload 7, 2) := by decide +kernel
theorem dX9_ifInserted_68 : decode cX9_ifInserted 68 = .ok (.invokestatic 255, 3) := by decide +kernel
theorem dX9_ifInserted_71 : decode cX9_ifInserted 71 = .ok (.isub, 1) := by decide +kernel
theorem dX9_ifInserted_72 : decode cX9_ifInserted 72 = .ok (.goto 5, 3) := by decide +kernel
theorem dX9_ifInserted_75 : decode cX9_ifInserted 75 = .ok (.iload 7, 2) := by decide +kernel
theorem dX9_ifInserted_77 : decode cX9_ifInserted 77 = .ok (.ireturn, 1) := by decide +kernel
set_option maxRecDepth 20000 in
theorem ggX9_ifRemoved_X9_tableWithCell : GoodIn wsX9_ifRemoved wsX9_tableWithCell := goodIn_ca (goodIn_r _ [6, 7, 8, 9, 10, 11, 5, 12, 13, 14, 15, 16, 17, 18, 19, 20, 21, 22, 23, 24, 25, 26, 27, 28, 29, 30, 60, 61, 62, 63, 64, 65, 66, 67, 68, 69, 70, 71] (by decide +kernel) (by decide +kernel)) (goodIn_sub (fun _ h => List.mem_cons_of_mem _ (List.mem_append_right _ h)) (by decide +kernel))
set_option maxRecDepth 20000 in
theorem gX9_ifRemoved_X9_tableWithCell : GoodIn wsX9_ifRemoved (wsV RX9 143 RX9 yX9_tableWithCell wsX9_tableWithCell) := goodIn_app (goodIn_of _ (by decide +kernel)) ggX9_ifRemoved_X9_tableWithCell
set_option maxRecDepth 20000 in
theorem ggX9_ifRemoved_X2_table : GoodIn wsX9_ifRemoved wsX2_table := goodIn_r _ [18, 19, 20, 69, 70] (by decide +kernel) (by decide +kernel)
set_option maxRecDepth 20000 in
theorem gX9_ifRemoved_X2_table : GoodIn wsX9_ifRemoved (wsV RX9 164 RX2 yX2_table wsX2_table) := goodIn_app (goodIn_of _ (by decide +kernel)) ggX9_ifRemoved_X2_table
set_option maxRecDepth 20000 in
theorem ggX9_ifRemoved_X7_copyFrom : GoodIn wsX9_ifRemoved wsX7_copyFrom := goodIn_r _ [34, 30, 35, 36, 37, 38, 71] (by decide +kernel) (by decide +kernel)
set_option maxRecDepth 20000 in
theorem gX9_ifRemoved_X7_copyFrom : GoodIn wsX9_ifRemoved (wsV RX9 253 RX7 yX7_copyFrom wsX7_copyFrom) := goodIn_app (goodIn_of _ (by decide +kernel)) ggX9_ifRemoved_X7_copyFrom
set_option maxRecDepth 20000 in
theorem ggX9_ifRemoved_X7_takeAway : GoodIn wsX9_ifRemoved wsX7_takeAway := goodIn_r _ [42, 43, 44, 45, 24, 46, 30, 47, 48, 49, 50, 26, 27, 28, 29, 51, 52, 53, 54, 5, 55, 56, 57, 58, 59, 71] (by decide +kernel) (by decide +kernel)
set_option maxRecDepth 20000 in
theorem gX9_ifRemoved_X7_takeAway : GoodIn wsX9_ifRemoved (wsV RX9 157 RX7 yX7_takeAway wsX7_takeAway) := goodIn_app (goodIn_of _ (by decide +kernel)) ggX9_ifRemoved_X7_takeAway
theorem dX9_ifRemoved_0 : decode cX9_ifRemoved 0 = .ok (.aload_n 0, 1) := by decide +kernel
theorem dX9_ifRemoved_1 : decode cX9_ifRemoved 1 = .ok (.iload_n 1, 1) := by decide +kernel
theorem dX9_ifRemoved_2 : decode cX9_ifRemoved 2 = .ok (.iload_n 2, 1) := by decide +kernel
theorem dX9_ifRemoved_3 : decode cX9_ifRemoved 3 = .ok (.iload_n 3, 1) := by decide +kernel
theorem dX9_ifRemoved_4 : decode cX9_ifRemoved 4 = .ok (.invokevirtual 143, 3) := by decide +kernel
theorem dX9_ifRemoved_7 : decode cX9_ifRemoved 7 = .ok (.astore 4, 2) := by decide +kernel
theorem dX9_ifRemoved_9 : decode cX9_ifRemoved 9 = .ok (.aload_n 0, 1) := by decide +kernel
theorem dX9_ifRemoved_10 : decode cX9_ifRemoved 10 = .ok (.getfield 16, 3) := by decide +kernel
theorem dX9_ifRemoved_13 : decode cX9_ifRemoved 13 = .ok (.iconst 0, 1) := by decide +kernel
theorem dX9_ifRemoved_14 : decode cX9_ifRemoved 14 = .ok (.invokevirtual 164, 3) := by decide +kernel
theorem dX9_ifRemoved_17 : decode cX9_ifRemoved 17 = .ok (.astore 5, 2) := by decide +kernel
theorem dX9_ifRemoved_19 : decode cX9_ifRemoved 19 = .ok (.aload 5, 2) := by decide +kernel
theorem dX9_ifRemoved_21 : decode cX9_ifRemoved 21 = .ok (.aload 4, 2) := by decide +kernel
theorem dX9_ifRemoved_23 : decode cX9_ifRemoved 23 = .ok (.invokevirtual 253, 3) := by decide +kernel
theorem dX9_ifRemoved_26 : decode cX9_ifRemoved 26 = .ok (.aload 5, 2) := by decide +kernel
theorem dX9_ifRemoved_28 : decode cX9_ifRemoved 28 = .ok (.iload_n 2, 1) := by decide +kernel
theorem dX9_ifRemoved_29 : decode cX9_ifRemoved 29 = .ok (.iload_n 3, 1) := by decide +kernel
theorem dX9_ifRemoved_30 : decode cX9_ifRemoved 30 = .ok (.invokevirtual 157, 3) := by decide +kernel
theorem dX9_ifRemoved_33 : decode cX9_ifRemoved 33 = .ok (.ireturn, 1) := by decide +kernel
set_option maxRecDepth 20000 in
theorem ggX9_runScript_X9_requireRange : GoodIn wsX9_runScript wsX9_requireRange := goodIn_ca (goodIn_r _ [8, 1, 2] (by decide +kernel) (by decide +kernel)) (goodIn_sub (fun _ h => List.mem_cons_of_mem _ (List.mem_append_right _ h)) (by decide +kernel))
set_option maxRecDepth 20000 in
theorem gX9_runScript_X9_requireRange : GoodIn wsX9_runScript (va_wsS RX9 64 yX9_requireRange wsX9_requireRange) := goodIn_app (goodIn_of _ (by decide +kernel)) ggX9_runScript_X9_requireRange
set_option maxRecDepth 20000 in
theorem ggX9_runScript_X5_limit : GoodIn wsX9_runScript wsX5_limit := goodIn_r _ [12, 13] (by decide +kernel) (by decide +kernel)
set_option maxRecDepth 20000 in
theorem gX9_runScript_X5_limit : GoodIn wsX9_runScript (va_wsS RX9 258 yX5_limit wsX5_limit) := goodIn_app (goodIn_of _ (by decide +kernel)) ggX9_runScript_X5_limit
set_option maxRecDepth 20000 in
theorem ggX9_runScript_X2_copyFrom : GoodIn wsX9_runScript wsX2_copyFrom := goodIn_r _ [18, 19, 20, 21, 22, 23, 24, 25, 26, 27, 28, 29, 30, 150, 151, 152] (by decide +kernel) (by decide +kernel)
set_option maxRecDepth 20000 in
theorem gX9_runScript_X2_copyFrom : GoodIn wsX9_runScript (wsV RX9 100 RX2 yX2_copyFrom wsX2_copyFrom) := goodIn_app (goodIn_of _ (by decide +kernel)) ggX9_runScript_X2_copyFrom
set_option maxRecDepth 20000 in
theorem ggX9_runScript_X5_group : GoodIn wsX9_runScript wsX5_group := goodIn_r _ [33, 13] (by decide +kernel) (by decide +kernel)
set_option maxRecDepth 20000 in
theorem gX9_runScript_X5_group : GoodIn wsX9_runScript (va_wsS RX9 269 yX5_group wsX5_group) := goodIn_app (goodIn_of _ (by decide +kernel)) ggX9_runScript_X5_group
set_option maxRecDepth 20000 in
theorem ggX9_runScript_X5_succeeds : GoodIn wsX9_runScript wsX5_succeeds := goodIn_r _ [36, 37, 38, 11, 39, 40, 7, 41, 42, 43, 44, 45, 46, 17, 47, 19, 20, 48, 49, 50, 24, 51, 52, 53, 54, 55, 26, 56, 57, 58, 59, 60, 61, 62, 63, 64, 65, 66, 67, 68, 69, 70, 71, 72, 73, 74, 75, 76, 77, 78, 79, 80, 81, 82, 83, 84, 85, 86, 87, 88, 89, 90, 91, 92, 93, 94, 95, 96, 97, 98, 99, 100, 101, 102, 103, 104, 105, 106, 107, 108, 109, 110, 111, 112, 113, 114, 115, 116, 117, 118, 119, 120, 121, 122, 123, 124, 125, 126, 127, 128, 129, 130, 131, 132, 133, 134, 135, 136, 137, 138, 139, 140, 150, 151, 152] (by decide +kernel) (by decide +kernel)
set_option maxRecDepth 20000 in
theorem gX9_runScript_X5_succeeds : GoodIn wsX9_runScript (va_wsS RX9 273 yX5_succeeds wsX5_succeeds) := goodIn_app (goodIn_of _ (by decide +kernel)) ggX9_runScript_X5_succeeds
theorem dX9_runScript_0 : decode cX9_runScript 0 = .ok (.iload_n 1, 1) := by decide +kernel
theorem dX9_runScript_1 : decode cX9_runScript 1 = .ok (.iconst 1, 1) := by decide +kernel
theorem dX9_runScript_2 : decode cX9_runScript 2 = .ok (.iconst 3, 1) := by decide +kernel
theorem dX9_runScript_3 : decode cX9_runScript 3 = .ok (.invokestatic 64, 3) := by decide +kernel
theorem dX9_runScript_6 : decode cX9_runScript 6 = .ok (.lload_n 2, 1) := by decide +kernel
theorem dX9_runScript_7 : decode cX9_runScript 7 = .ok (.lconst 0, 1) := by decide +kernel
theorem dX9_runScript_8 : decode cX9_runScript 8 = .ok (.lcmp, 1) := by decide +kernel
theorem dX9_runScript_9 : decode cX9_runScript 9 = .ok (.ifCond .lt 12, 3) := by decide +kernel
theorem dX9_runScript_12 : decode cX9_runScript 12 = .ok (.lload_n 2, 1) := by decide +kernel
theorem dX9_runScript_13 : decode cX9_runScript 13 = .ok (.iload_n 1, 1) := by decide +kernel
theorem dX9_runScript_14 : decode cX9_runScript 14 = .ok (.invokestatic 258, 3) := by decide +kernel
theorem dX9_runScript_17 : decode cX9_runScript 17 = .ok (.lcmp, 1) := by decide +kernel
theorem dX9_runScript_18 : decode cX9_runScript 18 = .ok (.ifCond .lt 14, 3) := by decide +kernel
theorem dX9_runScript_21 : decode cX9_runScript 21 = .ok (.new 264, 3) := by decide +kernel
theorem dX9_runScript_24 : decode cX9_runScript 24 = .ok (.dup, 1) := by decide +kernel
theorem dX9_runScript_25 : decode cX9_runScript 25 = .ok (.ldc_w 266, 3) := by decide +kernel
theorem dX9_runScript_28 : decode cX9_runScript 28 = .ok (.invokespecial 268, 3) := by decide +kernel
theorem dX9_runScript_31 : decode cX9_runScript 31 = .ok (.athrow, 1) := by decide +kernel
theorem dX9_runScript_32 : decode cX9_runScript 32 = .ok (.aload_n 0, 1) := by decide +kernel
theorem dX9_runScript_33 : decode cX9_runScript 33 = .ok (.getfield 16, 3) := by decide +kernel
theorem dX9_runScript_36 : decode cX9_runScript 36 = .ok (.aload_n 0, 1) := by decide +kernel
theorem dX9_runScript_37 : decode cX9_runScript 37 = .ok (.getfield 12, 3) := by decide +kernel
theorem dX9_runScript_40 : decode cX9_runScript 40 = .ok (.invokevirtual 100, 3) := by decide +kernel
theorem dX9_runScript_43 : decode cX9_runScript 43 = .ok (.iconst 0, 1) := by decide +kernel
theorem dX9_runScript_44 : decode cX9_runScript 44 = .ok (.istore 4, 2) := by decide +kernel
theorem dX9_runScript_46 : decode cX9_runScript 46 = .ok (.iload 4, 2) := by decide +kernel
theorem dX9_runScript_48 : decode cX9_runScript 48 = .ok (.iload_n 1, 1) := by decide +kernel
theorem dX9_runScript_49 : decode cX9_runScript 49 = .ok (.if_icmp .ge 32, 3) := by decide +kernel
theorem dX9_runScript_52 : decode cX9_runScript 52 = .ok (.aload_n 0, 1) := by decide +kernel
theorem dX9_runScript_53 : decode cX9_runScript 53 = .ok (.getfield 16, 3) := by decide +kernel
theorem dX9_runScript_56 : decode cX9_runScript 56 = .ok (.lload_n 2, 1) := by decide +kernel
theorem dX9_runScript_57 : decode cX9_runScript 57 = .ok (.iload_n 1, 1) := by decide +kernel
theorem dX9_runScript_58 : decode cX9_runScript 58 = .ok (.iconst 1, 1) := by decide +kernel
theorem dX9_runScript_59 : decode cX9_runScript 59 = .ok (.isub, 1) := by decide +kernel
theorem dX9_runScript_60 : decode cX9_runScript 60 = .ok (.iload 4, 2) := by decide +kernel
theorem dX9_runScript_62 : decode cX9_runScript 62 = .ok (.isub, 1) := by decide +kernel
theorem dX9_runScript_63 : decode cX9_runScript 63 = .ok (.invokestatic 269, 3) := by decide +kernel
theorem dX9_runScript_66 : decode cX9_runScript 66 = .ok (.invokestatic 273, 3) := by decide +kernel
theorem dX9_runScript_69 : decode cX9_runScript 69 = .ok (.ifCond .ne 6, 3) := by decide +kernel
theorem dX9_runScript_72 : decode cX9_runScript 72 = .ok (.iload 4, 2) := by decide +kernel
theorem dX9_runScript_74 : decode cX9_runScript 74 = .ok (.ireturn, 1) := by decide +kernel
theorem dX9_runScript_75 : decode cX9_runScript 75 = .ok (.iinc 4 1, 3) := by decide +kernel
theorem dX9_runScript_78 : decode cX9_runScript 78 = .ok (.goto (-32), 3) := by decide +kernel
theorem dX9_runScript_81 : decode cX9_runScript 81 = .ok (.bipush (-9), 2) := by decide +kernel
theorem dX9_runScript_83 : decode cX9_runScript 83 = .ok (.ireturn, 1) := by decide +kernel
set_option maxRecDepth 20000 in
theorem ggX9_simulate_X9_requireRange : GoodIn wsX9_simulate wsX9_requireRange := goodIn_ca (goodIn_r _ [8, 9, 10] (by decide +kernel) (by decide +kernel)) (goodIn_sub (fun _ h => List.mem_cons_of_mem _ (List.mem_append_right _ h)) (by decide +kernel))
set_option maxRecDepth 20000 in
theorem gX9_simulate_X9_requireRange : GoodIn wsX9_simulate (va_wsS RX9 64 yX9_requireRange wsX9_requireRange) := goodIn_app (goodIn_of _ (by decide +kernel)) ggX9_simulate_X9_requireRange
set_option maxRecDepth 20000 in
theorem ggX9_simulate_X2_copyFrom : GoodIn wsX9_simulate wsX2_copyFrom := goodIn_r _ [15, 16, 17, 18, 19, 20, 21, 22, 23, 24, 25, 26, 27, 127, 128, 129] (by decide +kernel) (by decide +kernel)
set_option maxRecDepth 20000 in
theorem gX9_simulate_X2_copyFrom : GoodIn wsX9_simulate (wsV RX9 100 RX2 yX2_copyFrom wsX2_copyFrom) := goodIn_app (goodIn_of _ (by decide +kernel)) ggX9_simulate_X2_copyFrom
set_option maxRecDepth 20000 in
theorem ggX9_simulate_X9_simulateRound : GoodIn wsX9_simulate wsX9_simulateRound := goodIn_r _ [31, 1, 32, 33, 34, 14, 35, 16, 17, 36, 37, 38, 21, 39, 40, 41, 42, 43, 23, 44, 45, 46, 47, 48, 49, 50, 51, 52, 53, 54, 55, 56, 57, 58, 59, 60, 61, 62, 63, 64, 65, 66, 67, 68, 69, 70, 71, 7, 72, 73, 74, 75, 76, 77, 78, 79, 80, 81, 82, 83, 84, 85, 86, 87, 88, 89, 90, 91, 92, 93, 94, 95, 96, 97, 98, 99, 100, 101, 102, 103, 104, 105, 106, 107, 108, 109, 110, 111, 112, 113, 118, 119, 120, 121, 122, 123, 124, 125, 126, 127, 128, 129] (by decide +kernel) (by decide +kernel)
set_option maxRecDepth 20000 in
theorem gX9_simulate_X9_simulateRound : GoodIn wsX9_simulate (wsV RX9 281 RX9 yX9_simulateRound wsX9_simulateRound) := goodIn_app (goodIn_of _ (by decide +kernel)) ggX9_simulate_X9_simulateRound
set_option maxRecDepth 20000 in
theorem ggX9_simulate_X2_table : GoodIn wsX9_simulate wsX2_table := goodIn_r _ [35, 16, 17, 127, 128] (by decide +kernel) (by decide +kernel)
set_option maxRecDepth 20000 in
theorem gX9_simulate_X2_table : GoodIn wsX9_simulate (wsV RX9 164 RX2 yX2_table wsX2_table) := goodIn_app (goodIn_of _ (by decide +kernel)) ggX9_simulate_X2_table
set_option maxRecDepth 20000 in
theorem ggX9_simulate_X7_sum : GoodIn wsX9_simulate wsX7_sum := goodIn_r _ [117, 23, 129] (by decide +kernel) (by decide +kernel)
set_option maxRecDepth 20000 in
theorem gX9_simulate_X7_sum : GoodIn wsX9_simulate (wsV RX9 136 RX7 yX7_sum wsX7_sum) := goodIn_app (goodIn_of _ (by decide +kernel)) ggX9_simulate_X7_sum
theorem dX9_simulate_0 : decode cX9_simulate 0 = .ok (.iload_n 3, 1) := by decide +kernel
theorem dX9_simulate_1 : decode cX9_simulate 1 = .ok (.iconst 1, 1) := by decide +kernel
theorem dX9_simulate_2 : decode cX9_simulate 2 = .ok (.bipush 60, 2) := by decide +kernel
theorem dX9_simulate_4 : decode cX9_simulate 4 = .ok (.invokestatic 64, 3) := by decide +kernel
theorem dX9_simulate_7 : decode cX9_simulate 7 = .ok (.aload_n 0, 1) := by decide +kernel
theorem dX9_simulate_8 : decode cX9_simulate 8 = .ok (.getfield 16, 3) := by decide +kernel
theorem dX9_simulate_11 : decode cX9_simulate 11 = .ok (.aload_n 0, 1) := by decide +kernel
theorem dX9_simulate_12 : decode cX9_simulate 12 = .ok (.getfield 12, 3) := by decide +kernel
theorem dX9_simulate_15 : decode cX9_simulate 15 = .ok (.invokevirtual 100, 3) := by decide +kernel
theorem dX9_simulate_18 : decode cX9_simulate 18 = .ok (.lload_n 1, 1) := by decide +kernel
theorem dX9_simulate_19 : decode cX9_simulate 19 = .ok (.lstore 4, 2) := by decide +kernel
theorem dX9_simulate_21 : decode cX9_simulate 21 = .ok (.iconst 0, 1) := by decide +kernel
theorem dX9_simulate_22 : decode cX9_simulate 22 = .ok (.istore 6, 2) := by decide +kernel
theorem dX9_simulate_24 : decode cX9_simulate 24 = .ok (.iload 6, 2) := by decide +kernel
theorem dX9_simulate_26 : decode cX9_simulate 26 = .ok (.iload_n 3, 1) := by decide +kernel
theorem dX9_simulate_27 : decode cX9_simulate 27 = .ok (.if_icmp .ge 31, 3) := by decide +kernel
theorem dX9_simulate_30 : decode cX9_simulate 30 = .ok (.lload 4, 2) := by decide +kernel
theorem dX9_simulate_32 : decode cX9_simulate 32 = .ok (.ldc2_w 277, 3) := by decide +kernel
theorem dX9_simulate_35 : decode cX9_simulate 35 = .ok (.lmul, 1) := by decide +kernel
theorem dX9_simulate_36 : decode cX9_simulate 36 = .ok (.ldc2_w 279, 3) := by decide +kernel
theorem dX9_simulate_39 : decode cX9_simulate 39 = .ok (.ladd, 1) := by decide +kernel
theorem dX9_simulate_40 : decode cX9_simulate 40 = .ok (.lstore 4, 2) := by decide +kernel
theorem dX9_simulate_42 : decode cX9_simulate 42 = .ok (.aload_n 0, 1) := by decide +kernel
theorem dX9_simulate_43 : decode cX9_simulate 43 = .ok (.lload 4, 2) := by decide +kernel
theorem dX9_simulate_45 : decode cX9_simulate 45 = .ok (.bipush 33, 2) := by decide +kernel
theorem dX9_simulate_47 : decode cX9_simulate 47 = .ok (.lushr, 1) := by decide +kernel
theorem dX9_simulate_48 : decode cX9_simulate 48 = .ok (.l2i, 1) := by decide +kernel
theorem dX9_simulate_49 : decode cX9_simulate 49 = .ok (.invokevirtual 281, 3) := by decide +kernel
theorem dX9_simulate_52 : decode cX9_simulate 52 = .ok (.iinc 6 1, 3) := by decide +kernel
theorem dX9_simulate_55 : decode cX9_simulate 55 = .ok (.goto (-31), 3) := by decide +kernel
theorem dX9_simulate_58 : decode cX9_simulate 58 = .ok (.aload_n 0, 1) := by decide +kernel
theorem dX9_simulate_59 : decode cX9_simulate 59 = .ok (.getfield 16, 3) := by decide +kernel
theorem dX9_simulate_62 : decode cX9_simulate 62 = .ok (.iconst 0, 1) := by decide +kernel
theorem dX9_simulate_63 : decode cX9_simulate 63 = .ok (.invokevirtual 164, 3) := by decide +kernel
theorem dX9_simulate_66 : decode cX9_simulate 66 = .ok (.invokevirtual 136, 3) := by decide +kernel
theorem dX9_simulate_69 : decode cX9_simulate 69 = .ok (.aload_n 0, 1) := by decide +kernel
theorem dX9_simulate_70 : decode cX9_simulate 70 = .ok (.getfield 16, 3) := by decide +kernel
theorem dX9_simulate_73 : decode cX9_simulate 73 = .ok (.iconst 1, 1) := by decide +kernel
theorem dX9_simulate_74 : decode cX9_simulate 74 = .ok (.invokevirtual 164, 3) := by decide +kernel
theorem dX9_simulate_77 : decode cX9_simulate 77 = .ok (.invokevirtual 136, 3) := by decide +kernel
theorem dX9_simulate_80 : decode cX9_simulate 80 = .ok (.iadd, 1) := by decide +kernel
theorem dX9_simulate_81 : decode cX9_simulate 81 = .ok (.ireturn, 1) := by decide +kernel
set_option maxRecDepth 20000 in
theorem ggX9_simulateRound_X2_table : GoodIn wsX9_simulateRound wsX2_table := goodIn_r _ [6, 7, 8, 99, 100] (by decide +kernel) (by decide +kernel)
set_option maxRecDepth 20000 in
theorem gX9_simulateRound_X2_table : GoodIn wsX9_simulateRound (wsV RX9 164 RX2 yX2_table wsX2_table) := goodIn_app (goodIn_of _ (by decide +kernel)) ggX9_simulateRound_X2_table
set_option maxRecDepth 20000 in
theorem ggX9_simulateRound_X7_cells : GoodIn wsX9_simulateRound wsX7_cells := goodIn_r _ [13, 14, 15, 16, 12, 17, 18, 101] (by decide +kernel) (by decide +kernel)
set_option maxRecDepth 20000 in
theorem gX9_simulateRound_X7_cells : GoodIn wsX9_simulateRound (wsV RX9 124 RX7 yX7_cells wsX7_cells) := goodIn_app (goodIn_of _ (by decide +kernel)) ggX9_simulateRound_X7_cells
set_option maxRecDepth 20000 in
theorem ggX9_simulateRound_X7_kthPlace : GoodIn wsX9_simulateRound wsX7_kthPlace := goodIn_r _ [22, 23, 24, 25, 12, 26, 27, 28, 29, 30, 31, 32, 33, 34, 35, 36, 37, 38, 18, 39, 40, 41, 42, 43, 44, 45, 46, 47, 48, 101] (by decide +kernel) (by decide +kernel)
set_option maxRecDepth 20000 in
theorem gX9_simulateRound_X7_kthPlace : GoodIn wsX9_simulateRound (wsV RX9 196 RX7 yX7_kthPlace wsX7_kthPlace) := goodIn_app (goodIn_of _ (by decide +kernel)) ggX9_simulateRound_X7_kthPlace
set_option maxRecDepth 20000 in
theorem ggX9_simulateRound_X9_rowOf : GoodIn wsX9_simulateRound wsX9_rowOf := goodIn_r _ [51] (by decide +kernel) (by decide +kernel)
set_option maxRecDepth 20000 in
theorem gX9_simulateRound_X9_rowOf : GoodIn wsX9_simulateRound (va_wsS RX9 284 yX9_rowOf wsX9_rowOf) := goodIn_app (goodIn_of _ (by decide +kernel)) ggX9_simulateRound_X9_rowOf
set_option maxRecDepth 20000 in
theorem ggX9_simulateRound_X9_columnOf : GoodIn wsX9_simulateRound wsX9_columnOf := goodIn_r _ [54] (by decide +kernel) (by decide +kernel)
set_option maxRecDepth 20000 in
theorem gX9_simulateRound_X9_columnOf : GoodIn wsX9_simulateRound (va_wsS RX9 287 yX9_columnOf wsX9_columnOf) := goodIn_app (goodIn_of _ (by decide +kernel)) ggX9_simulateRound_X9_columnOf
set_option maxRecDepth 20000 in
theorem ggX9_simulateRound_X7_takeAway : GoodIn wsX9_simulateRound wsX7_takeAway := goodIn_r _ [58, 59, 60, 61, 12, 62, 18, 63, 64, 65, 66, 35, 36, 37, 38, 67, 68, 69, 46, 47, 48, 50, 51, 53, 54, 101] (by decide +kernel) (by decide +kernel)
set_option maxRecDepth 20000 in
theorem gX9_simulateRound_X7_takeAway : GoodIn wsX9_simulateRound (wsV RX9 157 RX7 yX7_takeAway wsX7_takeAway) := goodIn_app (goodIn_of _ (by decide +kernel)) ggX9_simulateRound_X7_takeAway
set_option maxRecDepth 20000 in
theorem ggX9_simulateRound_X7_isFull : GoodIn wsX9_simulateRound wsX7_isFull := goodIn_r _ [73, 74, 75, 76, 12, 77, 35, 36, 37, 38, 18, 101] (by decide +kernel) (by decide +kernel)
set_option maxRecDepth 20000 in
theorem gX9_simulateRound_X7_isFull : GoodIn wsX9_simulateRound (wsV RX9 249 RX7 yX7_isFull wsX7_isFull) := goodIn_app (goodIn_of _ (by decide +kernel)) ggX9_simulateRound_X7_isFull
set_option maxRecDepth 20000 in
theorem ggX9_simulateRound_X7_takeIn : GoodIn wsX9_simulateRound wsX7_takeIn := goodIn_r _ [81, 82, 83, 84, 12, 85, 14, 15, 16, 17, 18, 46, 47, 48, 50, 51, 53, 54, 59, 60, 61, 62, 86, 87, 88, 89, 35, 36, 37, 38, 101] (by decide +kernel) (by decide +kernel)
set_option maxRecDepth 20000 in
theorem gX9_simulateRound_X7_takeIn : GoodIn wsX9_simulateRound (wsV RX9 154 RX7 yX7_takeIn wsX7_takeIn) := goodIn_app (goodIn_of _ (by decide +kernel)) ggX9_simulateRound_X7_takeIn
theorem dX9_simulateRound_0 : decode cX9_simulateRound 0 = .ok (.aload_n 0, 1) := by decide +kernel
theorem dX9_simulateRound_1 : decode cX9_simulateRound 1 = .ok (.getfield 16, 3) := by decide +kernel
theorem dX9_simulateRound_4 : decode cX9_simulateRound 4 = .ok (.iload_n 1, 1) := by decide +kernel
theorem dX9_simulateRound_5 : decode cX9_simulateRound 5 = .ok (.iconst 2, 1) := by decide +kernel
theorem dX9_simulateRound_6 : decode cX9_simulateRound 6 = .ok (.irem, 1) := by decide +kernel
theorem dX9_simulateRound_7 : decode cX9_simulateRound 7 = .ok (.invokevirtual 164, 3) := by decide +kernel
theorem dX9_simulateRound_10 : decode cX9_simulateRound 10 = .ok (.astore_n 2, 1) := by decide +kernel
theorem dX9_simulateRound_11 : decode cX9_simulateRound 11 = .ok (.aload_n 2, 1) := by decide +kernel
theorem dX9_simulateRound_12 : decode cX9_simulateRound 12 = .ok (.invokevirtual 124, 3) := by decide +kernel
theorem dX9_simulateRound_15 : decode cX9_simulateRound 15 = .ok (.istore_n 3, 1) := by decide +kernel
theorem dX9_simulateRound_16 : decode cX9_simulateRound 16 = .ok (.iload_n 1, 1) := by decide +kernel
theorem dX9_simulateRound_17 : decode cX9_simulateRound 17 = .ok (.iconst 2, 1) := by decide +kernel
theorem dX9_simulateRound_18 : decode cX9_simulateRound 18 = .ok (.idiv, 1) := by decide +kernel
theorem dX9_simulateRound_19 : decode cX9_simulateRound 19 = .ok (.iconst 4, 1) := by decide +kernel
theorem dX9_simulateRound_20 : decode cX9_simulateRound 20 = .ok (.irem, 1) := by decide +kernel
theorem dX9_simulateRound_21 : decode cX9_simulateRound 21 = .ok (.ifCond .ne 37, 3) := by decide +kernel
theorem dX9_simulateRound_24 : decode cX9_simulateRound 24 = .ok (.iload_n 3, 1) := by decide +kernel
theorem dX9_simulateRound_25 : decode cX9_simulateRound 25 = .ok (.ifCond .le 33, 3) := by decide +kernel
theorem dX9_simulateRound_28 : decode cX9_simulateRound 28 = .ok (.aload_n 2, 1) := by decide +kernel
theorem dX9_simulateRound_29 : decode cX9_simulateRound 29 = .ok (.iload_n 1, 1) := by decide +kernel
theorem dX9_simulateRound_30 : decode cX9_simulateRound 30 = .ok (.bipush 8, 2) := by decide +kernel
theorem dX9_simulateRound_32 : decode cX9_simulateRound 32 = .ok (.idiv, 1) := by decide +kernel
theorem dX9_simulateRound_33 : decode cX9_simulateRound 33 = .ok (.iload_n 3, 1) := by decide +kernel
theorem dX9_simulateRound_34 : decode cX9_simulateRound 34 = .ok (.irem, 1) := by decide +kernel
theorem dX9_simulateRound_35 : decode cX9_simulateRound 35 = .ok (.invokevirtual 196, 3) := by decide +kernel
theorem dX9_simulateRound_38 : decode cX9_simulateRound 38 = .ok (.istore 4, 2) := by decide +kernel
theorem dX9_simulateRound_40 : decode cX9_simulateRound 40 = .ok (.aload_n 2, 1) := by decide +kernel
theorem dX9_simulateRound_41 : decode cX9_simulateRound 41 = .ok (.iload 4, 2) := by decide +kernel
theorem dX9_simulateRound_43 : decode cX9_simulateRound 43 = .ok (.invokestatic 284, 3) := by decide +kernel
theorem dX9_simulateRound_46 : decode cX9_simulateRound 46 = .ok (.iload 4, 2) := by decide +kernel
theorem dX9_simulateRound_48 : decode cX9_simulateRound 48 = .ok (.invokestatic 287, 3) := by decide +kernel
theorem dX9_simulateRound_51 : decode cX9_simulateRound 51 = .ok (.invokevirtual 157, 3) := by decide +kernel
theorem dX9_simulateRound_54 : decode cX9_simulateRound 54 = .ok (.pop, 1) := by decide +kernel
theorem dX9_simulateRound_55 : decode cX9_simulateRound 55 = .ok (.goto 22, 3) := by decide +kernel
theorem dX9_simulateRound_58 : decode cX9_simulateRound 58 = .ok (.aload_n 2, 1) := by decide +kernel
theorem dX9_simulateRound_59 : decode cX9_simulateRound 59 = .ok (.invokevirtual 249, 3) := by decide +kernel
theorem dX9_simulateRound_62 : decode cX9_simulateRound 62 = .ok (.ifCond .ne 15, 3) := by decide +kernel
theorem dX9_simulateRound_65 : decode cX9_simulateRound 65 = .ok (.aload_n 2, 1) := by decide +kernel
theorem dX9_simulateRound_66 : decode cX9_simulateRound 66 = .ok (.iload_n 1, 1) := by decide +kernel
theorem dX9_simulateRound_67 : decode cX9_simulateRound 67 = .ok (.bipush 8, 2) := by decide +kernel
theorem dX9_simulateRound_69 : decode cX9_simulateRound 69 = .ok (.idiv, 1) := by decide +kernel
theorem dX9_simulateRound_70 : decode cX9_simulateRound 70 = .ok (.bipush 100, 2) := by decide +kernel
theorem dX9_simulateRound_72 : decode cX9_simulateRound 72 = .ok (.irem, 1) := by decide +kernel
theorem dX9_simulateRound_73 : decode cX9_simulateRound 73 = .ok (.invokevirtual 154, 3) := by decide +kernel
theorem dX9_simulateRound_76 : decode cX9_simulateRound 76 = .ok (.pop, 1) := by decide +kernel
theorem dX9_simulateRound_77 : decode cX9_simulateRound 77 = .ok (.return_, 1) := by decide +kernel
set_option maxRecDepth 20000 in
theorem ggX9_save_X9_existingSlot : GoodIn wsX9_save wsX9_existingSlot := goodIn_ca (goodIn_r _ [6, 7, 8, 9, 10, 47, 48, 49, 50, 51, 52, 53, 54, 55] (by decide +kernel) (by decide +kernel)) (goodIn_sub (fun _ h => List.mem_cons_of_mem _ (List.mem_append_right _ h)) (by decide +kernel))
set_option maxRecDepth 20000 in
theorem gX9_save_X9_existingSlot : GoodIn wsX9_save (wsV RX9 290 RX9 yX9_existingSlot wsX9_existingSlot) := goodIn_app (goodIn_of _ (by decide +kernel)) ggX9_save_X9_existingSlot
set_option maxRecDepth 20000 in
theorem ggX9_save_X6_fill : GoodIn wsX9_save wsX6_fill := goodIn_r _ [15, 16, 17, 18, 19, 20, 21, 22, 23, 24, 25, 26, 27, 28, 29, 30, 31, 32, 33, 34, 56, 57, 58, 59, 60] (by decide +kernel) (by decide +kernel)
set_option maxRecDepth 20000 in
theorem gX9_save_X6_fill : GoodIn wsX9_save (wsV RX9 294 RX6 yX6_fill wsX6_fill) := goodIn_app (goodIn_of _ (by decide +kernel)) ggX9_save_X6_fill
set_option maxRecDepth 20000 in
theorem ggX9_save_X2_cells : GoodIn wsX9_save wsX2_cells := goodIn_r _ [38, 23, 24, 39, 40, 41, 28, 42, 43, 44, 45, 46, 30, 58, 59, 60] (by decide +kernel) (by decide +kernel)
set_option maxRecDepth 20000 in
theorem gX9_save_X2_cells : GoodIn wsX9_save (wsV RX9 108 RX2 yX2_cells wsX2_cells) := goodIn_app (goodIn_of _ (by decide +kernel)) ggX9_save_X2_cells
theorem dX9_save_0 : decode cX9_save 0 = .ok (.aload_n 0, 1) := by decide +kernel
theorem dX9_save_1 : decode cX9_save 1 = .ok (.iload_n 1, 1) := by decide +kernel
theorem dX9_save_2 : decode cX9_save 2 = .ok (.invokevirtual 290, 3) := by decide +kernel
theorem dX9_save_5 : decode cX9_save 5 = .ok (.aload_n 0, 1) := by decide +kernel
theorem dX9_save_6 : decode cX9_save 6 = .ok (.getfield 12, 3) := by decide +kernel
theorem dX9_save_9 : decode cX9_save 9 = .ok (.invokevirtual 294, 3) := by decide +kernel
theorem dX9_save_12 : decode cX9_save 12 = .ok (.aload_n 0, 1) := by decide +kernel
theorem dX9_save_13 : decode cX9_save 13 = .ok (.getfield 12, 3) := by decide +kernel
theorem dX9_save_16 : decode cX9_save 16 = .ok (.invokevirtual 108, 3) := by decide +kernel
theorem dX9_save_19 : decode cX9_save 19 = .ok (.ireturn, 1) := by decide +kernel
set_option maxRecDepth 20000 in
theorem ggX9_restore_X9_existingSlot : GoodIn wsX9_restore wsX9_existingSlot := goodIn_ca (goodIn_r _ [9, 10, 11, 12, 13, 60, 61, 62, 63, 64, 65, 66, 67, 68] (by decide +kernel) (by decide +kernel)) (goodIn_sub (fun _ h => List.mem_cons_of_mem _ (List.mem_append_right _ h)) (by decide +kernel))
set_option maxRecDepth 20000 in
theorem gX9_restore_X9_existingSlot : GoodIn wsX9_restore (wsV RX9 290 RX9 yX9_existingSlot wsX9_existingSlot) := goodIn_app (goodIn_of _ (by decide +kernel)) ggX9_restore_X9_existingSlot
set_option maxRecDepth 20000 in
theorem ggX9_restore_X6_isFilled : GoodIn wsX9_restore wsX6_isFilled := goodIn_r _ [18, 19, 69, 70] (by decide +kernel) (by decide +kernel)
set_option maxRecDepth 20000 in
theorem gX9_restore_X6_isFilled : GoodIn wsX9_restore (wsV RX9 297 RX6 yX6_isFilled wsX6_isFilled) := goodIn_app (goodIn_of _ (by decide +kernel)) ggX9_restore_X6_isFilled
set_option maxRecDepth 20000 in
theorem ggX9_restore_X6_tables : GoodIn wsX9_restore wsX6_tables := goodIn_r _ [23, 24, 69, 70] (by decide +kernel) (by decide +kernel)
set_option maxRecDepth 20000 in
theorem gX9_restore_X6_tables : GoodIn wsX9_restore (wsV RX9 302 RX6 yX6_tables wsX6_tables) := goodIn_app (goodIn_of _ (by decide +kernel)) ggX9_restore_X6_tables
set_option maxRecDepth 20000 in
theorem ggX9_restore_X2_copyFrom : GoodIn wsX9_restore wsX2_copyFrom := goodIn_r _ [29, 30, 31, 32, 33, 34, 35, 36, 37, 38, 39, 40, 41, 71, 72, 73] (by decide +kernel) (by decide +kernel)
set_option maxRecDepth 20000 in
theorem gX9_restore_X2_copyFrom : GoodIn wsX9_restore (wsV RX9 100 RX2 yX2_copyFrom wsX2_copyFrom) := goodIn_app (goodIn_of _ (by decide +kernel)) ggX9_restore_X2_copyFrom
set_option maxRecDepth 20000 in
theorem ggX9_restore_X3_forgetAll : GoodIn wsX9_restore wsX3_forgetAll := goodIn_r _ [46, 47, 74, 75, 76] (by decide +kernel) (by decide +kernel)
set_option maxRecDepth 20000 in
theorem gX9_restore_X3_forgetAll : GoodIn wsX9_restore (wsV RX9 104 RX3 yX3_forgetAll wsX3_forgetAll) := goodIn_app (goodIn_of _ (by decide +kernel)) ggX9_restore_X3_forgetAll
set_option maxRecDepth 20000 in
theorem ggX9_restore_X2_cells : GoodIn wsX9_restore wsX2_cells := goodIn_r _ [51, 30, 31, 52, 53, 54, 35, 55, 56, 57, 58, 59, 37, 71, 72, 73] (by decide +kernel) (by decide +kernel)
set_option maxRecDepth 20000 in
theorem gX9_restore_X2_cells : GoodIn wsX9_restore (wsV RX9 108 RX2 yX2_cells wsX2_cells) := goodIn_app (goodIn_of _ (by decide +kernel)) ggX9_restore_X2_cells
theorem dX9_restore_0 : decode cX9_restore 0 = .ok (.aload_n 0, 1) := by decide +kernel
theorem dX9_restore_1 : decode cX9_restore 1 = .ok (.iload_n 1, 1) := by decide +kernel
theorem dX9_restore_2 : decode cX9_restore 2 = .ok (.invokevirtual 290, 3) := by decide +kernel
theorem dX9_restore_5 : decode cX9_restore 5 = .ok (.astore_n 2, 1) := by decide +kernel
theorem dX9_restore_6 : decode cX9_restore 6 = .ok (.aload_n 2, 1) := by decide +kernel
theorem dX9_restore_7 : decode cX9_restore 7 = .ok (.invokevirtual 297, 3) := by decide +kernel
theorem dX9_restore_10 : decode cX9_restore 10 = .ok (.ifCond .ne 14, 3) := by decide +kernel
theorem dX9_restore_13 : decode cX9_restore 13 = .ok (.new 72, 3) := by decide +kernel
theorem dX9_restore_16 : decode cX9_restore 16 = .ok (.dup, 1) := by decide +kernel
theorem dX9_restore_17 : decode cX9_restore 17 = .ok (.ldc_w 300, 3) := by decide +kernel
theorem dX9_restore_20 : decode cX9_restore 20 = .ok (.invokespecial 76, 3) := by decide +kernel
theorem dX9_restore_23 : decode cX9_restore 23 = .ok (.athrow, 1) := by decide +kernel
theorem dX9_restore_24 : decode cX9_restore 24 = .ok (.aload_n 0, 1) := by decide +kernel
theorem dX9_restore_25 : decode cX9_restore 25 = .ok (.getfield 12, 3) := by decide +kernel
theorem dX9_restore_28 : decode cX9_restore 28 = .ok (.aload_n 2, 1) := by decide +kernel
theorem dX9_restore_29 : decode cX9_restore 29 = .ok (.invokevirtual 302, 3) := by decide +kernel
theorem dX9_restore_32 : decode cX9_restore 32 = .ok (.invokevirtual 100, 3) := by decide +kernel
theorem dX9_restore_35 : decode cX9_restore 35 = .ok (.aload_n 0, 1) := by decide +kernel
theorem dX9_restore_36 : decode cX9_restore 36 = .ok (.getfield 22, 3) := by decide +kernel
theorem dX9_restore_39 : decode cX9_restore 39 = .ok (.invokevirtual 104, 3) := by decide +kernel
theorem dX9_restore_42 : decode cX9_restore 42 = .ok (.aload_n 0, 1) := by decide +kernel
theorem dX9_restore_43 : decode cX9_restore 43 = .ok (.getfield 12, 3) := by decide +kernel
theorem dX9_restore_46 : decode cX9_restore 46 = .ok (.invokevirtual 108, 3) := by decide +kernel
theorem dX9_restore_49 : decode cX9_restore 49 = .ok (.ireturn, 1) := by decide +kernel
set_option maxRecDepth 20000 in
theorem ggX9_existingTable_X2_table : GoodIn wsX9_existingTable wsX2_table := goodIn_r _ [8, 9, 10, 20, 21] (by decide +kernel) (by decide +kernel)
set_option maxRecDepth 20000 in
theorem gX9_existingTable_X2_table : GoodIn wsX9_existingTable (wsV RX9 164 RX2 yX2_table wsX2_table) := goodIn_app (goodIn_of _ (by decide +kernel)) ggX9_existingTable_X2_table
theorem dX9_existingTable_0 : decode cX9_existingTable 0 = .ok (.iload_n 1, 1) := by decide +kernel
theorem dX9_existingTable_1 : decode cX9_existingTable 1 = .ok (.ifCond .lt 8, 3) := by decide +kernel
theorem dX9_existingTable_4 : decode cX9_existingTable 4 = .ok (.iload_n 1, 1) := by decide +kernel
theorem dX9_existingTable_5 : decode cX9_existingTable 5 = .ok (.iconst 1, 1) := by decide +kernel
theorem dX9_existingTable_6 : decode cX9_existingTable 6 = .ok (.if_icmp .le 14, 3) := by decide +kernel
theorem dX9_existingTable_9 : decode cX9_existingTable 9 = .ok (.new 303, 3) := by decide +kernel
theorem dX9_existingTable_12 : decode cX9_existingTable 12 = .ok (.dup, 1) := by decide +kernel
theorem dX9_existingTable_13 : decode cX9_existingTable 13 = .ok (.ldc_w 305, 3) := by decide +kernel
theorem dX9_existingTable_16 : decode cX9_existingTable 16 = .ok (.invokespecial 307, 3) := by decide +kernel
theorem dX9_existingTable_19 : decode cX9_existingTable 19 = .ok (.athrow, 1) := by decide +kernel
theorem dX9_existingTable_20 : decode cX9_existingTable 20 = .ok (.aload_n 0, 1) := by decide +kernel
theorem dX9_existingTable_21 : decode cX9_existingTable 21 = .ok (.getfield 12, 3) := by decide +kernel
theorem dX9_existingTable_24 : decode cX9_existingTable 24 = .ok (.iload_n 1, 1) := by decide +kernel
theorem dX9_existingTable_25 : decode cX9_existingTable 25 = .ok (.invokevirtual 164, 3) := by decide +kernel
theorem dX9_existingTable_28 : decode cX9_existingTable 28 = .ok (.areturn, 1) := by decide +kernel
set_option maxRecDepth 20000 in
theorem ggX9_tableWithCell_X9_existingTable : GoodIn wsX9_tableWithCell wsX9_existingTable := goodIn_ca (goodIn_r _ [7, 1, 2, 8, 9, 10, 11, 12, 13, 14, 15, 26, 27, 28, 29, 30, 31, 32, 33, 34, 35, 36] (by decide +kernel) (by decide +kernel)) (goodIn_sub (fun _ h => List.mem_cons_of_mem _ (List.mem_append_right _ h)) (by decide +kernel))
set_option maxRecDepth 20000 in
theorem gX9_tableWithCell_X9_existingTable : GoodIn wsX9_tableWithCell (wsV RX9 111 RX9 yX9_existingTable wsX9_existingTable) := goodIn_app (goodIn_of _ (by decide +kernel)) ggX9_tableWithCell_X9_existingTable
set_option maxRecDepth 20000 in
theorem ggX9_tableWithCell_X7_has : GoodIn wsX9_tableWithCell wsX7_has := goodIn_r _ [20, 21, 22, 23, 19, 24, 25, 37] (by decide +kernel) (by decide +kernel)
set_option maxRecDepth 20000 in
theorem gX9_tableWithCell_X7_has : GoodIn wsX9_tableWithCell (wsV RX9 125 RX7 yX7_has wsX7_has) := goodIn_app (goodIn_of _ (by decide +kernel)) ggX9_tableWithCell_X7_has
theorem dX9_tableWithCell_0 : decode cX9_tableWithCell 0 = .ok (.aload_n 0, 1) := by decide +kernel
theorem dX9_tableWithCell_1 : decode cX9_tableWithCell 1 = .ok (.iload_n 1, 1) := by decide +kernel
theorem dX9_tableWithCell_2 : decode cX9_tableWithCell 2 = .ok (.invokevirtual 111, 3) := by decide +kernel
theorem dX9_tableWithCell_5 : decode cX9_tableWithCell 5 = .ok (.astore 4, 2) := by decide +kernel
theorem dX9_tableWithCell_7 : decode cX9_tableWithCell 7 = .ok (.aload 4, 2) := by decide +kernel
theorem dX9_tableWithCell_9 : decode cX9_tableWithCell 9 = .ok (.iload_n 2, 1) := by decide +kernel
theorem dX9_tableWithCell_10 : decode cX9_tableWithCell 10 = .ok (.iload_n 3, 1) := by decide +kernel
theorem dX9_tableWithCell_11 : decode cX9_tableWithCell 11 = .ok (.invokevirtual 125, 3) := by decide +kernel
theorem dX9_tableWithCell_14 : decode cX9_tableWithCell 14 = .ok (.ifCond .ne 14, 3) := by decide +kernel
theorem dX9_tableWithCell_17 : decode cX9_tableWithCell 17 = .ok (.new 303, 3) := by decide +kernel
theorem dX9_tableWithCell_20 : decode cX9_tableWithCell 20 = .ok (.dup, 1) := by decide +kernel
theorem dX9_tableWithCell_21 : decode cX9_tableWithCell 21 = .ok (.ldc_w 308, 3) := by decide +kernel
theorem dX9_tableWithCell_24 : decode cX9_tableWithCell 24 = .ok (.invokespecial 307, 3) := by decide +kernel
theorem dX9_tableWithCell_27 : decode cX9_tableWithCell 27 = .ok (.athrow, 1) := by decide +kernel
theorem dX9_tableWithCell_28 : decode cX9_tableWithCell 28 = .ok (.aload 4, 2) := by decide +kernel
theorem dX9_tableWithCell_30 : decode cX9_tableWithCell 30 = .ok (.areturn, 1) := by decide +kernel
theorem dX9_existingSlot_0 : decode cX9_existingSlot 0 = .ok (.iload_n 1, 1) := by decide +kernel
theorem dX9_existingSlot_1 : decode cX9_existingSlot 1 = .ok (.ifCond .lt 8, 3) := by decide +kernel
theorem dX9_existingSlot_4 : decode cX9_existingSlot 4 = .ok (.iload_n 1, 1) := by decide +kernel
theorem dX9_existingSlot_5 : decode cX9_existingSlot 5 = .ok (.iconst 1, 1) := by decide +kernel
theorem dX9_existingSlot_6 : decode cX9_existingSlot 6 = .ok (.if_icmp .le 14, 3) := by decide +kernel
theorem dX9_existingSlot_9 : decode cX9_existingSlot 9 = .ok (.new 303, 3) := by decide +kernel
theorem dX9_existingSlot_12 : decode cX9_existingSlot 12 = .ok (.dup, 1) := by decide +kernel
theorem dX9_existingSlot_13 : decode cX9_existingSlot 13 = .ok (.ldc_w 310, 3) := by decide +kernel
theorem dX9_existingSlot_16 : decode cX9_existingSlot 16 = .ok (.invokespecial 307, 3) := by decide +kernel
theorem dX9_existingSlot_19 : decode cX9_existingSlot 19 = .ok (.athrow, 1) := by decide +kernel
theorem dX9_existingSlot_20 : decode cX9_existingSlot 20 = .ok (.iload_n 1, 1) := by decide +kernel
theorem dX9_existingSlot_21 : decode cX9_existingSlot 21 = .ok (.ifCond .ne 10, 3) := by decide +kernel
theorem dX9_existingSlot_24 : decode cX9_existingSlot 24 = .ok (.aload_n 0, 1) := by decide +kernel
theorem dX9_existingSlot_25 : decode cX9_existingSlot 25 = .ok (.getfield 43, 3) := by decide +kernel
theorem dX9_existingSlot_28 : decode cX9_existingSlot 28 = .ok (.goto 7, 3) := by decide +kernel
theorem dX9_existingSlot_31 : decode cX9_existingSlot 31 = .ok (.aload_n 0, 1) := by decide +kernel
theorem dX9_existingSlot_32 : decode cX9_existingSlot 32 = .ok (.getfield 47, 3) := by decide +kernel
theorem dX9_existingSlot_35 : decode cX9_existingSlot 35 = .ok (.areturn, 1) := by decide +kernel
theorem dX9_requireRange_0 : decode cX9_requireRange 0 = .ok (.iload_n 0, 1) := by decide +kernel
theorem dX9_requireRange_1 : decode cX9_requireRange 1 = .ok (.iload_n 1, 1) := by decide +kernel
theorem dX9_requireRange_2 : decode cX9_requireRange 2 = .ok (.if_icmp .lt 8, 3) := by decide +kernel
theorem dX9_requireRange_5 : decode cX9_requireRange 5 = .ok (.iload_n 0, 1) := by decide +kernel
theorem dX9_requireRange_6 : decode cX9_requireRange 6 = .ok (.iload_n 2, 1) := by decide +kernel
theorem dX9_requireRange_7 : decode cX9_requireRange 7 = .ok (.if_icmp .le 14, 3) := by decide +kernel
theorem dX9_requireRange_10 : decode cX9_requireRange 10 = .ok (.new 264, 3) := by decide +kernel
theorem dX9_requireRange_13 : decode cX9_requireRange 13 = .ok (.dup, 1) := by decide +kernel
theorem dX9_requireRange_14 : decode cX9_requireRange 14 = .ok (.ldc_w 312, 3) := by decide +kernel
theorem dX9_requireRange_17 : decode cX9_requireRange 17 = .ok (.invokespecial 268, 3) := by decide +kernel
theorem dX9_requireRange_20 : decode cX9_requireRange 20 = .ok (.athrow, 1) := by decide +kernel
theorem dX9_requireRange_21 : decode cX9_requireRange 21 = .ok (.return_, 1) := by decide +kernel
theorem dX9_requireNotNegative_0 : decode cX9_requireNotNegative 0 = .ok (.iload_n 0, 1) := by decide +kernel
theorem dX9_requireNotNegative_1 : decode cX9_requireNotNegative 1 = .ok (.ifCond .ge 14, 3) := by decide +kernel
theorem dX9_requireNotNegative_4 : decode cX9_requireNotNegative 4 = .ok (.new 264, 3) := by decide +kernel
theorem dX9_requireNotNegative_7 : decode cX9_requireNotNegative 7 = .ok (.dup, 1) := by decide +kernel
theorem dX9_requireNotNegative_8 : decode cX9_requireNotNegative 8 = .ok (.ldc_w 314, 3) := by decide +kernel
theorem dX9_requireNotNegative_11 : decode cX9_requireNotNegative 11 = .ok (.invokespecial 268, 3) := by decide +kernel
theorem dX9_requireNotNegative_14 : decode cX9_requireNotNegative 14 = .ok (.athrow, 1) := by decide +kernel
theorem dX9_requireNotNegative_15 : decode cX9_requireNotNegative 15 = .ok (.return_, 1) := by decide +kernel
set_option maxRecDepth 20000 in
theorem ggX9_requireWindow_X9_requireRange : GoodIn wsX9_requireWindow wsX9_requireRange := goodIn_ca (goodIn_r _ [4, 5, 6] (by decide +kernel) (by decide +kernel)) (goodIn_sub (fun _ h => List.mem_cons_of_mem _ (List.mem_append_right _ h)) (by decide +kernel))
set_option maxRecDepth 20000 in
theorem gX9_requireWindow_X9_requireRange : GoodIn wsX9_requireWindow (va_wsS RX9 64 yX9_requireRange wsX9_requireRange) := goodIn_app (goodIn_of _ (by decide +kernel)) ggX9_requireWindow_X9_requireRange
theorem dX9_requireWindow_0 : decode cX9_requireWindow 0 = .ok (.iload_n 0, 1) := by decide +kernel
theorem dX9_requireWindow_1 : decode cX9_requireWindow 1 = .ok (.iconst 0, 1) := by decide +kernel
theorem dX9_requireWindow_2 : decode cX9_requireWindow 2 = .ok (.iconst 5, 1) := by decide +kernel
theorem dX9_requireWindow_3 : decode cX9_requireWindow 3 = .ok (.invokestatic 64, 3) := by decide +kernel
theorem dX9_requireWindow_6 : decode cX9_requireWindow 6 = .ok (.iload_n 1, 1) := by decide +kernel
theorem dX9_requireWindow_7 : decode cX9_requireWindow 7 = .ok (.iconst 0, 1) := by decide +kernel
theorem dX9_requireWindow_8 : decode cX9_requireWindow 8 = .ok (.iconst 5, 1) := by decide +kernel
theorem dX9_requireWindow_9 : decode cX9_requireWindow 9 = .ok (.invokestatic 64, 3) := by decide +kernel
theorem dX9_requireWindow_12 : decode cX9_requireWindow 12 = .ok (.iload_n 2, 1) := by decide +kernel
theorem dX9_requireWindow_13 : decode cX9_requireWindow 13 = .ok (.iconst 1, 1) := by decide +kernel
theorem dX9_requireWindow_14 : decode cX9_requireWindow 14 = .ok (.bipush 6, 2) := by decide +kernel
theorem dX9_requireWindow_16 : decode cX9_requireWindow 16 = .ok (.invokestatic 64, 3) := by decide +kernel
theorem dX9_requireWindow_19 : decode cX9_requireWindow 19 = .ok (.iload_n 3, 1) := by decide +kernel
theorem dX9_requireWindow_20 : decode cX9_requireWindow 20 = .ok (.iconst 1, 1) := by decide +kernel
theorem dX9_requireWindow_21 : decode cX9_requireWindow 21 = .ok (.bipush 6, 2) := by decide +kernel
theorem dX9_requireWindow_23 : decode cX9_requireWindow 23 = .ok (.invokestatic 64, 3) := by decide +kernel
theorem dX9_requireWindow_26 : decode cX9_requireWindow 26 = .ok (.return_, 1) := by decide +kernel
set_option maxRecDepth 20000 in
theorem ggX9_requireGap_X7_isFull : GoodIn wsX9_requireGap wsX7_isFull := goodIn_r _ [7, 8, 9, 10, 6, 11, 12, 13, 14, 15, 16, 17] (by decide +kernel) (by decide +kernel)
set_option maxRecDepth 20000 in
theorem gX9_requireGap_X7_isFull : GoodIn wsX9_requireGap (wsV RX9 249 RX7 yX7_isFull wsX7_isFull) := goodIn_app (goodIn_of _ (by decide +kernel)) ggX9_requireGap_X7_isFull
theorem dX9_requireGap_0 : decode cX9_requireGap 0 = .ok (.aload_n 0, 1) := by decide +kernel
theorem dX9_requireGap_1 : decode cX9_requireGap 1 = .ok (.invokevirtual 249, 3) := by decide +kernel
theorem dX9_requireGap_4 : decode cX9_requireGap 4 = .ok (.ifCond .eq 14, 3) := by decide +kernel
theorem dX9_requireGap_7 : decode cX9_requireGap 7 = .ok (.new 72, 3) := by decide +kernel
theorem dX9_requireGap_10 : decode cX9_requireGap 10 = .ok (.dup, 1) := by decide +kernel
theorem dX9_requireGap_11 : decode cX9_requireGap 11 = .ok (.ldc_w 316, 3) := by decide +kernel
theorem dX9_requireGap_14 : decode cX9_requireGap 14 = .ok (.invokespecial 76, 3) := by decide +kernel
theorem dX9_requireGap_17 : decode cX9_requireGap 17 = .ok (.athrow, 1) := by decide +kernel
theorem dX9_requireGap_18 : decode cX9_requireGap 18 = .ok (.return_, 1) := by decide +kernel
theorem dX9_placeOf_0 : decode cX9_placeOf 0 = .ok (.bipush 10, 2) := by decide +kernel
theorem dX9_placeOf_2 : decode cX9_placeOf 2 = .ok (.iload_n 0, 1) := by decide +kernel
theorem dX9_placeOf_3 : decode cX9_placeOf 3 = .ok (.imul, 1) := by decide +kernel
theorem dX9_placeOf_4 : decode cX9_placeOf 4 = .ok (.iload_n 1, 1) := by decide +kernel
theorem dX9_placeOf_5 : decode cX9_placeOf 5 = .ok (.iadd, 1) := by decide +kernel
theorem dX9_placeOf_6 : decode cX9_placeOf 6 = .ok (.ireturn, 1) := by decide +kernel
theorem dX9_rowOf_0 : decode cX9_rowOf 0 = .ok (.iload_n 0, 1) := by decide +kernel
theorem dX9_rowOf_1 : decode cX9_rowOf 1 = .ok (.bipush 10, 2) := by decide +kernel
theorem dX9_rowOf_3 : decode cX9_rowOf 3 = .ok (.idiv, 1) := by decide +kernel
theorem dX9_rowOf_4 : decode cX9_rowOf 4 = .ok (.ireturn, 1) := by decide +kernel
theorem dX9_columnOf_0 : decode cX9_columnOf 0 = .ok (.iload_n 0, 1) := by decide +kernel
theorem dX9_columnOf_1 : decode cX9_columnOf 1 = .ok (.bipush 10, 2) := by decide +kernel
theorem dX9_columnOf_3 : decode cX9_columnOf 3 = .ok (.irem, 1) := by decide +kernel
theorem dX9_columnOf_4 : decode cX9_columnOf 4 = .ok (.ireturn, 1) := by decide +kernel
set_option maxRecDepth 20000 in
theorem ggX9_stepsFromOrigin_X9_rowOf : GoodIn wsX9_stepsFromOrigin wsX9_rowOf := goodIn_r _ [4] (by decide +kernel) (by decide +kernel)
set_option maxRecDepth 20000 in
theorem gX9_stepsFromOrigin_X9_rowOf : GoodIn wsX9_stepsFromOrigin (va_wsS RX9 284 yX9_rowOf wsX9_rowOf) := goodIn_app (goodIn_of _ (by decide +kernel)) ggX9_stepsFromOrigin_X9_rowOf
set_option maxRecDepth 20000 in
theorem ggX9_stepsFromOrigin_X9_columnOf : GoodIn wsX9_stepsFromOrigin wsX9_columnOf := goodIn_r _ [7] (by decide +kernel) (by decide +kernel)
set_option maxRecDepth 20000 in
theorem gX9_stepsFromOrigin_X9_columnOf : GoodIn wsX9_stepsFromOrigin (va_wsS RX9 287 yX9_columnOf wsX9_columnOf) := goodIn_app (goodIn_of _ (by decide +kernel)) ggX9_stepsFromOrigin_X9_columnOf
theorem dX9_stepsFromOrigin_0 : decode cX9_stepsFromOrigin 0 = .ok (.iload_n 0, 1) := by decide +kernel
theorem dX9_stepsFromOrigin_1 : decode cX9_stepsFromOrigin 1 = .ok (.invokestatic 284, 3) := by decide +kernel
theorem dX9_stepsFromOrigin_4 : decode cX9_stepsFromOrigin 4 = .ok (.iload_n 0, 1) := by decide +kernel
theorem dX9_stepsFromOrigin_5 : decode cX9_stepsFromOrigin 5 = .ok (.invokestatic 287, 3) := by decide +kernel
theorem dX9_stepsFromOrigin_8 : decode cX9_stepsFromOrigin 8 = .ok (.iadd, 1) := by decide +kernel
theorem dX9_stepsFromOrigin_9 : decode cX9_stepsFromOrigin 9 = .ok (.ireturn, 1) := by decide +kernel
theorem dX9_lastOf_0 : decode cX9_lastOf 0 = .ok (.iload_n 0, 1) := by decide +kernel
theorem dX9_lastOf_1 : decode cX9_lastOf 1 = .ok (.iload_n 1, 1) := by decide +kernel
theorem dX9_lastOf_2 : decode cX9_lastOf 2 = .ok (.iadd, 1) := by decide +kernel
theorem dX9_lastOf_3 : decode cX9_lastOf 3 = .ok (.iconst 1, 1) := by decide +kernel
theorem dX9_lastOf_4 : decode cX9_lastOf 4 = .ok (.isub, 1) := by decide +kernel
theorem dX9_lastOf_5 : decode cX9_lastOf 5 = .ok (.iconst 5, 1) := by decide +kernel
theorem dX9_lastOf_6 : decode cX9_lastOf 6 = .ok (.invokestatic 318, 3) := by decide +kernel
theorem dX9_lastOf_9 : decode cX9_lastOf 9 = .ok (.ireturn, 1) := by decide +kernel
theorem dJ9_max_7cf53_0 : decode cJ9_max_7cf53 0 = .ok (.iload_n 0, 1) := by decide +kernel
theorem dJ9_max_7cf53_1 : decode cJ9_max_7cf53 1 = .ok (.iload_n 1, 1) := by decide +kernel
theorem dJ9_max_7cf53_2 : decode cJ9_max_7cf53 2 = .ok (.if_icmp .lt 7, 3) := by decide +kernel
theorem dJ9_max_7cf53_5 : decode cJ9_max_7cf53 5 = .ok (.iload_n 0, 1) := by decide +kernel
theorem dJ9_max_7cf53_6 : decode cJ9_max_7cf53 6 = .ok (.goto 4, 3) := by decide +kernel
theorem dJ9_max_7cf53_9 : decode cJ9_max_7cf53 9 = .ok (.iload_n 1, 1) := by decide +kernel
theorem dJ9_max_7cf53_10 : decode cJ9_max_7cf53 10 = .ok (.ireturn, 1) := by decide +kernel
theorem dJ9_min_7cf53_0 : decode cJ9_min_7cf53 0 = .ok (.iload_n 0, 1) := by decide +kernel
theorem dJ9_min_7cf53_1 : decode cJ9_min_7cf53 1 = .ok (.iload_n 1, 1) := by decide +kernel
theorem dJ9_min_7cf53_2 : decode cJ9_min_7cf53 2 = .ok (.if_icmp .gt 7, 3) := by decide +kernel
theorem dJ9_min_7cf53_5 : decode cJ9_min_7cf53 5 = .ok (.iload_n 0, 1) := by decide +kernel
theorem dJ9_min_7cf53_6 : decode cJ9_min_7cf53 6 = .ok (.goto 4, 3) := by decide +kernel
theorem dJ9_min_7cf53_9 : decode cJ9_min_7cf53 9 = .ok (.iload_n 1, 1) := by decide +kernel
theorem dJ9_min_7cf53_10 : decode cJ9_min_7cf53 10 = .ok (.ireturn, 1) := by decide +kernel
