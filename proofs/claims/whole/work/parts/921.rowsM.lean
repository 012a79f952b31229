theorem dX10_init_0 : decode cX10_init 0 = .ok (.aload_n 0, 1) := by decide +kernel
theorem dX10_init_1 : decode cX10_init 1 = .ok (.invokespecial 1, 3) := by decide +kernel
theorem dX10_init_4 : decode cX10_init 4 = .ok (.aload_n 0, 1) := by decide +kernel
theorem dX10_init_5 : decode cX10_init 5 = .ok (.sipush 160, 3) := by decide +kernel
theorem dX10_init_8 : decode cX10_init 8 = .ok (.newarray .int, 2) := by decide +kernel
theorem dX10_init_10 : decode cX10_init 10 = .ok (.putfield 7, 3) := by decide +kernel
theorem dX10_init_13 : decode cX10_init 13 = .ok (.aload_n 0, 1) := by decide +kernel
theorem dX10_init_14 : decode cX10_init 14 = .ok (.bipush 84, 2) := by decide +kernel
theorem dX10_init_16 : decode cX10_init 16 = .ok (.newarray .int, 2) := by decide +kernel
theorem dX10_init_18 : decode cX10_init 18 = .ok (.putfield 13, 3) := by decide +kernel
theorem dX10_init_21 : decode cX10_init 21 = .ok (.aload_n 0, 1) := by decide +kernel
theorem dX10_init_22 : decode cX10_init 22 = .ok (.bipush 84, 2) := by decide +kernel
theorem dX10_init_24 : decode cX10_init 24 = .ok (.newarray .int, 2) := by decide +kernel
theorem dX10_init_26 : decode cX10_init 26 = .ok (.putfield 16, 3) := by decide +kernel
theorem dX10_init_29 : decode cX10_init 29 = .ok (.aload_n 0, 1) := by decide +kernel
theorem dX10_init_30 : decode cX10_init 30 = .ok (.bipush 84, 2) := by decide +kernel
theorem dX10_init_32 : decode cX10_init 32 = .ok (.newarray .int, 2) := by decide +kernel
theorem dX10_init_34 : decode cX10_init 34 = .ok (.putfield 19, 3) := by decide +kernel
theorem dX10_init_37 : decode cX10_init 37 = .ok (.aload_n 0, 1) := by decide +kernel
theorem dX10_init_38 : decode cX10_init 38 = .ok (.sipush 1176, 3) := by decide +kernel
theorem dX10_init_41 : decode cX10_init 41 = .ok (.newarray .int, 2) := by decide +kernel
theorem dX10_init_43 : decode cX10_init 43 = .ok (.putfield 22, 3) := by decide +kernel
theorem dX10_init_46 : decode cX10_init 46 = .ok (.aload_n 0, 1) := by decide +kernel
theorem dX10_init_47 : decode cX10_init 47 = .ok (.sipush 168, 3) := by decide +kernel
theorem dX10_init_50 : decode cX10_init 50 = .ok (.newarray .int, 2) := by decide +kernel
theorem dX10_init_52 : decode cX10_init 52 = .ok (.putfield 25, 3) := by decide +kernel
theorem dX10_init_55 : decode cX10_init 55 = .ok (.aload_n 0, 1) := by decide +kernel
theorem dX10_init_56 : decode cX10_init 56 = .ok (.iconst 2, 1) := by decide +kernel
theorem dX10_init_57 : decode cX10_init 57 = .ok (.newarray .boolean, 2) := by decide +kernel
theorem dX10_init_59 : decode cX10_init 59 = .ok (.putfield 28, 3) := by decide +kernel
theorem dX10_init_62 : decode cX10_init 62 = .ok (.aload_n 0, 1) := by decide +kernel
theorem dX10_init_63 : decode cX10_init 63 = .ok (.bipush 36, 2) := by decide +kernel
theorem dX10_init_65 : decode cX10_init 65 = .ok (.newarray .int, 2) := by decide +kernel
theorem dX10_init_67 : decode cX10_init 67 = .ok (.putfield 32, 3) := by decide +kernel
theorem dX10_init_70 : decode cX10_init 70 = .ok (.aload_n 0, 1) := by decide +kernel
theorem dX10_init_71 : decode cX10_init 71 = .ok (.bipush 37, 2) := by decide +kernel
theorem dX10_init_73 : decode cX10_init 73 = .ok (.newarray .int, 2) := by decide +kernel
theorem dX10_init_75 : decode cX10_init 75 = .ok (.putfield 35, 3) := by decide +kernel
theorem dX10_init_78 : decode cX10_init 78 = .ok (.aload_n 0, 1) := by decide +kernel
theorem dX10_init_79 : decode cX10_init 79 = .ok (.bipush 42, 2) := by decide +kernel
theorem dX10_init_81 : decode cX10_init 81 = .ok (.newarray .int, 2) := by decide +kernel
theorem dX10_init_83 : decode cX10_init 83 = .ok (.putfield 38, 3) := by decide +kernel
theorem dX10_init_86 : decode cX10_init 86 = .ok (.return_, 1) := by decide +kernel
theorem dX10_thrown_0 : decode cX10_thrown 0 = .ok (.aload_n 0, 1) := by decide +kernel
theorem dX10_thrown_1 : decode cX10_thrown 1 = .ok (.getfield 41, 3) := by decide +kernel
theorem dX10_thrown_4 : decode cX10_thrown 4 = .ok (.ireturn, 1) := by decide +kernel
theorem dX10_refused_0 : decode cX10_refused 0 = .ok (.aload_n 0, 1) := by decide +kernel
theorem dX10_refused_1 : decode cX10_refused 1 = .ok (.iload_n 1, 1) := by decide +kernel
theorem dX10_refused_2 : decode cX10_refused 2 = .ok (.putfield 41, 3) := by decide +kernel
theorem dX10_refused_5 : decode cX10_refused 5 = .ok (.iload_n 1, 1) := by decide +kernel
theorem dX10_refused_6 : decode cX10_refused 6 = .ok (.ifCond .le 7, 3) := by decide +kernel
theorem dX10_refused_9 : decode cX10_refused 9 = .ok (.iconst 1, 1) := by decide +kernel
theorem dX10_refused_10 : decode cX10_refused 10 = .ok (.goto 4, 3) := by decide +kernel
theorem dX10_refused_13 : decode cX10_refused 13 = .ok (.iconst 0, 1) := by decide +kernel
theorem dX10_refused_14 : decode cX10_refused 14 = .ok (.ireturn, 1) := by decide +kernel
theorem dX10_in_0 : decode cX10_in 0 = .ok (.lload_n 0, 1) := by decide +kernel
theorem dX10_in_1 : decode cX10_in 1 = .ok (.lload_n 2, 1) := by decide +kernel
theorem dX10_in_2 : decode cX10_in 2 = .ok (.lcmp, 1) := by decide +kernel
theorem dX10_in_3 : decode cX10_in 3 = .ok (.ifCond .lt 14, 3) := by decide +kernel
theorem dX10_in_6 : decode cX10_in 6 = .ok (.lload_n 0, 1) := by decide +kernel
theorem dX10_in_7 : decode cX10_in 7 = .ok (.lload 4, 2) := by decide +kernel
theorem dX10_in_9 : decode cX10_in 9 = .ok (.lcmp, 1) := by decide +kernel
theorem dX10_in_10 : decode cX10_in 10 = .ok (.ifCond .gt 7, 3) := by decide +kernel
theorem dX10_in_13 : decode cX10_in 13 = .ok (.iconst 1, 1) := by decide +kernel
theorem dX10_in_14 : decode cX10_in 14 = .ok (.goto 4, 3) := by decide +kernel
theorem dX10_in_17 : decode cX10_in 17 = .ok (.iconst 0, 1) := by decide +kernel
theorem dX10_in_18 : decode cX10_in 18 = .ok (.ireturn, 1) := by decide +kernel
theorem dX10_copy_0 : decode cX10_copy 0 = .ok (.iconst 0, 1) := by decide +kernel
theorem dX10_copy_1 : decode cX10_copy 1 = .ok (.istore 5, 2) := by decide +kernel
theorem dX10_copy_3 : decode cX10_copy 3 = .ok (.iload 5, 2) := by decide +kernel
theorem dX10_copy_5 : decode cX10_copy 5 = .ok (.iload 4, 2) := by decide +kernel
theorem dX10_copy_7 : decode cX10_copy 7 = .ok (.if_icmp .ge 21, 3) := by decide +kernel
theorem dX10_copy_10 : decode cX10_copy 10 = .ok (.aload_n 2, 1) := by decide +kernel
theorem dX10_copy_11 : decode cX10_copy 11 = .ok (.iload_n 3, 1) := by decide +kernel
theorem dX10_copy_12 : decode cX10_copy 12 = .ok (.iload 5, 2) := by decide +kernel
theorem dX10_copy_14 : decode cX10_copy 14 = .ok (.iadd, 1) := by decide +kernel
theorem dX10_copy_15 : decode cX10_copy 15 = .ok (.aload_n 0, 1) := by decide +kernel
theorem dX10_copy_16 : decode cX10_copy 16 = .ok (.iload_n 1, 1) := by decide +kernel
theorem dX10_copy_17 : decode cX10_copy 17 = .ok (.iload 5, 2) := by decide +kernel
theorem dX10_copy_19 : decode cX10_copy 19 = .ok (.iadd, 1) := by decide +kernel
theorem dX10_copy_20 : decode cX10_copy 20 = .ok (.iaload, 1) := by decide +kernel
theorem dX10_copy_21 : decode cX10_copy 21 = .ok (.iastore, 1) := by decide +kernel
theorem dX10_copy_22 : decode cX10_copy 22 = .ok (.iinc 5 1, 3) := by decide +kernel
theorem dX10_copy_25 : decode cX10_copy 25 = .ok (.goto (-22), 3) := by decide +kernel
theorem dX10_copy_28 : decode cX10_copy 28 = .ok (.return_, 1) := by decide +kernel
theorem dX10_tenTo_0 : decode cX10_tenTo 0 = .ok (.lconst 1, 1) := by decide +kernel
theorem dX10_tenTo_1 : decode cX10_tenTo 1 = .ok (.lstore_n 1, 1) := by decide +kernel
theorem dX10_tenTo_2 : decode cX10_tenTo 2 = .ok (.iconst 0, 1) := by decide +kernel
theorem dX10_tenTo_3 : decode cX10_tenTo 3 = .ok (.istore_n 3, 1) := by decide +kernel
theorem dX10_tenTo_4 : decode cX10_tenTo 4 = .ok (.iload_n 3, 1) := by decide +kernel
theorem dX10_tenTo_5 : decode cX10_tenTo 5 = .ok (.iload_n 0, 1) := by decide +kernel
theorem dX10_tenTo_6 : decode cX10_tenTo 6 = .ok (.if_icmp .ge 15, 3) := by decide +kernel
theorem dX10_tenTo_9 : decode cX10_tenTo 9 = .ok (.lload_n 1, 1) := by decide +kernel
theorem dX10_tenTo_10 : decode cX10_tenTo 10 = .ok (.ldc2_w 45, 3) := by decide +kernel
theorem dX10_tenTo_13 : decode cX10_tenTo 13 = .ok (.lmul, 1) := by decide +kernel
theorem dX10_tenTo_14 : decode cX10_tenTo 14 = .ok (.lstore_n 1, 1) := by decide +kernel
theorem dX10_tenTo_15 : decode cX10_tenTo 15 = .ok (.iinc 3 1, 3) := by decide +kernel
theorem dX10_tenTo_18 : decode cX10_tenTo 18 = .ok (.goto (-14), 3) := by decide +kernel
theorem dX10_tenTo_21 : decode cX10_tenTo 21 = .ok (.lload_n 1, 1) := by decide +kernel
theorem dX10_tenTo_22 : decode cX10_tenTo 22 = .ok (.lreturn, 1) := by decide +kernel
set_option maxRecDepth 20000 in
theorem ggX10_note_X10_copy : GoodIn wsX10_note wsX10_copy := goodIn_r _ [7] (by decide +kernel) (by decide +kernel)
set_option maxRecDepth 20000 in
theorem gX10_note_X10_copy : GoodIn wsX10_note (va_wsS RX10 50 yX10_copy wsX10_copy) := goodIn_app (goodIn_of _ (by decide +kernel)) ggX10_note_X10_copy
theorem dX10_note_0 : decode cX10_note 0 = .ok (.aload_n 0, 1) := by decide +kernel
theorem dX10_note_1 : decode cX10_note 1 = .ok (.getfield 47, 3) := by decide +kernel
theorem dX10_note_4 : decode cX10_note 4 = .ok (.bipush 14, 2) := by decide +kernel
theorem dX10_note_6 : decode cX10_note 6 = .ok (.if_icmp .ne 30, 3) := by decide +kernel
theorem dX10_note_9 : decode cX10_note 9 = .ok (.aload_n 0, 1) := by decide +kernel
theorem dX10_note_10 : decode cX10_note 10 = .ok (.getfield 22, 3) := by decide +kernel
theorem dX10_note_13 : decode cX10_note 13 = .ok (.bipush 84, 2) := by decide +kernel
theorem dX10_note_15 : decode cX10_note 15 = .ok (.aload_n 0, 1) := by decide +kernel
theorem dX10_note_16 : decode cX10_note 16 = .ok (.getfield 22, 3) := by decide +kernel
theorem dX10_note_19 : decode cX10_note 19 = .ok (.iconst 0, 1) := by decide +kernel
theorem dX10_note_20 : decode cX10_note 20 = .ok (.sipush 1092, 3) := by decide +kernel
theorem dX10_note_23 : decode cX10_note 23 = .ok (.invokestatic 50, 3) := by decide +kernel
theorem dX10_note_26 : decode cX10_note 26 = .ok (.aload_n 0, 1) := by decide +kernel
theorem dX10_note_27 : decode cX10_note 27 = .ok (.dup, 1) := by decide +kernel
theorem dX10_note_28 : decode cX10_note 28 = .ok (.getfield 47, 3) := by decide +kernel
theorem dX10_note_31 : decode cX10_note 31 = .ok (.iconst 1, 1) := by decide +kernel
theorem dX10_note_32 : decode cX10_note 32 = .ok (.isub, 1) := by decide +kernel
theorem dX10_note_33 : decode cX10_note 33 = .ok (.putfield 47, 3) := by decide +kernel
theorem dX10_note_36 : decode cX10_note 36 = .ok (.aload_n 0, 1) := by decide +kernel
theorem dX10_note_37 : decode cX10_note 37 = .ok (.getfield 16, 3) := by decide +kernel
theorem dX10_note_40 : decode cX10_note 40 = .ok (.iconst 0, 1) := by decide +kernel
theorem dX10_note_41 : decode cX10_note 41 = .ok (.aload_n 0, 1) := by decide +kernel
theorem dX10_note_42 : decode cX10_note 42 = .ok (.getfield 22, 3) := by decide +kernel
theorem dX10_note_45 : decode cX10_note 45 = .ok (.bipush 84, 2) := by decide +kernel
theorem dX10_note_47 : decode cX10_note 47 = .ok (.aload_n 0, 1) := by decide +kernel
theorem dX10_note_48 : decode cX10_note 48 = .ok (.getfield 47, 3) := by decide +kernel
theorem dX10_note_51 : decode cX10_note 51 = .ok (.imul, 1) := by decide +kernel
theorem dX10_note_52 : decode cX10_note 52 = .ok (.bipush 84, 2) := by decide +kernel
theorem dX10_note_54 : decode cX10_note 54 = .ok (.invokestatic 50, 3) := by decide +kernel
theorem dX10_note_57 : decode cX10_note 57 = .ok (.aload_n 0, 1) := by decide +kernel
theorem dX10_note_58 : decode cX10_note 58 = .ok (.dup, 1) := by decide +kernel
theorem dX10_note_59 : decode cX10_note 59 = .ok (.getfield 47, 3) := by decide +kernel
theorem dX10_note_62 : decode cX10_note 62 = .ok (.iconst 1, 1) := by decide +kernel
theorem dX10_note_63 : decode cX10_note 63 = .ok (.iadd, 1) := by decide +kernel
theorem dX10_note_64 : decode cX10_note 64 = .ok (.putfield 47, 3) := by decide +kernel
theorem dX10_note_67 : decode cX10_note 67 = .ok (.return_, 1) := by decide +kernel
set_option maxRecDepth 20000 in
theorem ggX10_isTable_X10_in : GoodIn wsX10_isTable wsX10_in := goodIn_r _ [4] (by decide +kernel) (by decide +kernel)
set_option maxRecDepth 20000 in
theorem gX10_isTable_X10_in : GoodIn wsX10_isTable (va_wsS RX10 54 yX10_in wsX10_in) := goodIn_app (goodIn_of _ (by decide +kernel)) ggX10_isTable_X10_in
theorem dX10_isTable_0 : decode cX10_isTable 0 = .ok (.iload_n 0, 1) := by decide +kernel
theorem dX10_isTable_1 : decode cX10_isTable 1 = .ok (.i2l, 1) := by decide +kernel
theorem dX10_isTable_2 : decode cX10_isTable 2 = .ok (.lconst 0, 1) := by decide +kernel
theorem dX10_isTable_3 : decode cX10_isTable 3 = .ok (.lconst 1, 1) := by decide +kernel
theorem dX10_isTable_4 : decode cX10_isTable 4 = .ok (.invokestatic 54, 3) := by decide +kernel
theorem dX10_isTable_7 : decode cX10_isTable 7 = .ok (.ireturn, 1) := by decide +kernel
set_option maxRecDepth 20000 in
theorem ggX10_length_X10_in : GoodIn wsX10_length wsX10_in := goodIn_r _ [5] (by decide +kernel) (by decide +kernel)
set_option maxRecDepth 20000 in
theorem gX10_length_X10_in : GoodIn wsX10_length (va_wsS RX10 54 yX10_in wsX10_in) := goodIn_app (goodIn_of _ (by decide +kernel)) ggX10_length_X10_in
theorem dX10_length_0 : decode cX10_length 0 = .ok (.iload_n 2, 1) := by decide +kernel
theorem dX10_length_1 : decode cX10_length 1 = .ok (.i2l, 1) := by decide +kernel
theorem dX10_length_2 : decode cX10_length 2 = .ok (.lconst 0, 1) := by decide +kernel
theorem dX10_length_3 : decode cX10_length 3 = .ok (.ldc2_w 58, 3) := by decide +kernel
theorem dX10_length_6 : decode cX10_length 6 = .ok (.invokestatic 54, 3) := by decide +kernel
theorem dX10_length_9 : decode cX10_length 9 = .ok (.ifCond .eq 17, 3) := by decide +kernel
theorem dX10_length_12 : decode cX10_length 12 = .ok (.aload_n 0, 1) := by decide +kernel
theorem dX10_length_13 : decode cX10_length 13 = .ok (.bipush 42, 2) := by decide +kernel
theorem dX10_length_15 : decode cX10_length 15 = .ok (.iload_n 1, 1) := by decide +kernel
theorem dX10_length_16 : decode cX10_length 16 = .ok (.imul, 1) := by decide +kernel
theorem dX10_length_17 : decode cX10_length 17 = .ok (.bipush 36, 2) := by decide +kernel
theorem dX10_length_19 : decode cX10_length 19 = .ok (.iadd, 1) := by decide +kernel
theorem dX10_length_20 : decode cX10_length 20 = .ok (.iload_n 2, 1) := by decide +kernel
theorem dX10_length_21 : decode cX10_length 21 = .ok (.iadd, 1) := by decide +kernel
theorem dX10_length_22 : decode cX10_length 22 = .ok (.iaload, 1) := by decide +kernel
theorem dX10_length_23 : decode cX10_length 23 = .ok (.goto 4, 3) := by decide +kernel
theorem dX10_length_26 : decode cX10_length 26 = .ok (.iconst 0, 1) := by decide +kernel
theorem dX10_length_27 : decode cX10_length 27 = .ok (.ireturn, 1) := by decide +kernel
set_option maxRecDepth 20000 in
theorem ggX10_isCell_X10_length : GoodIn wsX10_isCell wsX10_length := goodIn_r _ [4, 5, 6, 7, 3, 8] (by decide +kernel) (by decide +kernel)
set_option maxRecDepth 20000 in
theorem gX10_isCell_X10_length : GoodIn wsX10_isCell (va_wsS RX10 60 yX10_length wsX10_length) := goodIn_app (goodIn_of _ (by decide +kernel)) ggX10_isCell_X10_length
set_option maxRecDepth 20000 in
theorem ggX10_isCell_X10_in : GoodIn wsX10_isCell wsX10_in := goodIn_r _ [8] (by decide +kernel) (by decide +kernel)
set_option maxRecDepth 20000 in
theorem gX10_isCell_X10_in : GoodIn wsX10_isCell (va_wsS RX10 54 yX10_in wsX10_in) := goodIn_app (goodIn_of _ (by decide +kernel)) ggX10_isCell_X10_in
theorem dX10_isCell_0 : decode cX10_isCell 0 = .ok (.iload_n 3, 1) := by decide +kernel
theorem dX10_isCell_1 : decode cX10_isCell 1 = .ok (.i2l, 1) := by decide +kernel
theorem dX10_isCell_2 : decode cX10_isCell 2 = .ok (.lconst 0, 1) := by decide +kernel
theorem dX10_isCell_3 : decode cX10_isCell 3 = .ok (.aload_n 0, 1) := by decide +kernel
theorem dX10_isCell_4 : decode cX10_isCell 4 = .ok (.iload_n 1, 1) := by decide +kernel
theorem dX10_isCell_5 : decode cX10_isCell 5 = .ok (.iload_n 2, 1) := by decide +kernel
theorem dX10_isCell_6 : decode cX10_isCell 6 = .ok (.invokestatic 60, 3) := by decide +kernel
theorem dX10_isCell_9 : decode cX10_isCell 9 = .ok (.iconst 1, 1) := by decide +kernel
theorem dX10_isCell_10 : decode cX10_isCell 10 = .ok (.isub, 1) := by decide +kernel
theorem dX10_isCell_11 : decode cX10_isCell 11 = .ok (.i2l, 1) := by decide +kernel
theorem dX10_isCell_12 : decode cX10_isCell 12 = .ok (.invokestatic 54, 3) := by decide +kernel
theorem dX10_isCell_15 : decode cX10_isCell 15 = .ok (.ireturn, 1) := by decide +kernel
theorem dX10_get_0 : decode cX10_get 0 = .ok (.aload_n 0, 1) := by decide +kernel
theorem dX10_get_1 : decode cX10_get 1 = .ok (.bipush 42, 2) := by decide +kernel
theorem dX10_get_3 : decode cX10_get 3 = .ok (.iload_n 1, 1) := by decide +kernel
theorem dX10_get_4 : decode cX10_get 4 = .ok (.imul, 1) := by decide +kernel
theorem dX10_get_5 : decode cX10_get 5 = .ok (.bipush 6, 2) := by decide +kernel
theorem dX10_get_7 : decode cX10_get 7 = .ok (.iload_n 2, 1) := by decide +kernel
theorem dX10_get_8 : decode cX10_get 8 = .ok (.imul, 1) := by decide +kernel
theorem dX10_get_9 : decode cX10_get 9 = .ok (.iadd, 1) := by decide +kernel
theorem dX10_get_10 : decode cX10_get 10 = .ok (.iload_n 3, 1) := by decide +kernel
theorem dX10_get_11 : decode cX10_get 11 = .ok (.iadd, 1) := by decide +kernel
theorem dX10_get_12 : decode cX10_get 12 = .ok (.iaload, 1) := by decide +kernel
theorem dX10_get_13 : decode cX10_get 13 = .ok (.ireturn, 1) := by decide +kernel
theorem dX10_set_0 : decode cX10_set 0 = .ok (.aload_n 0, 1) := by decide +kernel
theorem dX10_set_1 : decode cX10_set 1 = .ok (.bipush 42, 2) := by decide +kernel
theorem dX10_set_3 : decode cX10_set 3 = .ok (.iload_n 1, 1) := by decide +kernel
theorem dX10_set_4 : decode cX10_set 4 = .ok (.imul, 1) := by decide +kernel
theorem dX10_set_5 : decode cX10_set 5 = .ok (.bipush 6, 2) := by decide +kernel
theorem dX10_set_7 : decode cX10_set 7 = .ok (.iload_n 2, 1) := by decide +kernel
theorem dX10_set_8 : decode cX10_set 8 = .ok (.imul, 1) := by decide +kernel
theorem dX10_set_9 : decode cX10_set 9 = .ok (.iadd, 1) := by decide +kernel
theorem dX10_set_10 : decode cX10_set 10 = .ok (.iload_n 3, 1) := by decide +kernel
theorem dX10_set_11 : decode cX10_set 11 = .ok (.iadd, 1) := by decide +kernel
theorem dX10_set_12 : decode cX10_set 12 = .ok (.iload 4, 2) := by decide +kernel
theorem dX10_set_14 : decode cX10_set 14 = .ok (.iastore, 1) := by decide +kernel
theorem dX10_set_15 : decode cX10_set 15 = .ok (.return_, 1) := by decide +kernel
set_option maxRecDepth 20000 in
theorem ggX10_many_X10_length : GoodIn wsX10_many wsX10_length := goodIn_r _ [4, 5, 6, 7, 3, 8] (by decide +kernel) (by decide +kernel)
set_option maxRecDepth 20000 in
theorem gX10_many_X10_length : GoodIn wsX10_many (va_wsS RX10 60 yX10_length wsX10_length) := goodIn_app (goodIn_of _ (by decide +kernel)) ggX10_many_X10_length
theorem dX10_many_0 : decode cX10_many 0 = .ok (.iconst 0, 1) := by decide +kernel
theorem dX10_many_1 : decode cX10_many 1 = .ok (.istore_n 2, 1) := by decide +kernel
theorem dX10_many_2 : decode cX10_many 2 = .ok (.iconst 0, 1) := by decide +kernel
theorem dX10_many_3 : decode cX10_many 3 = .ok (.istore_n 3, 1) := by decide +kernel
theorem dX10_many_4 : decode cX10_many 4 = .ok (.iload_n 3, 1) := by decide +kernel
theorem dX10_many_5 : decode cX10_many 5 = .ok (.bipush 6, 2) := by decide +kernel
theorem dX10_many_7 : decode cX10_many 7 = .ok (.if_icmp .ge 18, 3) := by decide +kernel
theorem dX10_many_10 : decode cX10_many 10 = .ok (.iload_n 2, 1) := by decide +kernel
theorem dX10_many_11 : decode cX10_many 11 = .ok (.aload_n 0, 1) := by decide +kernel
theorem dX10_many_12 : decode cX10_many 12 = .ok (.iload_n 1, 1) := by decide +kernel
theorem dX10_many_13 : decode cX10_many 13 = .ok (.iload_n 3, 1) := by decide +kernel
theorem dX10_many_14 : decode cX10_many 14 = .ok (.invokestatic 60, 3) := by decide +kernel
theorem dX10_many_17 : decode cX10_many 17 = .ok (.iadd, 1) := by decide +kernel
theorem dX10_many_18 : decode cX10_many 18 = .ok (.istore_n 2, 1) := by decide +kernel
theorem dX10_many_19 : decode cX10_many 19 = .ok (.iinc 3 1, 3) := by decide +kernel
theorem dX10_many_22 : decode cX10_many 22 = .ok (.goto (-18), 3) := by decide +kernel
theorem dX10_many_25 : decode cX10_many 25 = .ok (.iload_n 2, 1) := by decide +kernel
theorem dX10_many_26 : decode cX10_many 26 = .ok (.ireturn, 1) := by decide +kernel
set_option maxRecDepth 20000 in
theorem ggX10_rows_X10_length : GoodIn wsX10_rows wsX10_length := goodIn_r _ [4, 5, 6, 7, 3, 8] (by decide +kernel) (by decide +kernel)
set_option maxRecDepth 20000 in
theorem gX10_rows_X10_length : GoodIn wsX10_rows (va_wsS RX10 60 yX10_length wsX10_length) := goodIn_app (goodIn_of _ (by decide +kernel)) ggX10_rows_X10_length
theorem dX10_rows_0 : decode cX10_rows 0 = .ok (.iconst 0, 1) := by decide +kernel
theorem dX10_rows_1 : decode cX10_rows 1 = .ok (.istore_n 2, 1) := by decide +kernel
theorem dX10_rows_2 : decode cX10_rows 2 = .ok (.iconst 0, 1) := by decide +kernel
theorem dX10_rows_3 : decode cX10_rows 3 = .ok (.istore_n 3, 1) := by decide +kernel
theorem dX10_rows_4 : decode cX10_rows 4 = .ok (.iload_n 3, 1) := by decide +kernel
theorem dX10_rows_5 : decode cX10_rows 5 = .ok (.bipush 6, 2) := by decide +kernel
theorem dX10_rows_7 : decode cX10_rows 7 = .ok (.if_icmp .ge 26, 3) := by decide +kernel
theorem dX10_rows_10 : decode cX10_rows 10 = .ok (.iload_n 2, 1) := by decide +kernel
theorem dX10_rows_11 : decode cX10_rows 11 = .ok (.aload_n 0, 1) := by decide +kernel
theorem dX10_rows_12 : decode cX10_rows 12 = .ok (.iload_n 1, 1) := by decide +kernel
theorem dX10_rows_13 : decode cX10_rows 13 = .ok (.iload_n 3, 1) := by decide +kernel
theorem dX10_rows_14 : decode cX10_rows 14 = .ok (.invokestatic 60, 3) := by decide +kernel
theorem dX10_rows_17 : decode cX10_rows 17 = .ok (.ifCond .le 7, 3) := by decide +kernel
theorem dX10_rows_20 : decode cX10_rows 20 = .ok (.iconst 1, 1) := by decide +kernel
theorem dX10_rows_21 : decode cX10_rows 21 = .ok (.goto 4, 3) := by decide +kernel
theorem dX10_rows_24 : decode cX10_rows 24 = .ok (.iconst 0, 1) := by decide +kernel
theorem dX10_rows_25 : decode cX10_rows 25 = .ok (.iadd, 1) := by decide +kernel
theorem dX10_rows_26 : decode cX10_rows 26 = .ok (.istore_n 2, 1) := by decide +kernel
theorem dX10_rows_27 : decode cX10_rows 27 = .ok (.iinc 3 1, 3) := by decide +kernel
theorem dX10_rows_30 : decode cX10_rows 30 = .ok (.goto (-26), 3) := by decide +kernel
theorem dX10_rows_33 : decode cX10_rows 33 = .ok (.iload_n 2, 1) := by decide +kernel
theorem dX10_rows_34 : decode cX10_rows 34 = .ok (.ireturn, 1) := by decide +kernel
set_option maxRecDepth 20000 in
theorem ggX10_tall_X10_length : GoodIn wsX10_tall wsX10_length := goodIn_r _ [4, 5, 6, 7, 3, 8] (by decide +kernel) (by decide +kernel)
set_option maxRecDepth 20000 in
theorem gX10_tall_X10_length : GoodIn wsX10_tall (va_wsS RX10 60 yX10_length wsX10_length) := goodIn_app (goodIn_of _ (by decide +kernel)) ggX10_tall_X10_length
theorem dX10_tall_0 : decode cX10_tall 0 = .ok (.iconst 0, 1) := by decide +kernel
theorem dX10_tall_1 : decode cX10_tall 1 = .ok (.istore_n 3, 1) := by decide +kernel
theorem dX10_tall_2 : decode cX10_tall 2 = .ok (.iconst 0, 1) := by decide +kernel
theorem dX10_tall_3 : decode cX10_tall 3 = .ok (.istore 4, 2) := by decide +kernel
theorem dX10_tall_5 : decode cX10_tall 5 = .ok (.iload 4, 2) := by decide +kernel
theorem dX10_tall_7 : decode cX10_tall 7 = .ok (.bipush 6, 2) := by decide +kernel
theorem dX10_tall_9 : decode cX10_tall 9 = .ok (.if_icmp .ge 28, 3) := by decide +kernel
theorem dX10_tall_12 : decode cX10_tall 12 = .ok (.iload_n 3, 1) := by decide +kernel
theorem dX10_tall_13 : decode cX10_tall 13 = .ok (.aload_n 0, 1) := by decide +kernel
theorem dX10_tall_14 : decode cX10_tall 14 = .ok (.iload_n 1, 1) := by decide +kernel
theorem dX10_tall_15 : decode cX10_tall 15 = .ok (.iload 4, 2) := by decide +kernel
theorem dX10_tall_17 : decode cX10_tall 17 = .ok (.invokestatic 60, 3) := by decide +kernel
theorem dX10_tall_20 : decode cX10_tall 20 = .ok (.iload_n 2, 1) := by decide +kernel
theorem dX10_tall_21 : decode cX10_tall 21 = .ok (.if_icmp .le 7, 3) := by decide +kernel
theorem dX10_tall_24 : decode cX10_tall 24 = .ok (.iconst 1, 1) := by decide +kernel
theorem dX10_tall_25 : decode cX10_tall 25 = .ok (.goto 4, 3) := by decide +kernel
theorem dX10_tall_28 : decode cX10_tall 28 = .ok (.iconst 0, 1) := by decide +kernel
theorem dX10_tall_29 : decode cX10_tall 29 = .ok (.iadd, 1) := by decide +kernel
theorem dX10_tall_30 : decode cX10_tall 30 = .ok (.istore_n 3, 1) := by decide +kernel
theorem dX10_tall_31 : decode cX10_tall 31 = .ok (.iinc 4 1, 3) := by decide +kernel
theorem dX10_tall_34 : decode cX10_tall 34 = .ok (.goto (-29), 3) := by decide +kernel
theorem dX10_tall_37 : decode cX10_tall 37 = .ok (.iload_n 3, 1) := by decide +kernel
theorem dX10_tall_38 : decode cX10_tall 38 = .ok (.ireturn, 1) := by decide +kernel
set_option maxRecDepth 20000 in
theorem ggX10_isCorner_X10_length : GoodIn wsX10_isCorner wsX10_length := goodIn_r _ [4, 5, 6, 7, 3, 8] (by decide +kernel) (by decide +kernel)
set_option maxRecDepth 20000 in
theorem gX10_isCorner_X10_length : GoodIn wsX10_isCorner (va_wsS RX10 60 yX10_length wsX10_length) := goodIn_app (goodIn_of _ (by decide +kernel)) ggX10_isCorner_X10_length
theorem dX10_isCorner_0 : decode cX10_isCorner 0 = .ok (.aload_n 0, 1) := by decide +kernel
theorem dX10_isCorner_1 : decode cX10_isCorner 1 = .ok (.iload_n 1, 1) := by decide +kernel
theorem dX10_isCorner_2 : decode cX10_isCorner 2 = .ok (.iload_n 2, 1) := by decide +kernel
theorem dX10_isCorner_3 : decode cX10_isCorner 3 = .ok (.invokestatic 60, 3) := by decide +kernel
theorem dX10_isCorner_6 : decode cX10_isCorner 6 = .ok (.ifCond .le 24, 3) := by decide +kernel
theorem dX10_isCorner_9 : decode cX10_isCorner 9 = .ok (.aload_n 0, 1) := by decide +kernel
theorem dX10_isCorner_10 : decode cX10_isCorner 10 = .ok (.iload_n 1, 1) := by decide +kernel
theorem dX10_isCorner_11 : decode cX10_isCorner 11 = .ok (.iload_n 2, 1) := by decide +kernel
theorem dX10_isCorner_12 : decode cX10_isCorner 12 = .ok (.iconst 1, 1) := by decide +kernel
theorem dX10_isCorner_13 : decode cX10_isCorner 13 = .ok (.iadd, 1) := by decide +kernel
theorem dX10_isCorner_14 : decode cX10_isCorner 14 = .ok (.invokestatic 60, 3) := by decide +kernel
theorem dX10_isCorner_17 : decode cX10_isCorner 17 = .ok (.aload_n 0, 1) := by decide +kernel
theorem dX10_isCorner_18 : decode cX10_isCorner 18 = .ok (.iload_n 1, 1) := by decide +kernel
theorem dX10_isCorner_19 : decode cX10_isCorner 19 = .ok (.iload_n 2, 1) := by decide +kernel
theorem dX10_isCorner_20 : decode cX10_isCorner 20 = .ok (.invokestatic 60, 3) := by decide +kernel
theorem dX10_isCorner_23 : decode cX10_isCorner 23 = .ok (.if_icmp .ge 7, 3) := by decide +kernel
theorem dX10_isCorner_26 : decode cX10_isCorner 26 = .ok (.iconst 1, 1) := by decide +kernel
theorem dX10_isCorner_27 : decode cX10_isCorner 27 = .ok (.goto 4, 3) := by decide +kernel
theorem dX10_isCorner_30 : decode cX10_isCorner 30 = .ok (.iconst 0, 1) := by decide +kernel
theorem dX10_isCorner_31 : decode cX10_isCorner 31 = .ok (.ireturn, 1) := by decide +kernel
set_option maxRecDepth 20000 in
theorem ggX10_isGap_X10_length : GoodIn wsX10_isGap wsX10_length := goodIn_r _ [4, 5, 6, 7, 3, 8] (by decide +kernel) (by decide +kernel)
set_option maxRecDepth 20000 in
theorem gX10_isGap_X10_length : GoodIn wsX10_isGap (va_wsS RX10 60 yX10_length wsX10_length) := goodIn_app (goodIn_of _ (by decide +kernel)) ggX10_isGap_X10_length
theorem dX10_isGap_0 : decode cX10_isGap 0 = .ok (.aload_n 0, 1) := by decide +kernel
theorem dX10_isGap_1 : decode cX10_isGap 1 = .ok (.iload_n 1, 1) := by decide +kernel
theorem dX10_isGap_2 : decode cX10_isGap 2 = .ok (.iload_n 2, 1) := by decide +kernel
theorem dX10_isGap_3 : decode cX10_isGap 3 = .ok (.invokestatic 60, 3) := by decide +kernel
theorem dX10_isGap_6 : decode cX10_isGap 6 = .ok (.istore_n 3, 1) := by decide +kernel
theorem dX10_isGap_7 : decode cX10_isGap 7 = .ok (.iload_n 3, 1) := by decide +kernel
theorem dX10_isGap_8 : decode cX10_isGap 8 = .ok (.bipush 6, 2) := by decide +kernel
theorem dX10_isGap_10 : decode cX10_isGap 10 = .ok (.if_icmp .ge 23, 3) := by decide +kernel
theorem dX10_isGap_13 : decode cX10_isGap 13 = .ok (.iload_n 2, 1) := by decide +kernel
theorem dX10_isGap_14 : decode cX10_isGap 14 = .ok (.ifCond .eq 15, 3) := by decide +kernel
theorem dX10_isGap_17 : decode cX10_isGap 17 = .ok (.aload_n 0, 1) := by decide +kernel
theorem dX10_isGap_18 : decode cX10_isGap 18 = .ok (.iload_n 1, 1) := by decide +kernel
theorem dX10_isGap_19 : decode cX10_isGap 19 = .ok (.iload_n 2, 1) := by decide +kernel
theorem dX10_isGap_20 : decode cX10_isGap 20 = .ok (.iconst 1, 1) := by decide +kernel
theorem dX10_isGap_21 : decode cX10_isGap 21 = .ok (.isub, 1) := by decide +kernel
theorem dX10_isGap_22 : decode cX10_isGap 22 = .ok (.invokestatic 60, 3) := by decide +kernel
theorem dX10_isGap_25 : decode cX10_isGap 25 = .ok (.iload_n 3, 1) := by decide +kernel
theorem dX10_isGap_26 : decode cX10_isGap 26 = .ok (.if_icmp .le 7, 3) := by decide +kernel
theorem dX10_isGap_29 : decode cX10_isGap 29 = .ok (.iconst 1, 1) := by decide +kernel
theorem dX10_isGap_30 : decode cX10_isGap 30 = .ok (.goto 4, 3) := by decide +kernel
theorem dX10_isGap_33 : decode cX10_isGap 33 = .ok (.iconst 0, 1) := by decide +kernel
theorem dX10_isGap_34 : decode cX10_isGap 34 = .ok (.ireturn, 1) := by decide +kernel
set_option maxRecDepth 20000 in
theorem ggX10_have_X10_isTable : GoodIn wsX10_have wsX10_isTable := goodIn_r _ [5, 6, 7, 4, 8] (by decide +kernel) (by decide +kernel)
set_option maxRecDepth 20000 in
theorem gX10_have_X10_isTable : GoodIn wsX10_have (va_wsS RX10 64 yX10_isTable wsX10_isTable) := goodIn_app (goodIn_of _ (by decide +kernel)) ggX10_have_X10_isTable
set_option maxRecDepth 20000 in
theorem ggX10_have_X10_isCell : GoodIn wsX10_have wsX10_isCell := goodIn_r _ [11, 12, 13, 4, 14, 15, 6, 7, 8] (by decide +kernel) (by decide +kernel)
set_option maxRecDepth 20000 in
theorem gX10_have_X10_isCell : GoodIn wsX10_have (va_wsS RX10 68 yX10_isCell wsX10_isCell) := goodIn_app (goodIn_of _ (by decide +kernel)) ggX10_have_X10_isCell
theorem dX10_have_0 : decode cX10_have 0 = .ok (.iload_n 1, 1) := by decide +kernel
theorem dX10_have_1 : decode cX10_have 1 = .ok (.invokestatic 64, 3) := by decide +kernel
theorem dX10_have_4 : decode cX10_have 4 = .ok (.ifCond .eq 20, 3) := by decide +kernel
theorem dX10_have_7 : decode cX10_have 7 = .ok (.aload_n 0, 1) := by decide +kernel
theorem dX10_have_8 : decode cX10_have 8 = .ok (.getfield 16, 3) := by decide +kernel
theorem dX10_have_11 : decode cX10_have 11 = .ok (.iload_n 1, 1) := by decide +kernel
theorem dX10_have_12 : decode cX10_have 12 = .ok (.iload_n 2, 1) := by decide +kernel
theorem dX10_have_13 : decode cX10_have 13 = .ok (.iload_n 3, 1) := by decide +kernel
theorem dX10_have_14 : decode cX10_have 14 = .ok (.invokestatic 68, 3) := by decide +kernel
theorem dX10_have_17 : decode cX10_have 17 = .ok (.ifCond .eq 7, 3) := by decide +kernel
theorem dX10_have_20 : decode cX10_have 20 = .ok (.iconst 1, 1) := by decide +kernel
theorem dX10_have_21 : decode cX10_have 21 = .ok (.goto 4, 3) := by decide +kernel
theorem dX10_have_24 : decode cX10_have 24 = .ok (.iconst 0, 1) := by decide +kernel
theorem dX10_have_25 : decode cX10_have 25 = .ok (.ireturn, 1) := by decide +kernel
set_option maxRecDepth 20000 in
theorem ggX10_gapRow_X10_isGap : GoodIn wsX10_gapRow wsX10_isGap := goodIn_r _ [4, 5, 6, 3, 7, 8, 9, 10, 11] (by decide +kernel) (by decide +kernel)
set_option maxRecDepth 20000 in
theorem gX10_gapRow_X10_isGap : GoodIn wsX10_gapRow (va_wsS RX10 72 yX10_isGap wsX10_isGap) := goodIn_app (goodIn_of _ (by decide +kernel)) ggX10_gapRow_X10_isGap
set_option maxRecDepth 20000 in
theorem ggX10_gapRow_X10_length : GoodIn wsX10_gapRow wsX10_length := goodIn_r _ [7, 8, 9, 10, 3, 11] (by decide +kernel) (by decide +kernel)
set_option maxRecDepth 20000 in
theorem gX10_gapRow_X10_length : GoodIn wsX10_gapRow (va_wsS RX10 60 yX10_length wsX10_length) := goodIn_app (goodIn_of _ (by decide +kernel)) ggX10_gapRow_X10_length
theorem dX10_gapRow_0 : decode cX10_gapRow 0 = .ok (.bipush (-9), 2) := by decide +kernel
theorem dX10_gapRow_2 : decode cX10_gapRow 2 = .ok (.istore_n 2, 1) := by decide +kernel
theorem dX10_gapRow_3 : decode cX10_gapRow 3 = .ok (.iconst 0, 1) := by decide +kernel
theorem dX10_gapRow_4 : decode cX10_gapRow 4 = .ok (.istore_n 3, 1) := by decide +kernel
theorem dX10_gapRow_5 : decode cX10_gapRow 5 = .ok (.iload_n 3, 1) := by decide +kernel
theorem dX10_gapRow_6 : decode cX10_gapRow 6 = .ok (.bipush 6, 2) := by decide +kernel
theorem dX10_gapRow_8 : decode cX10_gapRow 8 = .ok (.if_icmp .ge 45, 3) := by decide +kernel
theorem dX10_gapRow_11 : decode cX10_gapRow 11 = .ok (.aload_n 0, 1) := by decide +kernel
theorem dX10_gapRow_12 : decode cX10_gapRow 12 = .ok (.iload_n 1, 1) := by decide +kernel
theorem dX10_gapRow_13 : decode cX10_gapRow 13 = .ok (.iload_n 3, 1) := by decide +kernel
theorem dX10_gapRow_14 : decode cX10_gapRow 14 = .ok (.invokestatic 72, 3) := by decide +kernel
theorem dX10_gapRow_17 : decode cX10_gapRow 17 = .ok (.ifCond .eq 30, 3) := by decide +kernel
theorem dX10_gapRow_20 : decode cX10_gapRow 20 = .ok (.iload_n 2, 1) := by decide +kernel
theorem dX10_gapRow_21 : decode cX10_gapRow 21 = .ok (.bipush (-9), 2) := by decide +kernel
theorem dX10_gapRow_23 : decode cX10_gapRow 23 = .ok (.if_icmp .eq 22, 3) := by decide +kernel
theorem dX10_gapRow_26 : decode cX10_gapRow 26 = .ok (.iload_n 3, 1) := by decide +kernel
theorem dX10_gapRow_27 : decode cX10_gapRow 27 = .ok (.aload_n 0, 1) := by decide +kernel
theorem dX10_gapRow_28 : decode cX10_gapRow 28 = .ok (.iload_n 1, 1) := by decide +kernel
theorem dX10_gapRow_29 : decode cX10_gapRow 29 = .ok (.iload_n 3, 1) := by decide +kernel
theorem dX10_gapRow_30 : decode cX10_gapRow 30 = .ok (.invokestatic 60, 3) := by decide +kernel
theorem dX10_gapRow_33 : decode cX10_gapRow 33 = .ok (.iadd, 1) := by decide +kernel
theorem dX10_gapRow_34 : decode cX10_gapRow 34 = .ok (.iload_n 2, 1) := by decide +kernel
theorem dX10_gapRow_35 : decode cX10_gapRow 35 = .ok (.aload_n 0, 1) := by decide +kernel
theorem dX10_gapRow_36 : decode cX10_gapRow 36 = .ok (.iload_n 1, 1) := by decide +kernel
theorem dX10_gapRow_37 : decode cX10_gapRow 37 = .ok (.iload_n 2, 1) := by decide +kernel
theorem dX10_gapRow_38 : decode cX10_gapRow 38 = .ok (.invokestatic 60, 3) := by decide +kernel
theorem dX10_gapRow_41 : decode cX10_gapRow 41 = .ok (.iadd, 1) := by decide +kernel
theorem dX10_gapRow_42 : decode cX10_gapRow 42 = .ok (.if_icmp .ge 5, 3) := by decide +kernel
theorem dX10_gapRow_45 : decode cX10_gapRow 45 = .ok (.iload_n 3, 1) := by decide +kernel
theorem dX10_gapRow_46 : decode cX10_gapRow 46 = .ok (.istore_n 2, 1) := by decide +kernel
theorem dX10_gapRow_47 : decode cX10_gapRow 47 = .ok (.iinc 3 1, 3) := by decide +kernel
theorem dX10_gapRow_50 : decode cX10_gapRow 50 = .ok (.goto (-45), 3) := by decide +kernel
theorem dX10_gapRow_53 : decode cX10_gapRow 53 = .ok (.iload_n 2, 1) := by decide +kernel
theorem dX10_gapRow_54 : decode cX10_gapRow 54 = .ok (.ireturn, 1) := by decide +kernel
set_option maxRecDepth 20000 in
theorem ggX10_slideUp_X10_get : GoodIn wsX10_slideUp wsX10_get := goodIn_r _ [5] (by decide +kernel) (by decide +kernel)
set_option maxRecDepth 20000 in
theorem gX10_slideUp_X10_get : GoodIn wsX10_slideUp (va_wsS RX10 76 yX10_get wsX10_get) := goodIn_app (goodIn_of _ (by decide +kernel)) ggX10_slideUp_X10_get
set_option maxRecDepth 20000 in
theorem ggX10_slideUp_X10_set : GoodIn wsX10_slideUp wsX10_set := goodIn_r _ [8] (by decide +kernel) (by decide +kernel)
set_option maxRecDepth 20000 in
theorem gX10_slideUp_X10_set : GoodIn wsX10_slideUp (va_wsS RX10 80 yX10_set wsX10_set) := goodIn_app (goodIn_of _ (by decide +kernel)) ggX10_slideUp_X10_set
theorem dX10_slideUp_0 : decode cX10_slideUp 0 = .ok (.iload_n 3, 1) := by decide +kernel
theorem dX10_slideUp_1 : decode cX10_slideUp 1 = .ok (.bipush 10, 2) := by decide +kernel
theorem dX10_slideUp_3 : decode cX10_slideUp 3 = .ok (.idiv, 1) := by decide +kernel
theorem dX10_slideUp_4 : decode cX10_slideUp 4 = .ok (.istore 4, 2) := by decide +kernel
theorem dX10_slideUp_6 : decode cX10_slideUp 6 = .ok (.iload_n 3, 1) := by decide +kernel
theorem dX10_slideUp_7 : decode cX10_slideUp 7 = .ok (.bipush 10, 2) := by decide +kernel
theorem dX10_slideUp_9 : decode cX10_slideUp 9 = .ok (.irem, 1) := by decide +kernel
theorem dX10_slideUp_10 : decode cX10_slideUp 10 = .ok (.istore 5, 2) := by decide +kernel
theorem dX10_slideUp_12 : decode cX10_slideUp 12 = .ok (.aload_n 1, 1) := by decide +kernel
theorem dX10_slideUp_13 : decode cX10_slideUp 13 = .ok (.iload_n 2, 1) := by decide +kernel
theorem dX10_slideUp_14 : decode cX10_slideUp 14 = .ok (.iload 4, 2) := by decide +kernel
theorem dX10_slideUp_16 : decode cX10_slideUp 16 = .ok (.iload 5, 2) := by decide +kernel
theorem dX10_slideUp_18 : decode cX10_slideUp 18 = .ok (.invokestatic 76, 3) := by decide +kernel
theorem dX10_slideUp_21 : decode cX10_slideUp 21 = .ok (.istore 6, 2) := by decide +kernel
theorem dX10_slideUp_23 : decode cX10_slideUp 23 = .ok (.iconst 1, 1) := by decide +kernel
theorem dX10_slideUp_24 : decode cX10_slideUp 24 = .ok (.istore 7, 2) := by decide +kernel
theorem dX10_slideUp_26 : decode cX10_slideUp 26 = .ok (.iload 7, 2) := by decide +kernel
theorem dX10_slideUp_28 : decode cX10_slideUp 28 = .ok (.ifCond .eq 164, 3) := by decide +kernel
theorem dX10_slideUp_31 : decode cX10_slideUp 31 = .ok (.iload 4, 2) := by decide +kernel
theorem dX10_slideUp_33 : decode cX10_slideUp 33 = .ok (.ifCond .le 17, 3) := by decide +kernel
theorem dX10_slideUp_36 : decode cX10_slideUp 36 = .ok (.aload_n 1, 1) := by decide +kernel
theorem dX10_slideUp_37 : decode cX10_slideUp 37 = .ok (.iload_n 2, 1) := by decide +kernel
theorem dX10_slideUp_38 : decode cX10_slideUp 38 = .ok (.iload 4, 2) := by decide +kernel
theorem dX10_slideUp_40 : decode cX10_slideUp 40 = .ok (.iconst 1, 1) := by decide +kernel
theorem dX10_slideUp_41 : decode cX10_slideUp 41 = .ok (.isub, 1) := by decide +kernel
theorem dX10_slideUp_42 : decode cX10_slideUp 42 = .ok (.iload 5, 2) := by decide +kernel
theorem dX10_slideUp_44 : decode cX10_slideUp 44 = .ok (.invokestatic 76, 3) := by decide +kernel
theorem dX10_slideUp_47 : decode cX10_slideUp 47 = .ok (.goto 5, 3) := by decide +kernel
theorem dX10_slideUp_50 : decode cX10_slideUp 50 = .ok (.bipush (-9), 2) := by decide +kernel
theorem dX10_slideUp_52 : decode cX10_slideUp 52 = .ok (.istore 8, 2) := by decide +kernel
theorem dX10_slideUp_54 : decode cX10_slideUp 54 = .ok (.iload 5, 2) := by decide +kernel
theorem dX10_slideUp_56 : decode cX10_slideUp 56 = .ok (.ifCond .le 17, 3) := by decide +kernel
theorem dX10_slideUp_59 : decode cX10_slideUp 59 = .ok (.aload_n 1, 1) := by decide +kernel
theorem dX10_slideUp_60 : decode cX10_slideUp 60 = .ok (.iload_n 2, 1) := by decide +kernel
theorem dX10_slideUp_61 : decode cX10_slideUp 61 = .ok (.iload 4, 2) := by decide +kernel
theorem dX10_slideUp_63 : decode cX10_slideUp 63 = .ok (.iload 5, 2) := by decide +kernel
theorem dX10_slideUp_65 : decode cX10_slideUp 65 = .ok (.iconst 1, 1) := by decide +kernel
theorem dX10_slideUp_66 : decode cX10_slideUp 66 = .ok (.isub, 1) := by decide +kernel
theorem dX10_slideUp_67 : decode cX10_slideUp 67 = .ok (.invokestatic 76, 3) := by decide +kernel
theorem dX10_slideUp_70 : decode cX10_slideUp 70 = .ok (.goto 5, 3) := by decide +kernel
theorem dX10_slideUp_73 : decode cX10_slideUp 73 = .ok (.bipush (-9), 2) := by decide +kernel
theorem dX10_slideUp_75 : decode cX10_slideUp 75 = .ok (.istore 9, 2) := by decide +kernel
theorem dX10_slideUp_77 : decode cX10_slideUp 77 = .ok (.iload 8, 2) := by decide +kernel
theorem dX10_slideUp_79 : decode cX10_slideUp 79 = .ok (.iload 6, 2) := by decide +kernel
theorem dX10_slideUp_81 : decode cX10_slideUp 81 = .ok (.if_icmp .gt 10, 3) := by decide +kernel
theorem dX10_slideUp_84 : decode cX10_slideUp 84 = .ok (.iload 9, 2) := by decide +kernel
theorem dX10_slideUp_86 : decode cX10_slideUp 86 = .ok (.iload 6, 2) := by decide +kernel
theorem dX10_slideUp_88 : decode cX10_slideUp 88 = .ok (.if_icmp .le 7, 3) := by decide +kernel
theorem dX10_slideUp_91 : decode cX10_slideUp 91 = .ok (.iconst 1, 1) := by decide +kernel
theorem dX10_slideUp_92 : decode cX10_slideUp 92 = .ok (.goto 4, 3) := by decide +kernel
theorem dX10_slideUp_95 : decode cX10_slideUp 95 = .ok (.iconst 0, 1) := by decide +kernel
theorem dX10_slideUp_96 : decode cX10_slideUp 96 = .ok (.istore 7, 2) := by decide +kernel
theorem dX10_slideUp_98 : decode cX10_slideUp 98 = .ok (.iload 7, 2) := by decide +kernel
theorem dX10_slideUp_100 : decode cX10_slideUp 100 = .ok (.ifCond .eq 89, 3) := by decide +kernel
theorem dX10_slideUp_103 : decode cX10_slideUp 103 = .ok (.iload 8, 2) := by decide +kernel
theorem dX10_slideUp_105 : decode cX10_slideUp 105 = .ok (.iload 9, 2) := by decide +kernel
theorem dX10_slideUp_107 : decode cX10_slideUp 107 = .ok (.if_icmp .lt 7, 3) := by decide +kernel
theorem dX10_slideUp_110 : decode cX10_slideUp 110 = .ok (.iconst 1, 1) := by decide +kernel
theorem dX10_slideUp_111 : decode cX10_slideUp 111 = .ok (.goto 4, 3) := by decide +kernel
theorem dX10_slideUp_114 : decode cX10_slideUp 114 = .ok (.iconst 0, 1) := by decide +kernel
theorem dX10_slideUp_115 : decode cX10_slideUp 115 = .ok (.istore 10, 2) := by decide +kernel
theorem dX10_slideUp_117 : decode cX10_slideUp 117 = .ok (.aload_n 1, 1) := by decide +kernel
theorem dX10_slideUp_118 : decode cX10_slideUp 118 = .ok (.iload_n 2, 1) := by decide +kernel
theorem dX10_slideUp_119 : decode cX10_slideUp 119 = .ok (.iload 4, 2) := by decide +kernel
theorem dX10_slideUp_121 : decode cX10_slideUp 121 = .ok (.iload 5, 2) := by decide +kernel
theorem dX10_slideUp_123 : decode cX10_slideUp 123 = .ok (.iload 10, 2) := by decide +kernel
theorem dX10_slideUp_125 : decode cX10_slideUp 125 = .ok (.ifCond .eq 8, 3) := by decide +kernel
theorem dX10_slideUp_128 : decode cX10_slideUp 128 = .ok (.iload 8, 2) := by decide +kernel
theorem dX10_slideUp_130 : decode cX10_slideUp 130 = .ok (.goto 5, 3) := by decide +kernel
theorem dX10_slideUp_133 : decode cX10_slideUp 133 = .ok (.iload 9, 2) := by decide +kernel
theorem dX10_slideUp_135 : decode cX10_slideUp 135 = .ok (.invokestatic 80, 3) := by decide +kernel
theorem dX10_slideUp_138 : decode cX10_slideUp 138 = .ok (.iload 4, 2) := by decide +kernel
theorem dX10_slideUp_140 : decode cX10_slideUp 140 = .ok (.iload 10, 2) := by decide +kernel
theorem dX10_slideUp_142 : decode cX10_slideUp 142 = .ok (.ifCond .eq 7, 3) := by decide +kernel
theorem dX10_slideUp_145 : decode cX10_slideUp 145 = .ok (.iconst 1, 1) := by decide +kernel
theorem dX10_slideUp_146 : decode cX10_slideUp 146 = .ok (.goto 4, 3) := by decide +kernel
theorem dX10_slideUp_149 : decode cX10_slideUp 149 = .ok (.iconst 0, 1) := by decide +kernel
theorem dX10_slideUp_150 : decode cX10_slideUp 150 = .ok (.isub, 1) := by decide +kernel
theorem dX10_slideUp_151 : decode cX10_slideUp 151 = .ok (.istore 4, 2) := by decide +kernel
theorem dX10_slideUp_153 : decode cX10_slideUp 153 = .ok (.iload 5, 2) := by decide +kernel
theorem dX10_slideUp_155 : decode cX10_slideUp 155 = .ok (.iload 10, 2) := by decide +kernel
theorem dX10_slideUp_157 : decode cX10_slideUp 157 = .ok (.ifCond .eq 7, 3) := by decide +kernel
theorem dX10_slideUp_160 : decode cX10_slideUp 160 = .ok (.iconst 0, 1) := by decide +kernel
theorem dX10_slideUp_161 : decode cX10_slideUp 161 = .ok (.goto 4, 3) := by decide +kernel
theorem dX10_slideUp_164 : decode cX10_slideUp 164 = .ok (.iconst 1, 1) := by decide +kernel
theorem dX10_slideUp_165 : decode cX10_slideUp 165 = .ok (.isub, 1) := by decide +kernel
theorem dX10_slideUp_166 : decode cX10_slideUp 166 = .ok (.istore 5, 2) := by decide +kernel
theorem dX10_slideUp_168 : decode cX10_slideUp 168 = .ok (.aload_n 1, 1) := by decide +kernel
theorem dX10_slideUp_169 : decode cX10_slideUp 169 = .ok (.iload_n 2, 1) := by decide +kernel
theorem dX10_slideUp_170 : decode cX10_slideUp 170 = .ok (.iload 4, 2) := by decide +kernel
theorem dX10_slideUp_172 : decode cX10_slideUp 172 = .ok (.iload 5, 2) := by decide +kernel
theorem dX10_slideUp_174 : decode cX10_slideUp 174 = .ok (.iload 6, 2) := by decide +kernel
theorem dX10_slideUp_176 : decode cX10_slideUp 176 = .ok (.invokestatic 80, 3) := by decide +kernel
theorem dX10_slideUp_179 : decode cX10_slideUp 179 = .ok (.aload_n 0, 1) := by decide +kernel
theorem dX10_slideUp_180 : decode cX10_slideUp 180 = .ok (.dup, 1) := by decide +kernel
theorem dX10_slideUp_181 : decode cX10_slideUp 181 = .ok (.getfield 84, 3) := by decide +kernel
theorem dX10_slideUp_184 : decode cX10_slideUp 184 = .ok (.iconst 1, 1) := by decide +kernel
theorem dX10_slideUp_185 : decode cX10_slideUp 185 = .ok (.iadd, 1) := by decide +kernel
theorem dX10_slideUp_186 : decode cX10_slideUp 186 = .ok (.putfield 84, 3) := by decide +kernel
theorem dX10_slideUp_189 : decode cX10_slideUp 189 = .ok (.goto (-163), 3) := by decide +kernel
theorem dX10_slideUp_192 : decode cX10_slideUp 192 = .ok (.bipush 10, 2) := by decide +kernel
theorem dX10_slideUp_194 : decode cX10_slideUp 194 = .ok (.iload 4, 2) := by decide +kernel
theorem dX10_slideUp_196 : decode cX10_slideUp 196 = .ok (.imul, 1) := by decide +kernel
theorem dX10_slideUp_197 : decode cX10_slideUp 197 = .ok (.iload 5, 2) := by decide +kernel
theorem dX10_slideUp_199 : decode cX10_slideUp 199 = .ok (.iadd, 1) := by decide +kernel
theorem dX10_slideUp_200 : decode cX10_slideUp 200 = .ok (.ireturn, 1) := by decide +kernel
set_option maxRecDepth 20000 in
theorem ggX10_slideDown_X10_get : GoodIn wsX10_slideDown wsX10_get := goodIn_r _ [4] (by decide +kernel) (by decide +kernel)
set_option maxRecDepth 20000 in
theorem gX10_slideDown_X10_get : GoodIn wsX10_slideDown (va_wsS RX10 76 yX10_get wsX10_get) := goodIn_app (goodIn_of _ (by decide +kernel)) ggX10_slideDown_X10_get
set_option maxRecDepth 20000 in
theorem ggX10_slideDown_X10_isCell : GoodIn wsX10_slideDown wsX10_isCell := goodIn_r _ [7, 8, 9, 3, 10, 11, 12, 13, 14] (by decide +kernel) (by decide +kernel)
set_option maxRecDepth 20000 in
theorem gX10_slideDown_X10_isCell : GoodIn wsX10_slideDown (va_wsS RX10 68 yX10_isCell wsX10_isCell) := goodIn_app (goodIn_of _ (by decide +kernel)) ggX10_slideDown_X10_isCell
set_option maxRecDepth 20000 in
theorem ggX10_slideDown_X10_set : GoodIn wsX10_slideDown wsX10_set := goodIn_r _ [17] (by decide +kernel) (by decide +kernel)
set_option maxRecDepth 20000 in
theorem gX10_slideDown_X10_set : GoodIn wsX10_slideDown (va_wsS RX10 80 yX10_set wsX10_set) := goodIn_app (goodIn_of _ (by decide +kernel)) ggX10_slideDown_X10_set
theorem dX10_slideDown_0 : decode cX10_slideDown 0 = .ok (.iload_n 2, 1) := by decide +kernel
theorem dX10_slideDown_1 : decode cX10_slideDown 1 = .ok (.bipush 10, 2) := by decide +kernel
theorem dX10_slideDown_3 : decode cX10_slideDown 3 = .ok (.idiv, 1) := by decide +kernel
theorem dX10_slideDown_4 : decode cX10_slideDown 4 = .ok (.istore_n 3, 1) := by decide +kernel
theorem dX10_slideDown_5 : decode cX10_slideDown 5 = .ok (.iload_n 2, 1) := by decide +kernel
theorem dX10_slideDown_6 : decode cX10_slideDown 6 = .ok (.bipush 10, 2) := by decide +kernel
theorem dX10_slideDown_8 : decode cX10_slideDown 8 = .ok (.irem, 1) := by decide +kernel
theorem dX10_slideDown_9 : decode cX10_slideDown 9 = .ok (.istore 4, 2) := by decide +kernel
theorem dX10_slideDown_11 : decode cX10_slideDown 11 = .ok (.aload_n 0, 1) := by decide +kernel
theorem dX10_slideDown_12 : decode cX10_slideDown 12 = .ok (.iload_n 1, 1) := by decide +kernel
theorem dX10_slideDown_13 : decode cX10_slideDown 13 = .ok (.iload_n 3, 1) := by decide +kernel
theorem dX10_slideDown_14 : decode cX10_slideDown 14 = .ok (.iload 4, 2) := by decide +kernel
theorem dX10_slideDown_16 : decode cX10_slideDown 16 = .ok (.invokestatic 76, 3) := by decide +kernel
theorem dX10_slideDown_19 : decode cX10_slideDown 19 = .ok (.istore 5, 2) := by decide +kernel
theorem dX10_slideDown_21 : decode cX10_slideDown 21 = .ok (.iconst 1, 1) := by decide +kernel
theorem dX10_slideDown_22 : decode cX10_slideDown 22 = .ok (.istore 6, 2) := by decide +kernel
theorem dX10_slideDown_24 : decode cX10_slideDown 24 = .ok (.iload 6, 2) := by decide +kernel
theorem dX10_slideDown_26 : decode cX10_slideDown 26 = .ok (.ifCond .eq 166, 3) := by decide +kernel
theorem dX10_slideDown_29 : decode cX10_slideDown 29 = .ok (.aload_n 0, 1) := by decide +kernel
theorem dX10_slideDown_30 : decode cX10_slideDown 30 = .ok (.iload_n 1, 1) := by decide +kernel
theorem dX10_slideDown_31 : decode cX10_slideDown 31 = .ok (.iload_n 3, 1) := by decide +kernel
theorem dX10_slideDown_32 : decode cX10_slideDown 32 = .ok (.iconst 1, 1) := by decide +kernel
theorem dX10_slideDown_33 : decode cX10_slideDown 33 = .ok (.iadd, 1) := by decide +kernel
theorem dX10_slideDown_34 : decode cX10_slideDown 34 = .ok (.iload 4, 2) := by decide +kernel
theorem dX10_slideDown_36 : decode cX10_slideDown 36 = .ok (.invokestatic 68, 3) := by decide +kernel
theorem dX10_slideDown_39 : decode cX10_slideDown 39 = .ok (.ifCond .eq 16, 3) := by decide +kernel
theorem dX10_slideDown_42 : decode cX10_slideDown 42 = .ok (.aload_n 0, 1) := by decide +kernel
theorem dX10_slideDown_43 : decode cX10_slideDown 43 = .ok (.iload_n 1, 1) := by decide +kernel
theorem dX10_slideDown_44 : decode cX10_slideDown 44 = .ok (.iload_n 3, 1) := by decide +kernel
theorem dX10_slideDown_45 : decode cX10_slideDown 45 = .ok (.iconst 1, 1) := by decide +kernel
theorem dX10_slideDown_46 : decode cX10_slideDown 46 = .ok (.iadd, 1) := by decide +kernel
theorem dX10_slideDown_47 : decode cX10_slideDown 47 = .ok (.iload 4, 2) := by decide +kernel
theorem dX10_slideDown_49 : decode cX10_slideDown 49 = .ok (.invokestatic 76, 3) := by decide +kernel
theorem dX10_slideDown_52 : decode cX10_slideDown 52 = .ok (.goto 6, 3) := by decide +kernel
theorem dX10_slideDown_55 : decode cX10_slideDown 55 = .ok (.sipush 1000, 3) := by decide +kernel
theorem dX10_slideDown_58 : decode cX10_slideDown 58 = .ok (.istore 7, 2) := by decide +kernel
theorem dX10_slideDown_60 : decode cX10_slideDown 60 = .ok (.aload_n 0, 1) := by decide +kernel
theorem dX10_slideDown_61 : decode cX10_slideDown 61 = .ok (.iload_n 1, 1) := by decide +kernel
theorem dX10_slideDown_62 : decode cX10_slideDown 62 = .ok (.iload_n 3, 1) := by decide +kernel
theorem dX10_slideDown_63 : decode cX10_slideDown 63 = .ok (.iload 4, 2) := by decide +kernel
theorem dX10_slideDown_65 : decode cX10_slideDown 65 = .ok (.iconst 1, 1) := by decide +kernel
theorem dX10_slideDown_66 : decode cX10_slideDown 66 = .ok (.iadd, 1) := by decide +kernel
theorem dX10_slideDown_67 : decode cX10_slideDown 67 = .ok (.invokestatic 68, 3) := by decide +kernel
theorem dX10_slideDown_70 : decode cX10_slideDown 70 = .ok (.ifCond .eq 16, 3) := by decide +kernel
theorem dX10_slideDown_73 : decode cX10_slideDown 73 = .ok (.aload_n 0, 1) := by decide +kernel
theorem dX10_slideDown_74 : decode cX10_slideDown 74 = .ok (.iload_n 1, 1) := by decide +kernel
theorem dX10_slideDown_75 : decode cX10_slideDown 75 = .ok (.iload_n 3, 1) := by decide +kernel
theorem dX10_slideDown_76 : decode cX10_slideDown 76 = .ok (.iload 4, 2) := by decide +kernel
theorem dX10_slideDown_78 : decode cX10_slideDown 78 = .ok (.iconst 1, 1) := by decide +kernel
theorem dX10_slideDown_79 : decode cX10_slideDown 79 = .ok (.iadd, 1) := by decide +kernel
theorem dX10_slideDown_80 : decode cX10_slideDown 80 = .ok (.invokestatic 76, 3) := by decide +kernel
theorem dX10_slideDown_83 : decode cX10_slideDown 83 = .ok (.goto 6, 3) := by decide +kernel
theorem dX10_slideDown_86 : decode cX10_slideDown 86 = .ok (.sipush 1000, 3) := by decide +kernel
theorem dX10_slideDown_89 : decode cX10_slideDown 89 = .ok (.istore 8, 2) := by decide +kernel
theorem dX10_slideDown_91 : decode cX10_slideDown 91 = .ok (.iload 7, 2) := by decide +kernel
theorem dX10_slideDown_93 : decode cX10_slideDown 93 = .ok (.iload 5, 2) := by decide +kernel
theorem dX10_slideDown_95 : decode cX10_slideDown 95 = .ok (.if_icmp .lt 10, 3) := by decide +kernel
theorem dX10_slideDown_98 : decode cX10_slideDown 98 = .ok (.iload 8, 2) := by decide +kernel
theorem dX10_slideDown_100 : decode cX10_slideDown 100 = .ok (.iload 5, 2) := by decide +kernel
theorem dX10_slideDown_102 : decode cX10_slideDown 102 = .ok (.if_icmp .ge 7, 3) := by decide +kernel
theorem dX10_slideDown_105 : decode cX10_slideDown 105 = .ok (.iconst 1, 1) := by decide +kernel
theorem dX10_slideDown_106 : decode cX10_slideDown 106 = .ok (.goto 4, 3) := by decide +kernel
theorem dX10_slideDown_109 : decode cX10_slideDown 109 = .ok (.iconst 0, 1) := by decide +kernel
theorem dX10_slideDown_110 : decode cX10_slideDown 110 = .ok (.istore 6, 2) := by decide +kernel
theorem dX10_slideDown_112 : decode cX10_slideDown 112 = .ok (.iload 6, 2) := by decide +kernel
theorem dX10_slideDown_114 : decode cX10_slideDown 114 = .ok (.ifCond .eq 75, 3) := by decide +kernel
theorem dX10_slideDown_117 : decode cX10_slideDown 117 = .ok (.iload 7, 2) := by decide +kernel
theorem dX10_slideDown_119 : decode cX10_slideDown 119 = .ok (.iload 8, 2) := by decide +kernel
theorem dX10_slideDown_121 : decode cX10_slideDown 121 = .ok (.if_icmp .gt 7, 3) := by decide +kernel
theorem dX10_slideDown_124 : decode cX10_slideDown 124 = .ok (.iconst 1, 1) := by decide +kernel
theorem dX10_slideDown_125 : decode cX10_slideDown 125 = .ok (.goto 4, 3) := by decide +kernel
theorem dX10_slideDown_128 : decode cX10_slideDown 128 = .ok (.iconst 0, 1) := by decide +kernel
theorem dX10_slideDown_129 : decode cX10_slideDown 129 = .ok (.istore 9, 2) := by decide +kernel
theorem dX10_slideDown_131 : decode cX10_slideDown 131 = .ok (.aload_n 0, 1) := by decide +kernel
theorem dX10_slideDown_132 : decode cX10_slideDown 132 = .ok (.iload_n 1, 1) := by decide +kernel
theorem dX10_slideDown_133 : decode cX10_slideDown 133 = .ok (.iload_n 3, 1) := by decide +kernel
theorem dX10_slideDown_134 : decode cX10_slideDown 134 = .ok (.iload 4, 2) := by decide +kernel
theorem dX10_slideDown_136 : decode cX10_slideDown 136 = .ok (.iload 9, 2) := by decide +kernel
theorem dX10_slideDown_138 : decode cX10_slideDown 138 = .ok (.ifCond .eq 8, 3) := by decide +kernel
theorem dX10_slideDown_141 : decode cX10_slideDown 141 = .ok (.iload 7, 2) := by decide +kernel
theorem dX10_slideDown_143 : decode cX10_slideDown 143 = .ok (.goto 5, 3) := by decide +kernel
theorem dX10_slideDown_146 : decode cX10_slideDown 146 = .ok (.iload 8, 2) := by decide +kernel
theorem dX10_slideDown_148 : decode cX10_slideDown 148 = .ok (.invokestatic 80, 3) := by decide +kernel
theorem dX10_slideDown_151 : decode cX10_slideDown 151 = .ok (.iload_n 3, 1) := by decide +kernel
theorem dX10_slideDown_152 : decode cX10_slideDown 152 = .ok (.iload 9, 2) := by decide +kernel
theorem dX10_slideDown_154 : decode cX10_slideDown 154 = .ok (.ifCond .eq 7, 3) := by decide +kernel
theorem dX10_slideDown_157 : decode cX10_slideDown 157 = .ok (.iconst 1, 1) := by decide +kernel
theorem dX10_slideDown_158 : decode cX10_slideDown 158 = .ok (.goto 4, 3) := by decide +kernel
theorem dX10_slideDown_161 : decode cX10_slideDown 161 = .ok (.iconst 0, 1) := by decide +kernel
theorem dX10_slideDown_162 : decode cX10_slideDown 162 = .ok (.iadd, 1) := by decide +kernel
theorem dX10_slideDown_163 : decode cX10_slideDown 163 = .ok (.istore_n 3, 1) := by decide +kernel
theorem dX10_slideDown_164 : decode cX10_slideDown 164 = .ok (.iload 4, 2) := by decide +kernel
theorem dX10_slideDown_166 : decode cX10_slideDown 166 = .ok (.iload 9, 2) := by decide +kernel
theorem dX10_slideDown_168 : decode cX10_slideDown 168 = .ok (.ifCond .eq 7, 3) := by decide +kernel
theorem dX10_slideDown_171 : decode cX10_slideDown 171 = .ok (.iconst 0, 1) := by decide +kernel
theorem dX10_slideDown_172 : decode cX10_slideDown 172 = .ok (.goto 4, 3) := by decide +kernel
theorem dX10_slideDown_175 : decode cX10_slideDown 175 = .ok (.iconst 1, 1) := by decide +kernel
theorem dX10_slideDown_176 : decode cX10_slideDown 176 = .ok (.iadd, 1) := by decide +kernel
theorem dX10_slideDown_177 : decode cX10_slideDown 177 = .ok (.istore 4, 2) := by decide +kernel
theorem dX10_slideDown_179 : decode cX10_slideDown 179 = .ok (.aload_n 0, 1) := by decide +kernel
theorem dX10_slideDown_180 : decode cX10_slideDown 180 = .ok (.iload_n 1, 1) := by decide +kernel
theorem dX10_slideDown_181 : decode cX10_slideDown 181 = .ok (.iload_n 3, 1) := by decide +kernel
theorem dX10_slideDown_182 : decode cX10_slideDown 182 = .ok (.iload 4, 2) := by decide +kernel
theorem dX10_slideDown_184 : decode cX10_slideDown 184 = .ok (.iload 5, 2) := by decide +kernel
theorem dX10_slideDown_186 : decode cX10_slideDown 186 = .ok (.invokestatic 80, 3) := by decide +kernel
theorem dX10_slideDown_189 : decode cX10_slideDown 189 = .ok (.goto (-165), 3) := by decide +kernel
theorem dX10_slideDown_192 : decode cX10_slideDown 192 = .ok (.bipush 10, 2) := by decide +kernel
theorem dX10_slideDown_194 : decode cX10_slideDown 194 = .ok (.iload_n 3, 1) := by decide +kernel
theorem dX10_slideDown_195 : decode cX10_slideDown 195 = .ok (.imul, 1) := by decide +kernel
theorem dX10_slideDown_196 : decode cX10_slideDown 196 = .ok (.iload 4, 2) := by decide +kernel
theorem dX10_slideDown_198 : decode cX10_slideDown 198 = .ok (.iadd, 1) := by decide +kernel
theorem dX10_slideDown_199 : decode cX10_slideDown 199 = .ok (.ireturn, 1) := by decide +kernel
set_option maxRecDepth 20000 in
theorem ggX10_insertOn_X10_gapRow : GoodIn wsX10_insertOn wsX10_gapRow := goodIn_r _ [5, 6, 7, 4, 8, 9, 10, 11, 12, 13, 14, 15] (by decide +kernel) (by decide +kernel)
set_option maxRecDepth 20000 in
theorem gX10_insertOn_X10_gapRow : GoodIn wsX10_insertOn (va_wsS RX10 87 yX10_gapRow wsX10_gapRow) := goodIn_app (goodIn_of _ (by decide +kernel)) ggX10_insertOn_X10_gapRow
set_option maxRecDepth 20000 in
theorem ggX10_insertOn_X10_length : GoodIn wsX10_insertOn wsX10_length := goodIn_r _ [11, 12, 13, 14, 4, 15] (by decide +kernel) (by decide +kernel)
set_option maxRecDepth 20000 in
theorem gX10_insertOn_X10_length : GoodIn wsX10_insertOn (va_wsS RX10 60 yX10_length wsX10_length) := goodIn_app (goodIn_of _ (by decide +kernel)) ggX10_insertOn_X10_length
set_option maxRecDepth 20000 in
theorem ggX10_insertOn_X10_set : GoodIn wsX10_insertOn wsX10_set := goodIn_r _ [18] (by decide +kernel) (by decide +kernel)
set_option maxRecDepth 20000 in
theorem gX10_insertOn_X10_set : GoodIn wsX10_insertOn (va_wsS RX10 80 yX10_set wsX10_set) := goodIn_app (goodIn_of _ (by decide +kernel)) ggX10_insertOn_X10_set
set_option maxRecDepth 20000 in
theorem ggX10_insertOn_X10_slideUp : GoodIn wsX10_insertOn wsX10_slideUp := goodIn_r _ [22, 1, 23, 24, 4, 25, 16, 17, 18, 26, 27, 28, 29, 30, 31, 32, 33, 34, 35, 36, 37, 38, 39, 40] (by decide +kernel) (by decide +kernel)
set_option maxRecDepth 20000 in
theorem gX10_insertOn_X10_slideUp : GoodIn wsX10_insertOn (wsV RX10 91 RX10 yX10_slideUp wsX10_slideUp) := goodIn_app (goodIn_of _ (by decide +kernel)) ggX10_insertOn_X10_slideUp
theorem dX10_insertOn_0 : decode cX10_insertOn 0 = .ok (.aload_n 1, 1) := by decide +kernel
theorem dX10_insertOn_1 : decode cX10_insertOn 1 = .ok (.iload_n 2, 1) := by decide +kernel
theorem dX10_insertOn_2 : decode cX10_insertOn 2 = .ok (.invokestatic 87, 3) := by decide +kernel
theorem dX10_insertOn_5 : decode cX10_insertOn 5 = .ok (.istore 4, 2) := by decide +kernel
theorem dX10_insertOn_7 : decode cX10_insertOn 7 = .ok (.aload_n 1, 1) := by decide +kernel
theorem dX10_insertOn_8 : decode cX10_insertOn 8 = .ok (.iload_n 2, 1) := by decide +kernel
theorem dX10_insertOn_9 : decode cX10_insertOn 9 = .ok (.iload 4, 2) := by decide +kernel
theorem dX10_insertOn_11 : decode cX10_insertOn 11 = .ok (.invokestatic 60, 3) := by decide +kernel
theorem dX10_insertOn_14 : decode cX10_insertOn 14 = .ok (.istore 5, 2) := by decide +kernel
theorem dX10_insertOn_16 : decode cX10_insertOn 16 = .ok (.aload_n 1, 1) := by decide +kernel
theorem dX10_insertOn_17 : decode cX10_insertOn 17 = .ok (.bipush 42, 2) := by decide +kernel
theorem dX10_insertOn_19 : decode cX10_insertOn 19 = .ok (.iload_n 2, 1) := by decide +kernel
theorem dX10_insertOn_20 : decode cX10_insertOn 20 = .ok (.imul, 1) := by decide +kernel
theorem dX10_insertOn_21 : decode cX10_insertOn 21 = .ok (.bipush 36, 2) := by decide +kernel
theorem dX10_insertOn_23 : decode cX10_insertOn 23 = .ok (.iadd, 1) := by decide +kernel
theorem dX10_insertOn_24 : decode cX10_insertOn 24 = .ok (.iload 4, 2) := by decide +kernel
theorem dX10_insertOn_26 : decode cX10_insertOn 26 = .ok (.iadd, 1) := by decide +kernel
theorem dX10_insertOn_27 : decode cX10_insertOn 27 = .ok (.dup2, 1) := by decide +kernel
theorem dX10_insertOn_28 : decode cX10_insertOn 28 = .ok (.iaload, 1) := by decide +kernel
theorem dX10_insertOn_29 : decode cX10_insertOn 29 = .ok (.iconst 1, 1) := by decide +kernel
theorem dX10_insertOn_30 : decode cX10_insertOn 30 = .ok (.iadd, 1) := by decide +kernel
theorem dX10_insertOn_31 : decode cX10_insertOn 31 = .ok (.iastore, 1) := by decide +kernel
theorem dX10_insertOn_32 : decode cX10_insertOn 32 = .ok (.aload_n 1, 1) := by decide +kernel
theorem dX10_insertOn_33 : decode cX10_insertOn 33 = .ok (.iload_n 2, 1) := by decide +kernel
theorem dX10_insertOn_34 : decode cX10_insertOn 34 = .ok (.iload 4, 2) := by decide +kernel
theorem dX10_insertOn_36 : decode cX10_insertOn 36 = .ok (.iload 5, 2) := by decide +kernel
theorem dX10_insertOn_38 : decode cX10_insertOn 38 = .ok (.iload_n 3, 1) := by decide +kernel
theorem dX10_insertOn_39 : decode cX10_insertOn 39 = .ok (.invokestatic 80, 3) := by decide +kernel
theorem dX10_insertOn_42 : decode cX10_insertOn 42 = .ok (.aload_n 0, 1) := by decide +kernel
theorem dX10_insertOn_43 : decode cX10_insertOn 43 = .ok (.iconst 0, 1) := by decide +kernel
theorem dX10_insertOn_44 : decode cX10_insertOn 44 = .ok (.putfield 84, 3) := by decide +kernel
theorem dX10_insertOn_47 : decode cX10_insertOn 47 = .ok (.aload_n 0, 1) := by decide +kernel
theorem dX10_insertOn_48 : decode cX10_insertOn 48 = .ok (.aload_n 1, 1) := by decide +kernel
theorem dX10_insertOn_49 : decode cX10_insertOn 49 = .ok (.iload_n 2, 1) := by decide +kernel
theorem dX10_insertOn_50 : decode cX10_insertOn 50 = .ok (.bipush 10, 2) := by decide +kernel
theorem dX10_insertOn_52 : decode cX10_insertOn 52 = .ok (.iload 4, 2) := by decide +kernel
theorem dX10_insertOn_54 : decode cX10_insertOn 54 = .ok (.imul, 1) := by decide +kernel
theorem dX10_insertOn_55 : decode cX10_insertOn 55 = .ok (.iload 5, 2) := by decide +kernel
theorem dX10_insertOn_57 : decode cX10_insertOn 57 = .ok (.iadd, 1) := by decide +kernel
theorem dX10_insertOn_58 : decode cX10_insertOn 58 = .ok (.invokevirtual 91, 3) := by decide +kernel
theorem dX10_insertOn_61 : decode cX10_insertOn 61 = .ok (.ireturn, 1) := by decide +kernel
set_option maxRecDepth 20000 in
theorem ggX10_removeOn_X10_isCell : GoodIn wsX10_removeOn wsX10_isCell := goodIn_r _ [4, 5, 6, 3, 7, 8, 9, 10, 11] (by decide +kernel) (by decide +kernel)
set_option maxRecDepth 20000 in
theorem gX10_removeOn_X10_isCell : GoodIn wsX10_removeOn (va_wsS RX10 68 yX10_isCell wsX10_isCell) := goodIn_app (goodIn_of _ (by decide +kernel)) ggX10_removeOn_X10_isCell
set_option maxRecDepth 20000 in
theorem ggX10_removeOn_X10_get : GoodIn wsX10_removeOn wsX10_get := goodIn_r _ [14] (by decide +kernel) (by decide +kernel)
set_option maxRecDepth 20000 in
theorem gX10_removeOn_X10_get : GoodIn wsX10_removeOn (va_wsS RX10 76 yX10_get wsX10_get) := goodIn_app (goodIn_of _ (by decide +kernel)) ggX10_removeOn_X10_get
set_option maxRecDepth 20000 in
theorem ggX10_removeOn_X10_set : GoodIn wsX10_removeOn wsX10_set := goodIn_r _ [17] (by decide +kernel) (by decide +kernel)
set_option maxRecDepth 20000 in
theorem gX10_removeOn_X10_set : GoodIn wsX10_removeOn (va_wsS RX10 80 yX10_set wsX10_set) := goodIn_app (goodIn_of _ (by decide +kernel)) ggX10_removeOn_X10_set
theorem dX10_removeOn_0 : decode cX10_removeOn 0 = .ok (.iload_n 2, 1) := by decide +kernel
theorem dX10_removeOn_1 : decode cX10_removeOn 1 = .ok (.istore 4, 2) := by decide +kernel
theorem dX10_removeOn_3 : decode cX10_removeOn 3 = .ok (.iload_n 3, 1) := by decide +kernel
theorem dX10_removeOn_4 : decode cX10_removeOn 4 = .ok (.istore 5, 2) := by decide +kernel
theorem dX10_removeOn_6 : decode cX10_removeOn 6 = .ok (.aload_n 0, 1) := by decide +kernel
theorem dX10_removeOn_7 : decode cX10_removeOn 7 = .ok (.iload_n 1, 1) := by decide +kernel
theorem dX10_removeOn_8 : decode cX10_removeOn 8 = .ok (.iload 4, 2) := by decide +kernel
theorem dX10_removeOn_10 : decode cX10_removeOn 10 = .ok (.iconst 1, 1) := by decide +kernel
theorem dX10_removeOn_11 : decode cX10_removeOn 11 = .ok (.iadd, 1) := by decide +kernel
theorem dX10_removeOn_12 : decode cX10_removeOn 12 = .ok (.iload 5, 2) := by decide +kernel
theorem dX10_removeOn_14 : decode cX10_removeOn 14 = .ok (.invokestatic 68, 3) := by decide +kernel
theorem dX10_removeOn_17 : decode cX10_removeOn 17 = .ok (.ifCond .ne 17, 3) := by decide +kernel
theorem dX10_removeOn_20 : decode cX10_removeOn 20 = .ok (.aload_n 0, 1) := by decide +kernel
theorem dX10_removeOn_21 : decode cX10_removeOn 21 = .ok (.iload_n 1, 1) := by decide +kernel
theorem dX10_removeOn_22 : decode cX10_removeOn 22 = .ok (.iload 4, 2) := by decide +kernel
theorem dX10_removeOn_24 : decode cX10_removeOn 24 = .ok (.iload 5, 2) := by decide +kernel
theorem dX10_removeOn_26 : decode cX10_removeOn 26 = .ok (.iconst 1, 1) := by decide +kernel
theorem dX10_removeOn_27 : decode cX10_removeOn 27 = .ok (.iadd, 1) := by decide +kernel
theorem dX10_removeOn_28 : decode cX10_removeOn 28 = .ok (.invokestatic 68, 3) := by decide +kernel
theorem dX10_removeOn_31 : decode cX10_removeOn 31 = .ok (.ifCond .eq 137, 3) := by decide +kernel
theorem dX10_removeOn_34 : decode cX10_removeOn 34 = .ok (.aload_n 0, 1) := by decide +kernel
theorem dX10_removeOn_35 : decode cX10_removeOn 35 = .ok (.iload_n 1, 1) := by decide +kernel
theorem dX10_removeOn_36 : decode cX10_removeOn 36 = .ok (.iload 4, 2) := by decide +kernel
theorem dX10_removeOn_38 : decode cX10_removeOn 38 = .ok (.iconst 1, 1) := by decide +kernel
theorem dX10_removeOn_39 : decode cX10_removeOn 39 = .ok (.iadd, 1) := by decide +kernel
theorem dX10_removeOn_40 : decode cX10_removeOn 40 = .ok (.iload 5, 2) := by decide +kernel
theorem dX10_removeOn_42 : decode cX10_removeOn 42 = .ok (.invokestatic 68, 3) := by decide +kernel
theorem dX10_removeOn_45 : decode cX10_removeOn 45 = .ok (.ifCond .eq 17, 3) := by decide +kernel
theorem dX10_removeOn_48 : decode cX10_removeOn 48 = .ok (.aload_n 0, 1) := by decide +kernel
theorem dX10_removeOn_49 : decode cX10_removeOn 49 = .ok (.iload_n 1, 1) := by decide +kernel
theorem dX10_removeOn_50 : decode cX10_removeOn 50 = .ok (.iload 4, 2) := by decide +kernel
theorem dX10_removeOn_52 : decode cX10_removeOn 52 = .ok (.iconst 1, 1) := by decide +kernel
theorem dX10_removeOn_53 : decode cX10_removeOn 53 = .ok (.iadd, 1) := by decide +kernel
theorem dX10_removeOn_54 : decode cX10_removeOn 54 = .ok (.iload 5, 2) := by decide +kernel
theorem dX10_removeOn_56 : decode cX10_removeOn 56 = .ok (.invokestatic 76, 3) := by decide +kernel
theorem dX10_removeOn_59 : decode cX10_removeOn 59 = .ok (.goto 6, 3) := by decide +kernel
theorem dX10_removeOn_62 : decode cX10_removeOn 62 = .ok (.sipush 1000, 3) := by decide +kernel
theorem dX10_removeOn_65 : decode cX10_removeOn 65 = .ok (.istore 6, 2) := by decide +kernel
theorem dX10_removeOn_67 : decode cX10_removeOn 67 = .ok (.aload_n 0, 1) := by decide +kernel
theorem dX10_removeOn_68 : decode cX10_removeOn 68 = .ok (.iload_n 1, 1) := by decide +kernel
theorem dX10_removeOn_69 : decode cX10_removeOn 69 = .ok (.iload 4, 2) := by decide +kernel
theorem dX10_removeOn_71 : decode cX10_removeOn 71 = .ok (.iload 5, 2) := by decide +kernel
theorem dX10_removeOn_73 : decode cX10_removeOn 73 = .ok (.iconst 1, 1) := by decide +kernel
theorem dX10_removeOn_74 : decode cX10_removeOn 74 = .ok (.iadd, 1) := by decide +kernel
theorem dX10_removeOn_75 : decode cX10_removeOn 75 = .ok (.invokestatic 68, 3) := by decide +kernel
theorem dX10_removeOn_78 : decode cX10_removeOn 78 = .ok (.ifCond .eq 17, 3) := by decide +kernel
theorem dX10_removeOn_81 : decode cX10_removeOn 81 = .ok (.aload_n 0, 1) := by decide +kernel
theorem dX10_removeOn_82 : decode cX10_removeOn 82 = .ok (.iload_n 1, 1) := by decide +kernel
theorem dX10_removeOn_83 : decode cX10_removeOn 83 = .ok (.iload 4, 2) := by decide +kernel
theorem dX10_removeOn_85 : decode cX10_removeOn 85 = .ok (.iload 5, 2) := by decide +kernel
theorem dX10_removeOn_87 : decode cX10_removeOn 87 = .ok (.iconst 1, 1) := by decide +kernel
theorem dX10_removeOn_88 : decode cX10_removeOn 88 = .ok (.iadd, 1) := by decide +kernel
theorem dX10_removeOn_89 : decode cX10_removeOn 89 = .ok (.invokestatic 76, 3) := by decide +kernel
theorem dX10_removeOn_92 : decode cX10_removeOn 92 = .ok (.goto 6, 3) := by decide +kernel
theorem dX10_removeOn_95 : decode cX10_removeOn 95 = .ok (.sipush 1000, 3) := by decide +kernel
theorem dX10_removeOn_98 : decode cX10_removeOn 98 = .ok (.istore 7, 2) := by decide +kernel
theorem dX10_removeOn_100 : decode cX10_removeOn 100 = .ok (.iload 6, 2) := by decide +kernel
theorem dX10_removeOn_102 : decode cX10_removeOn 102 = .ok (.iload 7, 2) := by decide +kernel
theorem dX10_removeOn_104 : decode cX10_removeOn 104 = .ok (.if_icmp .gt 7, 3) := by decide +kernel
theorem dX10_removeOn_107 : decode cX10_removeOn 107 = .ok (.iconst 1, 1) := by decide +kernel
theorem dX10_removeOn_108 : decode cX10_removeOn 108 = .ok (.goto 4, 3) := by decide +kernel
theorem dX10_removeOn_111 : decode cX10_removeOn 111 = .ok (.iconst 0, 1) := by decide +kernel
theorem dX10_removeOn_112 : decode cX10_removeOn 112 = .ok (.istore 8, 2) := by decide +kernel
theorem dX10_removeOn_114 : decode cX10_removeOn 114 = .ok (.aload_n 0, 1) := by decide +kernel
theorem dX10_removeOn_115 : decode cX10_removeOn 115 = .ok (.iload_n 1, 1) := by decide +kernel
theorem dX10_removeOn_116 : decode cX10_removeOn 116 = .ok (.iload 4, 2) := by decide +kernel
theorem dX10_removeOn_118 : decode cX10_removeOn 118 = .ok (.iload 5, 2) := by decide +kernel
theorem dX10_removeOn_120 : decode cX10_removeOn 120 = .ok (.iload 8, 2) := by decide +kernel
theorem dX10_removeOn_122 : decode cX10_removeOn 122 = .ok (.ifCond .eq 8, 3) := by decide +kernel
theorem dX10_removeOn_125 : decode cX10_removeOn 125 = .ok (.iload 6, 2) := by decide +kernel
theorem dX10_removeOn_127 : decode cX10_removeOn 127 = .ok (.goto 5, 3) := by decide +kernel
theorem dX10_removeOn_130 : decode cX10_removeOn 130 = .ok (.iload 7, 2) := by decide +kernel
theorem dX10_removeOn_132 : decode cX10_removeOn 132 = .ok (.invokestatic 80, 3) := by decide +kernel
theorem dX10_removeOn_135 : decode cX10_removeOn 135 = .ok (.iload 4, 2) := by decide +kernel
theorem dX10_removeOn_137 : decode cX10_removeOn 137 = .ok (.iload 8, 2) := by decide +kernel
theorem dX10_removeOn_139 : decode cX10_removeOn 139 = .ok (.ifCond .eq 7, 3) := by decide +kernel
theorem dX10_removeOn_142 : decode cX10_removeOn 142 = .ok (.iconst 1, 1) := by decide +kernel
theorem dX10_removeOn_143 : decode cX10_removeOn 143 = .ok (.goto 4, 3) := by decide +kernel
theorem dX10_removeOn_146 : decode cX10_removeOn 146 = .ok (.iconst 0, 1) := by decide +kernel
theorem dX10_removeOn_147 : decode cX10_removeOn 147 = .ok (.iadd, 1) := by decide +kernel
theorem dX10_removeOn_148 : decode cX10_removeOn 148 = .ok (.istore 4, 2) := by decide +kernel
theorem dX10_removeOn_150 : decode cX10_removeOn 150 = .ok (.iload 5, 2) := by decide +kernel
theorem dX10_removeOn_152 : decode cX10_removeOn 152 = .ok (.iload 8, 2) := by decide +kernel
theorem dX10_removeOn_154 : decode cX10_removeOn 154 = .ok (.ifCond .eq 7, 3) := by decide +kernel
theorem dX10_removeOn_157 : decode cX10_removeOn 157 = .ok (.iconst 0, 1) := by decide +kernel
theorem dX10_removeOn_158 : decode cX10_removeOn 158 = .ok (.goto 4, 3) := by decide +kernel
theorem dX10_removeOn_161 : decode cX10_removeOn 161 = .ok (.iconst 1, 1) := by decide +kernel
theorem dX10_removeOn_162 : decode cX10_removeOn 162 = .ok (.iadd, 1) := by decide +kernel
theorem dX10_removeOn_163 : decode cX10_removeOn 163 = .ok (.istore 5, 2) := by decide +kernel
theorem dX10_removeOn_165 : decode cX10_removeOn 165 = .ok (.goto (-159), 3) := by decide +kernel
theorem dX10_removeOn_168 : decode cX10_removeOn 168 = .ok (.aload_n 0, 1) := by decide +kernel
theorem dX10_removeOn_169 : decode cX10_removeOn 169 = .ok (.bipush 42, 2) := by decide +kernel
theorem dX10_removeOn_171 : decode cX10_removeOn 171 = .ok (.iload_n 1, 1) := by decide +kernel
theorem dX10_removeOn_172 : decode cX10_removeOn 172 = .ok (.imul, 1) := by decide +kernel
theorem dX10_removeOn_173 : decode cX10_removeOn 173 = .ok (.bipush 36, 2) := by decide +kernel
theorem dX10_removeOn_175 : decode cX10_removeOn 175 = .ok (.iadd, 1) := by decide +kernel
theorem dX10_removeOn_176 : decode cX10_removeOn 176 = .ok (.iload 4, 2) := by decide +kernel
theorem dX10_removeOn_178 : decode cX10_removeOn 178 = .ok (.iadd, 1) := by decide +kernel
theorem dX10_removeOn_179 : decode cX10_removeOn 179 = .ok (.dup2, 1) := by decide +kernel
theorem dX10_removeOn_180 : decode cX10_removeOn 180 = .ok (.iaload, 1) := by decide +kernel
theorem dX10_removeOn_181 : decode cX10_removeOn 181 = .ok (.iconst 1, 1) := by decide +kernel
theorem dX10_removeOn_182 : decode cX10_removeOn 182 = .ok (.isub, 1) := by decide +kernel
theorem dX10_removeOn_183 : decode cX10_removeOn 183 = .ok (.iastore, 1) := by decide +kernel
theorem dX10_removeOn_184 : decode cX10_removeOn 184 = .ok (.aload_n 0, 1) := by decide +kernel
theorem dX10_removeOn_185 : decode cX10_removeOn 185 = .ok (.iload_n 1, 1) := by decide +kernel
theorem dX10_removeOn_186 : decode cX10_removeOn 186 = .ok (.iload 4, 2) := by decide +kernel
theorem dX10_removeOn_188 : decode cX10_removeOn 188 = .ok (.iload 5, 2) := by decide +kernel
theorem dX10_removeOn_190 : decode cX10_removeOn 190 = .ok (.iconst 0, 1) := by decide +kernel
theorem dX10_removeOn_191 : decode cX10_removeOn 191 = .ok (.invokestatic 80, 3) := by decide +kernel
theorem dX10_removeOn_194 : decode cX10_removeOn 194 = .ok (.bipush 10, 2) := by decide +kernel
theorem dX10_removeOn_196 : decode cX10_removeOn 196 = .ok (.iload 4, 2) := by decide +kernel
theorem dX10_removeOn_198 : decode cX10_removeOn 198 = .ok (.imul, 1) := by decide +kernel
theorem dX10_removeOn_199 : decode cX10_removeOn 199 = .ok (.iload 5, 2) := by decide +kernel
theorem dX10_removeOn_201 : decode cX10_removeOn 201 = .ok (.iadd, 1) := by decide +kernel
theorem dX10_removeOn_202 : decode cX10_removeOn 202 = .ok (.ireturn, 1) := by decide +kernel
set_option maxRecDepth 20000 in
theorem ggX10_transposeOn_X10_tall : GoodIn wsX10_transposeOn wsX10_tall := goodIn_r _ [5, 6, 7, 4, 8, 9, 10, 11, 12] (by decide +kernel) (by decide +kernel)
set_option maxRecDepth 20000 in
theorem gX10_transposeOn_X10_tall : GoodIn wsX10_transposeOn (va_wsS RX10 94 yX10_tall wsX10_tall) := goodIn_app (goodIn_of _ (by decide +kernel)) ggX10_transposeOn_X10_tall
set_option maxRecDepth 20000 in
theorem ggX10_transposeOn_X10_get : GoodIn wsX10_transposeOn wsX10_get := goodIn_r _ [15] (by decide +kernel) (by decide +kernel)
set_option maxRecDepth 20000 in
theorem gX10_transposeOn_X10_get : GoodIn wsX10_transposeOn (va_wsS RX10 76 yX10_get wsX10_get) := goodIn_app (goodIn_of _ (by decide +kernel)) ggX10_transposeOn_X10_get
set_option maxRecDepth 20000 in
theorem ggX10_transposeOn_X10_copy : GoodIn wsX10_transposeOn wsX10_copy := goodIn_r _ [18] (by decide +kernel) (by decide +kernel)
set_option maxRecDepth 20000 in
theorem gX10_transposeOn_X10_copy : GoodIn wsX10_transposeOn (va_wsS RX10 50 yX10_copy wsX10_copy) := goodIn_app (goodIn_of _ (by decide +kernel)) ggX10_transposeOn_X10_copy
theorem dX10_transposeOn_0 : decode cX10_transposeOn 0 = .ok (.iconst 0, 1) := by decide +kernel
theorem dX10_transposeOn_1 : decode cX10_transposeOn 1 = .ok (.istore_n 3, 1) := by decide +kernel
theorem dX10_transposeOn_2 : decode cX10_transposeOn 2 = .ok (.iload_n 3, 1) := by decide +kernel
theorem dX10_transposeOn_3 : decode cX10_transposeOn 3 = .ok (.bipush 6, 2) := by decide +kernel
theorem dX10_transposeOn_5 : decode cX10_transposeOn 5 = .ok (.if_icmp .ge 60, 3) := by decide +kernel
theorem dX10_transposeOn_8 : decode cX10_transposeOn 8 = .ok (.aload_n 0, 1) := by decide +kernel
theorem dX10_transposeOn_9 : decode cX10_transposeOn 9 = .ok (.getfield 38, 3) := by decide +kernel
theorem dX10_transposeOn_12 : decode cX10_transposeOn 12 = .ok (.bipush 36, 2) := by decide +kernel
theorem dX10_transposeOn_14 : decode cX10_transposeOn 14 = .ok (.iload_n 3, 1) := by decide +kernel
theorem dX10_transposeOn_15 : decode cX10_transposeOn 15 = .ok (.iadd, 1) := by decide +kernel
theorem dX10_transposeOn_16 : decode cX10_transposeOn 16 = .ok (.aload_n 1, 1) := by decide +kernel
theorem dX10_transposeOn_17 : decode cX10_transposeOn 17 = .ok (.iload_n 2, 1) := by decide +kernel
theorem dX10_transposeOn_18 : decode cX10_transposeOn 18 = .ok (.iload_n 3, 1) := by decide +kernel
theorem dX10_transposeOn_19 : decode cX10_transposeOn 19 = .ok (.invokestatic 94, 3) := by decide +kernel
theorem dX10_transposeOn_22 : decode cX10_transposeOn 22 = .ok (.iastore, 1) := by decide +kernel
theorem dX10_transposeOn_23 : decode cX10_transposeOn 23 = .ok (.iconst 0, 1) := by decide +kernel
theorem dX10_transposeOn_24 : decode cX10_transposeOn 24 = .ok (.istore 4, 2) := by decide +kernel
theorem dX10_transposeOn_26 : decode cX10_transposeOn 26 = .ok (.iload 4, 2) := by decide +kernel
theorem dX10_transposeOn_28 : decode cX10_transposeOn 28 = .ok (.bipush 6, 2) := by decide +kernel
theorem dX10_transposeOn_30 : decode cX10_transposeOn 30 = .ok (.if_icmp .ge 29, 3) := by decide +kernel
theorem dX10_transposeOn_33 : decode cX10_transposeOn 33 = .ok (.aload_n 0, 1) := by decide +kernel
theorem dX10_transposeOn_34 : decode cX10_transposeOn 34 = .ok (.getfield 38, 3) := by decide +kernel
theorem dX10_transposeOn_37 : decode cX10_transposeOn 37 = .ok (.bipush 6, 2) := by decide +kernel
theorem dX10_transposeOn_39 : decode cX10_transposeOn 39 = .ok (.iload_n 3, 1) := by decide +kernel
theorem dX10_transposeOn_40 : decode cX10_transposeOn 40 = .ok (.imul, 1) := by decide +kernel
theorem dX10_transposeOn_41 : decode cX10_transposeOn 41 = .ok (.iload 4, 2) := by decide +kernel
theorem dX10_transposeOn_43 : decode cX10_transposeOn 43 = .ok (.iadd, 1) := by decide +kernel
theorem dX10_transposeOn_44 : decode cX10_transposeOn 44 = .ok (.aload_n 1, 1) := by decide +kernel
theorem dX10_transposeOn_45 : decode cX10_transposeOn 45 = .ok (.iload_n 2, 1) := by decide +kernel
theorem dX10_transposeOn_46 : decode cX10_transposeOn 46 = .ok (.iload 4, 2) := by decide +kernel
theorem dX10_transposeOn_48 : decode cX10_transposeOn 48 = .ok (.iload_n 3, 1) := by decide +kernel
theorem dX10_transposeOn_49 : decode cX10_transposeOn 49 = .ok (.invokestatic 76, 3) := by decide +kernel
theorem dX10_transposeOn_52 : decode cX10_transposeOn 52 = .ok (.iastore, 1) := by decide +kernel
theorem dX10_transposeOn_53 : decode cX10_transposeOn 53 = .ok (.iinc 4 1, 3) := by decide +kernel
theorem dX10_transposeOn_56 : decode cX10_transposeOn 56 = .ok (.goto (-30), 3) := by decide +kernel
theorem dX10_transposeOn_59 : decode cX10_transposeOn 59 = .ok (.iinc 3 1, 3) := by decide +kernel
theorem dX10_transposeOn_62 : decode cX10_transposeOn 62 = .ok (.goto (-60), 3) := by decide +kernel
theorem dX10_transposeOn_65 : decode cX10_transposeOn 65 = .ok (.aload_n 0, 1) := by decide +kernel
theorem dX10_transposeOn_66 : decode cX10_transposeOn 66 = .ok (.getfield 38, 3) := by decide +kernel
theorem dX10_transposeOn_69 : decode cX10_transposeOn 69 = .ok (.iconst 0, 1) := by decide +kernel
theorem dX10_transposeOn_70 : decode cX10_transposeOn 70 = .ok (.aload_n 1, 1) := by decide +kernel
theorem dX10_transposeOn_71 : decode cX10_transposeOn 71 = .ok (.bipush 42, 2) := by decide +kernel
theorem dX10_transposeOn_73 : decode cX10_transposeOn 73 = .ok (.iload_n 2, 1) := by decide +kernel
theorem dX10_transposeOn_74 : decode cX10_transposeOn 74 = .ok (.imul, 1) := by decide +kernel
theorem dX10_transposeOn_75 : decode cX10_transposeOn 75 = .ok (.bipush 42, 2) := by decide +kernel
theorem dX10_transposeOn_77 : decode cX10_transposeOn 77 = .ok (.invokestatic 50, 3) := by decide +kernel
theorem dX10_transposeOn_80 : decode cX10_transposeOn 80 = .ok (.return_, 1) := by decide +kernel
set_option maxRecDepth 20000 in
theorem ggX10_append_X10_in : GoodIn wsX10_append wsX10_in := goodIn_r _ [7] (by decide +kernel) (by decide +kernel)
set_option maxRecDepth 20000 in
theorem gX10_append_X10_in : GoodIn wsX10_append (va_wsS RX10 54 yX10_in wsX10_in) := goodIn_app (goodIn_of _ (by decide +kernel)) ggX10_append_X10_in
set_option maxRecDepth 20000 in
theorem ggX10_append_X10_refused : GoodIn wsX10_append wsX10_refused := goodIn_r _ [11, 12, 13, 14, 15, 16, 17, 18, 19, 20, 21, 22, 23, 24, 25, 26, 27] (by decide +kernel) (by decide +kernel)
set_option maxRecDepth 20000 in
theorem gX10_append_X10_refused : GoodIn wsX10_append (wsV RX10 102 RX10 yX10_refused wsX10_refused) := goodIn_app (goodIn_of _ (by decide +kernel)) ggX10_append_X10_refused
theorem dX10_append_0 : decode cX10_append 0 = .ok (.aload_n 0, 1) := by decide +kernel
theorem dX10_append_1 : decode cX10_append 1 = .ok (.iload_n 1, 1) := by decide +kernel
theorem dX10_append_2 : decode cX10_append 2 = .ok (.i2l, 1) := by decide +kernel
theorem dX10_append_3 : decode cX10_append 3 = .ok (.lconst 0, 1) := by decide +kernel
theorem dX10_append_4 : decode cX10_append 4 = .ok (.ldc2_w 97, 3) := by decide +kernel
theorem dX10_append_7 : decode cX10_append 7 = .ok (.invokestatic 54, 3) := by decide +kernel
theorem dX10_append_10 : decode cX10_append 10 = .ok (.ifCond .ne 7, 3) := by decide +kernel
theorem dX10_append_13 : decode cX10_append 13 = .ok (.iconst 1, 1) := by decide +kernel
theorem dX10_append_14 : decode cX10_append 14 = .ok (.goto 18, 3) := by decide +kernel
theorem dX10_append_17 : decode cX10_append 17 = .ok (.aload_n 0, 1) := by decide +kernel
theorem dX10_append_18 : decode cX10_append 18 = .ok (.getfield 99, 3) := by decide +kernel
theorem dX10_append_21 : decode cX10_append 21 = .ok (.sipush 160, 3) := by decide +kernel
theorem dX10_append_24 : decode cX10_append 24 = .ok (.if_icmp .ne 7, 3) := by decide +kernel
theorem dX10_append_27 : decode cX10_append 27 = .ok (.iconst 2, 1) := by decide +kernel
theorem dX10_append_28 : decode cX10_append 28 = .ok (.goto 4, 3) := by decide +kernel
theorem dX10_append_31 : decode cX10_append 31 = .ok (.iconst 0, 1) := by decide +kernel
theorem dX10_append_32 : decode cX10_append 32 = .ok (.invokevirtual 102, 3) := by decide +kernel
theorem dX10_append_35 : decode cX10_append 35 = .ok (.ifCond .eq 5, 3) := by decide +kernel
theorem dX10_append_38 : decode cX10_append 38 = .ok (.iconst 0, 1) := by decide +kernel
theorem dX10_append_39 : decode cX10_append 39 = .ok (.ireturn, 1) := by decide +kernel
theorem dX10_append_40 : decode cX10_append 40 = .ok (.aload_n 0, 1) := by decide +kernel
theorem dX10_append_41 : decode cX10_append 41 = .ok (.getfield 7, 3) := by decide +kernel
theorem dX10_append_44 : decode cX10_append 44 = .ok (.aload_n 0, 1) := by decide +kernel
theorem dX10_append_45 : decode cX10_append 45 = .ok (.getfield 99, 3) := by decide +kernel
theorem dX10_append_48 : decode cX10_append 48 = .ok (.iload_n 1, 1) := by decide +kernel
theorem dX10_append_49 : decode cX10_append 49 = .ok (.iastore, 1) := by decide +kernel
theorem dX10_append_50 : decode cX10_append 50 = .ok (.aload_n 0, 1) := by decide +kernel
theorem dX10_append_51 : decode cX10_append 51 = .ok (.dup, 1) := by decide +kernel
theorem dX10_append_52 : decode cX10_append 52 = .ok (.getfield 99, 3) := by decide +kernel
theorem dX10_append_55 : decode cX10_append 55 = .ok (.iconst 1, 1) := by decide +kernel
theorem dX10_append_56 : decode cX10_append 56 = .ok (.iadd, 1) := by decide +kernel
theorem dX10_append_57 : decode cX10_append 57 = .ok (.putfield 99, 3) := by decide +kernel
theorem dX10_append_60 : decode cX10_append 60 = .ok (.aload_n 0, 1) := by decide +kernel
theorem dX10_append_61 : decode cX10_append 61 = .ok (.getfield 99, 3) := by decide +kernel
theorem dX10_append_64 : decode cX10_append 64 = .ok (.ireturn, 1) := by decide +kernel
theorem dX10_clearText_0 : decode cX10_clearText 0 = .ok (.aload_n 0, 1) := by decide +kernel
theorem dX10_clearText_1 : decode cX10_clearText 1 = .ok (.iconst 0, 1) := by decide +kernel
theorem dX10_clearText_2 : decode cX10_clearText 2 = .ok (.putfield 41, 3) := by decide +kernel
theorem dX10_clearText_5 : decode cX10_clearText 5 = .ok (.aload_n 0, 1) := by decide +kernel
theorem dX10_clearText_6 : decode cX10_clearText 6 = .ok (.getfield 99, 3) := by decide +kernel
theorem dX10_clearText_9 : decode cX10_clearText 9 = .ok (.istore_n 1, 1) := by decide +kernel
theorem dX10_clearText_10 : decode cX10_clearText 10 = .ok (.aload_n 0, 1) := by decide +kernel
theorem dX10_clearText_11 : decode cX10_clearText 11 = .ok (.iconst 0, 1) := by decide +kernel
theorem dX10_clearText_12 : decode cX10_clearText 12 = .ok (.putfield 99, 3) := by decide +kernel
theorem dX10_clearText_15 : decode cX10_clearText 15 = .ok (.iload_n 1, 1) := by decide +kernel
theorem dX10_clearText_16 : decode cX10_clearText 16 = .ok (.ireturn, 1) := by decide +kernel
set_option maxRecDepth 20000 in
theorem ggX10_digit_X10_in : GoodIn wsX10_digit wsX10_in := goodIn_r _ [8] (by decide +kernel) (by decide +kernel)
set_option maxRecDepth 20000 in
theorem gX10_digit_X10_in : GoodIn wsX10_digit (va_wsS RX10 54 yX10_in wsX10_in) := goodIn_app (goodIn_of _ (by decide +kernel)) ggX10_digit_X10_in
theorem dX10_digit_0 : decode cX10_digit 0 = .ok (.aload_n 0, 1) := by decide +kernel
theorem dX10_digit_1 : decode cX10_digit 1 = .ok (.getfield 105, 3) := by decide +kernel
theorem dX10_digit_4 : decode cX10_digit 4 = .ok (.aload_n 0, 1) := by decide +kernel
theorem dX10_digit_5 : decode cX10_digit 5 = .ok (.getfield 99, 3) := by decide +kernel
theorem dX10_digit_8 : decode cX10_digit 8 = .ok (.if_icmp .ge 18, 3) := by decide +kernel
theorem dX10_digit_11 : decode cX10_digit 11 = .ok (.aload_n 0, 1) := by decide +kernel
theorem dX10_digit_12 : decode cX10_digit 12 = .ok (.getfield 7, 3) := by decide +kernel
theorem dX10_digit_15 : decode cX10_digit 15 = .ok (.aload_n 0, 1) := by decide +kernel
theorem dX10_digit_16 : decode cX10_digit 16 = .ok (.getfield 105, 3) := by decide +kernel
theorem dX10_digit_19 : decode cX10_digit 19 = .ok (.iaload, 1) := by decide +kernel
theorem dX10_digit_20 : decode cX10_digit 20 = .ok (.bipush 48, 2) := by decide +kernel
theorem dX10_digit_22 : decode cX10_digit 22 = .ok (.isub, 1) := by decide +kernel
theorem dX10_digit_23 : decode cX10_digit 23 = .ok (.goto 5, 3) := by decide +kernel
theorem dX10_digit_26 : decode cX10_digit 26 = .ok (.bipush (-9), 2) := by decide +kernel
theorem dX10_digit_28 : decode cX10_digit 28 = .ok (.istore_n 2, 1) := by decide +kernel
theorem dX10_digit_29 : decode cX10_digit 29 = .ok (.iload_n 2, 1) := by decide +kernel
theorem dX10_digit_30 : decode cX10_digit 30 = .ok (.i2l, 1) := by decide +kernel
theorem dX10_digit_31 : decode cX10_digit 31 = .ok (.iload_n 1, 1) := by decide +kernel
theorem dX10_digit_32 : decode cX10_digit 32 = .ok (.i2l, 1) := by decide +kernel
theorem dX10_digit_33 : decode cX10_digit 33 = .ok (.ldc2_w 108, 3) := by decide +kernel
theorem dX10_digit_36 : decode cX10_digit 36 = .ok (.invokestatic 54, 3) := by decide +kernel
theorem dX10_digit_39 : decode cX10_digit 39 = .ok (.ifCond .ne 6, 3) := by decide +kernel
theorem dX10_digit_42 : decode cX10_digit 42 = .ok (.bipush (-9), 2) := by decide +kernel
theorem dX10_digit_44 : decode cX10_digit 44 = .ok (.ireturn, 1) := by decide +kernel
theorem dX10_digit_45 : decode cX10_digit 45 = .ok (.aload_n 0, 1) := by decide +kernel
theorem dX10_digit_46 : decode cX10_digit 46 = .ok (.dup, 1) := by decide +kernel
theorem dX10_digit_47 : decode cX10_digit 47 = .ok (.getfield 105, 3) := by decide +kernel
theorem dX10_digit_50 : decode cX10_digit 50 = .ok (.iconst 1, 1) := by decide +kernel
theorem dX10_digit_51 : decode cX10_digit 51 = .ok (.iadd, 1) := by decide +kernel
theorem dX10_digit_52 : decode cX10_digit 52 = .ok (.putfield 105, 3) := by decide +kernel
theorem dX10_digit_55 : decode cX10_digit 55 = .ok (.iload_n 2, 1) := by decide +kernel
theorem dX10_digit_56 : decode cX10_digit 56 = .ok (.ireturn, 1) := by decide +kernel
theorem dX10_sign_0 : decode cX10_sign 0 = .ok (.aload_n 0, 1) := by decide +kernel
theorem dX10_sign_1 : decode cX10_sign 1 = .ok (.getfield 105, 3) := by decide +kernel
theorem dX10_sign_4 : decode cX10_sign 4 = .ok (.aload_n 0, 1) := by decide +kernel
theorem dX10_sign_5 : decode cX10_sign 5 = .ok (.getfield 99, 3) := by decide +kernel
theorem dX10_sign_8 : decode cX10_sign 8 = .ok (.if_icmp .ge 20, 3) := by decide +kernel
theorem dX10_sign_11 : decode cX10_sign 11 = .ok (.aload_n 0, 1) := by decide +kernel
theorem dX10_sign_12 : decode cX10_sign 12 = .ok (.getfield 7, 3) := by decide +kernel
theorem dX10_sign_15 : decode cX10_sign 15 = .ok (.aload_n 0, 1) := by decide +kernel
theorem dX10_sign_16 : decode cX10_sign 16 = .ok (.getfield 105, 3) := by decide +kernel
theorem dX10_sign_19 : decode cX10_sign 19 = .ok (.iaload, 1) := by decide +kernel
theorem dX10_sign_20 : decode cX10_sign 20 = .ok (.iload_n 1, 1) := by decide +kernel
theorem dX10_sign_21 : decode cX10_sign 21 = .ok (.if_icmp .ne 7, 3) := by decide +kernel
theorem dX10_sign_24 : decode cX10_sign 24 = .ok (.iconst 1, 1) := by decide +kernel
theorem dX10_sign_25 : decode cX10_sign 25 = .ok (.goto 4, 3) := by decide +kernel
theorem dX10_sign_28 : decode cX10_sign 28 = .ok (.iconst 0, 1) := by decide +kernel
theorem dX10_sign_29 : decode cX10_sign 29 = .ok (.istore_n 2, 1) := by decide +kernel
theorem dX10_sign_30 : decode cX10_sign 30 = .ok (.aload_n 0, 1) := by decide +kernel
theorem dX10_sign_31 : decode cX10_sign 31 = .ok (.dup, 1) := by decide +kernel
theorem dX10_sign_32 : decode cX10_sign 32 = .ok (.getfield 105, 3) := by decide +kernel
theorem dX10_sign_35 : decode cX10_sign 35 = .ok (.iload_n 2, 1) := by decide +kernel
theorem dX10_sign_36 : decode cX10_sign 36 = .ok (.ifCond .eq 7, 3) := by decide +kernel
theorem dX10_sign_39 : decode cX10_sign 39 = .ok (.iconst 1, 1) := by decide +kernel
theorem dX10_sign_40 : decode cX10_sign 40 = .ok (.goto 4, 3) := by decide +kernel
theorem dX10_sign_43 : decode cX10_sign 43 = .ok (.iconst 0, 1) := by decide +kernel
theorem dX10_sign_44 : decode cX10_sign 44 = .ok (.iadd, 1) := by decide +kernel
theorem dX10_sign_45 : decode cX10_sign 45 = .ok (.putfield 105, 3) := by decide +kernel
theorem dX10_sign_48 : decode cX10_sign 48 = .ok (.iload_n 2, 1) := by decide +kernel
theorem dX10_sign_49 : decode cX10_sign 49 = .ok (.ireturn, 1) := by decide +kernel
set_option maxRecDepth 20000 in
theorem ggX10_readCell_X10_length : GoodIn wsX10_readCell wsX10_length := goodIn_r _ [5, 6, 7, 8, 4, 9] (by decide +kernel) (by decide +kernel)
set_option maxRecDepth 20000 in
theorem gX10_readCell_X10_length : GoodIn wsX10_readCell (va_wsS RX10 60 yX10_length wsX10_length) := goodIn_app (goodIn_of _ (by decide +kernel)) ggX10_readCell_X10_length
set_option maxRecDepth 20000 in
theorem ggX10_readCell_X10_get : GoodIn wsX10_readCell wsX10_get := goodIn_r _ [12] (by decide +kernel) (by decide +kernel)
set_option maxRecDepth 20000 in
theorem gX10_readCell_X10_get : GoodIn wsX10_readCell (va_wsS RX10 76 yX10_get wsX10_get) := goodIn_app (goodIn_of _ (by decide +kernel)) ggX10_readCell_X10_get
set_option maxRecDepth 20000 in
theorem ggX10_readCell_X10_digit : GoodIn wsX10_readCell wsX10_digit := goodIn_r _ [16, 17, 18, 19, 20, 7, 8, 4, 9, 24, 25, 26, 27, 28, 29, 30, 31, 32, 33, 34, 35, 36, 37, 38] (by decide +kernel) (by decide +kernel)
set_option maxRecDepth 20000 in
theorem gX10_readCell_X10_digit : GoodIn wsX10_readCell (wsV RX10 110 RX10 yX10_digit wsX10_digit) := goodIn_app (goodIn_of _ (by decide +kernel)) ggX10_readCell_X10_digit
set_option maxRecDepth 20000 in
theorem ggX10_readCell_X10_set : GoodIn wsX10_readCell wsX10_set := goodIn_r _ [23] (by decide +kernel) (by decide +kernel)
set_option maxRecDepth 20000 in
theorem gX10_readCell_X10_set : GoodIn wsX10_readCell (va_wsS RX10 80 yX10_set wsX10_set) := goodIn_app (goodIn_of _ (by decide +kernel)) ggX10_readCell_X10_set
theorem dX10_readCell_0 : decode cX10_readCell 0 = .ok (.aload_n 0, 1) := by decide +kernel
theorem dX10_readCell_1 : decode cX10_readCell 1 = .ok (.getfield 13, 3) := by decide +kernel
theorem dX10_readCell_4 : decode cX10_readCell 4 = .ok (.iload_n 1, 1) := by decide +kernel
theorem dX10_readCell_5 : decode cX10_readCell 5 = .ok (.iload_n 2, 1) := by decide +kernel
theorem dX10_readCell_6 : decode cX10_readCell 6 = .ok (.invokestatic 60, 3) := by decide +kernel
theorem dX10_readCell_9 : decode cX10_readCell 9 = .ok (.istore_n 3, 1) := by decide +kernel
theorem dX10_readCell_10 : decode cX10_readCell 10 = .ok (.iload_n 3, 1) := by decide +kernel
theorem dX10_readCell_11 : decode cX10_readCell 11 = .ok (.iload_n 2, 1) := by decide +kernel
theorem dX10_readCell_12 : decode cX10_readCell 12 = .ok (.ifCond .ne 8, 3) := by decide +kernel
theorem dX10_readCell_15 : decode cX10_readCell 15 = .ok (.bipush 6, 2) := by decide +kernel
theorem dX10_readCell_17 : decode cX10_readCell 17 = .ok (.goto 14, 3) := by decide +kernel
theorem dX10_readCell_20 : decode cX10_readCell 20 = .ok (.aload_n 0, 1) := by decide +kernel
theorem dX10_readCell_21 : decode cX10_readCell 21 = .ok (.getfield 13, 3) := by decide +kernel
theorem dX10_readCell_24 : decode cX10_readCell 24 = .ok (.iload_n 1, 1) := by decide +kernel
theorem dX10_readCell_25 : decode cX10_readCell 25 = .ok (.iload_n 2, 1) := by decide +kernel
theorem dX10_readCell_26 : decode cX10_readCell 26 = .ok (.iconst 1, 1) := by decide +kernel
theorem dX10_readCell_27 : decode cX10_readCell 27 = .ok (.isub, 1) := by decide +kernel
theorem dX10_readCell_28 : decode cX10_readCell 28 = .ok (.invokestatic 60, 3) := by decide +kernel
theorem dX10_readCell_31 : decode cX10_readCell 31 = .ok (.if_icmp .ne 5, 3) := by decide +kernel
theorem dX10_readCell_34 : decode cX10_readCell 34 = .ok (.iconst 0, 1) := by decide +kernel
theorem dX10_readCell_35 : decode cX10_readCell 35 = .ok (.ireturn, 1) := by decide +kernel
theorem dX10_readCell_36 : decode cX10_readCell 36 = .ok (.iload_n 2, 1) := by decide +kernel
theorem dX10_readCell_37 : decode cX10_readCell 37 = .ok (.ifCond .le 18, 3) := by decide +kernel
theorem dX10_readCell_40 : decode cX10_readCell 40 = .ok (.aload_n 0, 1) := by decide +kernel
theorem dX10_readCell_41 : decode cX10_readCell 41 = .ok (.getfield 13, 3) := by decide +kernel
theorem dX10_readCell_44 : decode cX10_readCell 44 = .ok (.iload_n 1, 1) := by decide +kernel
theorem dX10_readCell_45 : decode cX10_readCell 45 = .ok (.iload_n 2, 1) := by decide +kernel
theorem dX10_readCell_46 : decode cX10_readCell 46 = .ok (.iconst 1, 1) := by decide +kernel
theorem dX10_readCell_47 : decode cX10_readCell 47 = .ok (.isub, 1) := by decide +kernel
theorem dX10_readCell_48 : decode cX10_readCell 48 = .ok (.iload_n 3, 1) := by decide +kernel
theorem dX10_readCell_49 : decode cX10_readCell 49 = .ok (.invokestatic 76, 3) := by decide +kernel
theorem dX10_readCell_52 : decode cX10_readCell 52 = .ok (.goto 4, 3) := by decide +kernel
theorem dX10_readCell_55 : decode cX10_readCell 55 = .ok (.iconst 0, 1) := by decide +kernel
theorem dX10_readCell_56 : decode cX10_readCell 56 = .ok (.istore 4, 2) := by decide +kernel
theorem dX10_readCell_58 : decode cX10_readCell 58 = .ok (.iload_n 3, 1) := by decide +kernel
theorem dX10_readCell_59 : decode cX10_readCell 59 = .ok (.ifCond .le 18, 3) := by decide +kernel
theorem dX10_readCell_62 : decode cX10_readCell 62 = .ok (.aload_n 0, 1) := by decide +kernel
theorem dX10_readCell_63 : decode cX10_readCell 63 = .ok (.getfield 13, 3) := by decide +kernel
theorem dX10_readCell_66 : decode cX10_readCell 66 = .ok (.iload_n 1, 1) := by decide +kernel
theorem dX10_readCell_67 : decode cX10_readCell 67 = .ok (.iload_n 2, 1) := by decide +kernel
theorem dX10_readCell_68 : decode cX10_readCell 68 = .ok (.iload_n 3, 1) := by decide +kernel
theorem dX10_readCell_69 : decode cX10_readCell 69 = .ok (.iconst 1, 1) := by decide +kernel
theorem dX10_readCell_70 : decode cX10_readCell 70 = .ok (.isub, 1) := by decide +kernel
theorem dX10_readCell_71 : decode cX10_readCell 71 = .ok (.invokestatic 76, 3) := by decide +kernel
theorem dX10_readCell_74 : decode cX10_readCell 74 = .ok (.goto 4, 3) := by decide +kernel
theorem dX10_readCell_77 : decode cX10_readCell 77 = .ok (.iconst 0, 1) := by decide +kernel
theorem dX10_readCell_78 : decode cX10_readCell 78 = .ok (.istore 5, 2) := by decide +kernel
theorem dX10_readCell_80 : decode cX10_readCell 80 = .ok (.iload 4, 2) := by decide +kernel
theorem dX10_readCell_82 : decode cX10_readCell 82 = .ok (.iload 5, 2) := by decide +kernel
theorem dX10_readCell_84 : decode cX10_readCell 84 = .ok (.if_icmp .le 8, 3) := by decide +kernel
theorem dX10_readCell_87 : decode cX10_readCell 87 = .ok (.iload 4, 2) := by decide +kernel
theorem dX10_readCell_89 : decode cX10_readCell 89 = .ok (.goto 5, 3) := by decide +kernel
theorem dX10_readCell_92 : decode cX10_readCell 92 = .ok (.iload 5, 2) := by decide +kernel
theorem dX10_readCell_94 : decode cX10_readCell 94 = .ok (.istore 6, 2) := by decide +kernel
theorem dX10_readCell_96 : decode cX10_readCell 96 = .ok (.aload_n 0, 1) := by decide +kernel
theorem dX10_readCell_97 : decode cX10_readCell 97 = .ok (.iload 6, 2) := by decide +kernel
theorem dX10_readCell_99 : decode cX10_readCell 99 = .ok (.bipush 10, 2) := by decide +kernel
theorem dX10_readCell_101 : decode cX10_readCell 101 = .ok (.idiv, 1) := by decide +kernel
theorem dX10_readCell_102 : decode cX10_readCell 102 = .ok (.invokevirtual 110, 3) := by decide +kernel
theorem dX10_readCell_105 : decode cX10_readCell 105 = .ok (.istore 7, 2) := by decide +kernel
theorem dX10_readCell_107 : decode cX10_readCell 107 = .ok (.iload 7, 2) := by decide +kernel
theorem dX10_readCell_109 : decode cX10_readCell 109 = .ok (.bipush (-9), 2) := by decide +kernel
theorem dX10_readCell_111 : decode cX10_readCell 111 = .ok (.if_icmp .ne 8, 3) := by decide +kernel
theorem dX10_readCell_114 : decode cX10_readCell 114 = .ok (.bipush (-9), 2) := by decide +kernel
theorem dX10_readCell_116 : decode cX10_readCell 116 = .ok (.goto 26, 3) := by decide +kernel
theorem dX10_readCell_119 : decode cX10_readCell 119 = .ok (.aload_n 0, 1) := by decide +kernel
theorem dX10_readCell_120 : decode cX10_readCell 120 = .ok (.iload 7, 2) := by decide +kernel
theorem dX10_readCell_122 : decode cX10_readCell 122 = .ok (.iload 6, 2) := by decide +kernel
theorem dX10_readCell_124 : decode cX10_readCell 124 = .ok (.bipush 10, 2) := by decide +kernel
theorem dX10_readCell_126 : decode cX10_readCell 126 = .ok (.idiv, 1) := by decide +kernel
theorem dX10_readCell_127 : decode cX10_readCell 127 = .ok (.if_icmp .ne 11, 3) := by decide +kernel
theorem dX10_readCell_130 : decode cX10_readCell 130 = .ok (.iload 6, 2) := by decide +kernel
theorem dX10_readCell_132 : decode cX10_readCell 132 = .ok (.bipush 10, 2) := by decide +kernel
theorem dX10_readCell_134 : decode cX10_readCell 134 = .ok (.irem, 1) := by decide +kernel
theorem dX10_readCell_135 : decode cX10_readCell 135 = .ok (.goto 4, 3) := by decide +kernel
theorem dX10_readCell_138 : decode cX10_readCell 138 = .ok (.iconst 0, 1) := by decide +kernel
theorem dX10_readCell_139 : decode cX10_readCell 139 = .ok (.invokevirtual 110, 3) := by decide +kernel
theorem dX10_readCell_142 : decode cX10_readCell 142 = .ok (.istore 8, 2) := by decide +kernel
theorem dX10_readCell_144 : decode cX10_readCell 144 = .ok (.iload 8, 2) := by decide +kernel
theorem dX10_readCell_146 : decode cX10_readCell 146 = .ok (.bipush (-9), 2) := by decide +kernel
theorem dX10_readCell_148 : decode cX10_readCell 148 = .ok (.if_icmp .ne 5, 3) := by decide +kernel
theorem dX10_readCell_151 : decode cX10_readCell 151 = .ok (.iconst 0, 1) := by decide +kernel
theorem dX10_readCell_152 : decode cX10_readCell 152 = .ok (.ireturn, 1) := by decide +kernel
theorem dX10_readCell_153 : decode cX10_readCell 153 = .ok (.aload_n 0, 1) := by decide +kernel
theorem dX10_readCell_154 : decode cX10_readCell 154 = .ok (.getfield 13, 3) := by decide +kernel
theorem dX10_readCell_157 : decode cX10_readCell 157 = .ok (.iload_n 1, 1) := by decide +kernel
theorem dX10_readCell_158 : decode cX10_readCell 158 = .ok (.iload_n 2, 1) := by decide +kernel
theorem dX10_readCell_159 : decode cX10_readCell 159 = .ok (.iload_n 3, 1) := by decide +kernel
theorem dX10_readCell_160 : decode cX10_readCell 160 = .ok (.bipush 10, 2) := by decide +kernel
theorem dX10_readCell_162 : decode cX10_readCell 162 = .ok (.iload 7, 2) := by decide +kernel
theorem dX10_readCell_164 : decode cX10_readCell 164 = .ok (.imul, 1) := by decide +kernel
theorem dX10_readCell_165 : decode cX10_readCell 165 = .ok (.iload 8, 2) := by decide +kernel
theorem dX10_readCell_167 : decode cX10_readCell 167 = .ok (.iadd, 1) := by decide +kernel
theorem dX10_readCell_168 : decode cX10_readCell 168 = .ok (.invokestatic 80, 3) := by decide +kernel
theorem dX10_readCell_171 : decode cX10_readCell 171 = .ok (.aload_n 0, 1) := by decide +kernel
theorem dX10_readCell_172 : decode cX10_readCell 172 = .ok (.getfield 13, 3) := by decide +kernel
theorem dX10_readCell_175 : decode cX10_readCell 175 = .ok (.bipush 42, 2) := by decide +kernel
theorem dX10_readCell_177 : decode cX10_readCell 177 = .ok (.iload_n 1, 1) := by decide +kernel
theorem dX10_readCell_178 : decode cX10_readCell 178 = .ok (.imul, 1) := by decide +kernel
theorem dX10_readCell_179 : decode cX10_readCell 179 = .ok (.bipush 36, 2) := by decide +kernel
theorem dX10_readCell_181 : decode cX10_readCell 181 = .ok (.iadd, 1) := by decide +kernel
theorem dX10_readCell_182 : decode cX10_readCell 182 = .ok (.iload_n 2, 1) := by decide +kernel
theorem dX10_readCell_183 : decode cX10_readCell 183 = .ok (.iadd, 1) := by decide +kernel
theorem dX10_readCell_184 : decode cX10_readCell 184 = .ok (.dup2, 1) := by decide +kernel
theorem dX10_readCell_185 : decode cX10_readCell 185 = .ok (.iaload, 1) := by decide +kernel
theorem dX10_readCell_186 : decode cX10_readCell 186 = .ok (.iconst 1, 1) := by decide +kernel
theorem dX10_readCell_187 : decode cX10_readCell 187 = .ok (.iadd, 1) := by decide +kernel
theorem dX10_readCell_188 : decode cX10_readCell 188 = .ok (.iastore, 1) := by decide +kernel
theorem dX10_readCell_189 : decode cX10_readCell 189 = .ok (.iconst 1, 1) := by decide +kernel
theorem dX10_readCell_190 : decode cX10_readCell 190 = .ok (.ireturn, 1) := by decide +kernel
set_option maxRecDepth 20000 in
theorem ggX10_readTable_X10_readCell : GoodIn wsX10_readTable wsX10_readCell := goodIn_r _ [8, 9, 10, 11, 7, 12, 13, 14, 15, 16, 17, 18, 19, 20, 21, 22, 23, 1, 2, 3, 24, 25, 26, 27, 32, 33, 34, 35, 36, 37, 38, 39, 40, 41, 42, 43, 44, 45, 46] (by decide +kernel) (by decide +kernel)
set_option maxRecDepth 20000 in
theorem gX10_readTable_X10_readCell : GoodIn wsX10_readTable (wsV RX10 114 RX10 yX10_readCell wsX10_readCell) := goodIn_app (goodIn_of _ (by decide +kernel)) ggX10_readTable_X10_readCell
set_option maxRecDepth 20000 in
theorem ggX10_readTable_X10_sign : GoodIn wsX10_readTable wsX10_sign := goodIn_r _ [31, 1, 2, 3, 32, 33, 34, 35, 36, 37, 38, 39, 40, 41, 42, 43, 44, 45, 46] (by decide +kernel) (by decide +kernel)
set_option maxRecDepth 20000 in
theorem gX10_readTable_X10_sign : GoodIn wsX10_readTable (wsV RX10 118 RX10 yX10_sign wsX10_sign) := goodIn_app (goodIn_of _ (by decide +kernel)) ggX10_readTable_X10_sign
theorem dX10_readTable_0 : decode cX10_readTable 0 = .ok (.iconst 0, 1) := by decide +kernel
theorem dX10_readTable_1 : decode cX10_readTable 1 = .ok (.istore_n 2, 1) := by decide +kernel
theorem dX10_readTable_2 : decode cX10_readTable 2 = .ok (.aload_n 0, 1) := by decide +kernel
theorem dX10_readTable_3 : decode cX10_readTable 3 = .ok (.getfield 105, 3) := by decide +kernel
theorem dX10_readTable_6 : decode cX10_readTable 6 = .ok (.aload_n 0, 1) := by decide +kernel
theorem dX10_readTable_7 : decode cX10_readTable 7 = .ok (.getfield 99, 3) := by decide +kernel
theorem dX10_readTable_10 : decode cX10_readTable 10 = .ok (.if_icmp .ge 21, 3) := by decide +kernel
theorem dX10_readTable_13 : decode cX10_readTable 13 = .ok (.aload_n 0, 1) := by decide +kernel
theorem dX10_readTable_14 : decode cX10_readTable 14 = .ok (.getfield 7, 3) := by decide +kernel
theorem dX10_readTable_17 : decode cX10_readTable 17 = .ok (.aload_n 0, 1) := by decide +kernel
theorem dX10_readTable_18 : decode cX10_readTable 18 = .ok (.getfield 105, 3) := by decide +kernel
theorem dX10_readTable_21 : decode cX10_readTable 21 = .ok (.iaload, 1) := by decide +kernel
theorem dX10_readTable_22 : decode cX10_readTable 22 = .ok (.bipush 59, 2) := by decide +kernel
theorem dX10_readTable_24 : decode cX10_readTable 24 = .ok (.if_icmp .eq 7, 3) := by decide +kernel
theorem dX10_readTable_27 : decode cX10_readTable 27 = .ok (.iconst 1, 1) := by decide +kernel
theorem dX10_readTable_28 : decode cX10_readTable 28 = .ok (.goto 4, 3) := by decide +kernel
theorem dX10_readTable_31 : decode cX10_readTable 31 = .ok (.iconst 0, 1) := by decide +kernel
theorem dX10_readTable_32 : decode cX10_readTable 32 = .ok (.istore_n 3, 1) := by decide +kernel
theorem dX10_readTable_33 : decode cX10_readTable 33 = .ok (.iload_n 3, 1) := by decide +kernel
theorem dX10_readTable_34 : decode cX10_readTable 34 = .ok (.ifCond .eq 90, 3) := by decide +kernel
theorem dX10_readTable_37 : decode cX10_readTable 37 = .ok (.aload_n 0, 1) := by decide +kernel
theorem dX10_readTable_38 : decode cX10_readTable 38 = .ok (.iload_n 1, 1) := by decide +kernel
theorem dX10_readTable_39 : decode cX10_readTable 39 = .ok (.iload_n 2, 1) := by decide +kernel
theorem dX10_readTable_40 : decode cX10_readTable 40 = .ok (.invokevirtual 114, 3) := by decide +kernel
theorem dX10_readTable_43 : decode cX10_readTable 43 = .ok (.ifCond .ne 5, 3) := by decide +kernel
theorem dX10_readTable_46 : decode cX10_readTable 46 = .ok (.iconst 0, 1) := by decide +kernel
theorem dX10_readTable_47 : decode cX10_readTable 47 = .ok (.ireturn, 1) := by decide +kernel
theorem dX10_readTable_48 : decode cX10_readTable 48 = .ok (.iload_n 2, 1) := by decide +kernel
theorem dX10_readTable_49 : decode cX10_readTable 49 = .ok (.iconst 1, 1) := by decide +kernel
theorem dX10_readTable_50 : decode cX10_readTable 50 = .ok (.iadd, 1) := by decide +kernel
theorem dX10_readTable_51 : decode cX10_readTable 51 = .ok (.bipush 6, 2) := by decide +kernel
theorem dX10_readTable_53 : decode cX10_readTable 53 = .ok (.if_icmp .ge 16, 3) := by decide +kernel
theorem dX10_readTable_56 : decode cX10_readTable 56 = .ok (.aload_n 0, 1) := by decide +kernel
theorem dX10_readTable_57 : decode cX10_readTable 57 = .ok (.bipush 47, 2) := by decide +kernel
theorem dX10_readTable_59 : decode cX10_readTable 59 = .ok (.invokevirtual 118, 3) := by decide +kernel
theorem dX10_readTable_62 : decode cX10_readTable 62 = .ok (.ifCond .eq 7, 3) := by decide +kernel
theorem dX10_readTable_65 : decode cX10_readTable 65 = .ok (.iconst 1, 1) := by decide +kernel
theorem dX10_readTable_66 : decode cX10_readTable 66 = .ok (.goto 4, 3) := by decide +kernel
theorem dX10_readTable_69 : decode cX10_readTable 69 = .ok (.iconst 0, 1) := by decide +kernel
theorem dX10_readTable_70 : decode cX10_readTable 70 = .ok (.istore 4, 2) := by decide +kernel
theorem dX10_readTable_72 : decode cX10_readTable 72 = .ok (.iload_n 2, 1) := by decide +kernel
theorem dX10_readTable_73 : decode cX10_readTable 73 = .ok (.iload 4, 2) := by decide +kernel
theorem dX10_readTable_75 : decode cX10_readTable 75 = .ok (.ifCond .eq 7, 3) := by decide +kernel
theorem dX10_readTable_78 : decode cX10_readTable 78 = .ok (.iconst 1, 1) := by decide +kernel
theorem dX10_readTable_79 : decode cX10_readTable 79 = .ok (.goto 4, 3) := by decide +kernel
theorem dX10_readTable_82 : decode cX10_readTable 82 = .ok (.iconst 0, 1) := by decide +kernel
theorem dX10_readTable_83 : decode cX10_readTable 83 = .ok (.iadd, 1) := by decide +kernel
theorem dX10_readTable_84 : decode cX10_readTable 84 = .ok (.istore_n 2, 1) := by decide +kernel
theorem dX10_readTable_85 : decode cX10_readTable 85 = .ok (.iload 4, 2) := by decide +kernel
theorem dX10_readTable_87 : decode cX10_readTable 87 = .ok (.ifCond .ne 28, 3) := by decide +kernel
theorem dX10_readTable_90 : decode cX10_readTable 90 = .ok (.aload_n 0, 1) := by decide +kernel
theorem dX10_readTable_91 : decode cX10_readTable 91 = .ok (.getfield 105, 3) := by decide +kernel
theorem dX10_readTable_94 : decode cX10_readTable 94 = .ok (.aload_n 0, 1) := by decide +kernel
theorem dX10_readTable_95 : decode cX10_readTable 95 = .ok (.getfield 99, 3) := by decide +kernel
theorem dX10_readTable_98 : decode cX10_readTable 98 = .ok (.if_icmp .ge 21, 3) := by decide +kernel
theorem dX10_readTable_101 : decode cX10_readTable 101 = .ok (.aload_n 0, 1) := by decide +kernel
theorem dX10_readTable_102 : decode cX10_readTable 102 = .ok (.getfield 7, 3) := by decide +kernel
theorem dX10_readTable_105 : decode cX10_readTable 105 = .ok (.aload_n 0, 1) := by decide +kernel
theorem dX10_readTable_106 : decode cX10_readTable 106 = .ok (.getfield 105, 3) := by decide +kernel
theorem dX10_readTable_109 : decode cX10_readTable 109 = .ok (.iaload, 1) := by decide +kernel
theorem dX10_readTable_110 : decode cX10_readTable 110 = .ok (.bipush 59, 2) := by decide +kernel
theorem dX10_readTable_112 : decode cX10_readTable 112 = .ok (.if_icmp .eq 7, 3) := by decide +kernel
theorem dX10_readTable_115 : decode cX10_readTable 115 = .ok (.iconst 1, 1) := by decide +kernel
theorem dX10_readTable_116 : decode cX10_readTable 116 = .ok (.goto 4, 3) := by decide +kernel
theorem dX10_readTable_119 : decode cX10_readTable 119 = .ok (.iconst 0, 1) := by decide +kernel
theorem dX10_readTable_120 : decode cX10_readTable 120 = .ok (.istore_n 3, 1) := by decide +kernel
theorem dX10_readTable_121 : decode cX10_readTable 121 = .ok (.goto (-88), 3) := by decide +kernel
theorem dX10_readTable_124 : decode cX10_readTable 124 = .ok (.iconst 1, 1) := by decide +kernel
theorem dX10_readTable_125 : decode cX10_readTable 125 = .ok (.ireturn, 1) := by decide +kernel
set_option maxRecDepth 20000 in
theorem ggX10_readText_X10_sign : GoodIn wsX10_readText wsX10_sign := goodIn_r _ [8, 2, 3, 9, 36, 37, 38, 39, 40, 41, 42, 43, 44, 45, 46, 47, 48, 49, 50] (by decide +kernel) (by decide +kernel)
set_option maxRecDepth 20000 in
theorem gX10_readText_X10_sign : GoodIn wsX10_readText (wsV RX10 118 RX10 yX10_sign wsX10_sign) := goodIn_app (goodIn_of _ (by decide +kernel)) ggX10_readText_X10_sign
set_option maxRecDepth 20000 in
theorem ggX10_readText_X10_readTable : GoodIn wsX10_readText wsX10_readTable := goodIn_r _ [13, 2, 3, 9, 14, 15, 16, 7, 17, 1, 18, 19, 20, 21, 22, 23, 24, 25, 26, 27, 28, 29, 30, 31, 32, 33, 34, 35, 4, 5, 6, 8, 36, 37, 38, 39, 40, 41, 42, 43, 44, 45, 46, 47, 48, 49, 50] (by decide +kernel) (by decide +kernel)
set_option maxRecDepth 20000 in
theorem gX10_readText_X10_readTable : GoodIn wsX10_readText (wsV RX10 121 RX10 yX10_readTable wsX10_readTable) := goodIn_app (goodIn_of _ (by decide +kernel)) ggX10_readText_X10_readTable
theorem dX10_readText_0 : decode cX10_readText 0 = .ok (.iconst 0, 1) := by decide +kernel
theorem dX10_readText_1 : decode cX10_readText 1 = .ok (.istore_n 1, 1) := by decide +kernel
theorem dX10_readText_2 : decode cX10_readText 2 = .ok (.iload_n 1, 1) := by decide +kernel
theorem dX10_readText_3 : decode cX10_readText 3 = .ok (.bipush 84, 2) := by decide +kernel
theorem dX10_readText_5 : decode cX10_readText 5 = .ok (.if_icmp .ge 16, 3) := by decide +kernel
theorem dX10_readText_8 : decode cX10_readText 8 = .ok (.aload_n 0, 1) := by decide +kernel
theorem dX10_readText_9 : decode cX10_readText 9 = .ok (.getfield 13, 3) := by decide +kernel
theorem dX10_readText_12 : decode cX10_readText 12 = .ok (.iload_n 1, 1) := by decide +kernel
theorem dX10_readText_13 : decode cX10_readText 13 = .ok (.iconst 0, 1) := by decide +kernel
theorem dX10_readText_14 : decode cX10_readText 14 = .ok (.iastore, 1) := by decide +kernel
theorem dX10_readText_15 : decode cX10_readText 15 = .ok (.iinc 1 1, 3) := by decide +kernel
theorem dX10_readText_18 : decode cX10_readText 18 = .ok (.goto (-16), 3) := by decide +kernel
theorem dX10_readText_21 : decode cX10_readText 21 = .ok (.aload_n 0, 1) := by decide +kernel
theorem dX10_readText_22 : decode cX10_readText 22 = .ok (.iconst 0, 1) := by decide +kernel
theorem dX10_readText_23 : decode cX10_readText 23 = .ok (.putfield 105, 3) := by decide +kernel
theorem dX10_readText_26 : decode cX10_readText 26 = .ok (.aload_n 0, 1) := by decide +kernel
theorem dX10_readText_27 : decode cX10_readText 27 = .ok (.bipush 84, 2) := by decide +kernel
theorem dX10_readText_29 : decode cX10_readText 29 = .ok (.invokevirtual 118, 3) := by decide +kernel
theorem dX10_readText_32 : decode cX10_readText 32 = .ok (.ifCond .ne 8, 3) := by decide +kernel
theorem dX10_readText_35 : decode cX10_readText 35 = .ok (.aload_n 0, 1) := by decide +kernel
theorem dX10_readText_36 : decode cX10_readText 36 = .ok (.getfield 105, 3) := by decide +kernel
theorem dX10_readText_39 : decode cX10_readText 39 = .ok (.ireturn, 1) := by decide +kernel
theorem dX10_readText_40 : decode cX10_readText 40 = .ok (.aload_n 0, 1) := by decide +kernel
theorem dX10_readText_41 : decode cX10_readText 41 = .ok (.iconst 0, 1) := by decide +kernel
theorem dX10_readText_42 : decode cX10_readText 42 = .ok (.invokevirtual 121, 3) := by decide +kernel
theorem dX10_readText_45 : decode cX10_readText 45 = .ok (.ifCond .eq 12, 3) := by decide +kernel
theorem dX10_readText_48 : decode cX10_readText 48 = .ok (.aload_n 0, 1) := by decide +kernel
theorem dX10_readText_49 : decode cX10_readText 49 = .ok (.bipush 59, 2) := by decide +kernel
theorem dX10_readText_51 : decode cX10_readText 51 = .ok (.invokevirtual 118, 3) := by decide +kernel
theorem dX10_readText_54 : decode cX10_readText 54 = .ok (.ifCond .ne 8, 3) := by decide +kernel
theorem dX10_readText_57 : decode cX10_readText 57 = .ok (.aload_n 0, 1) := by decide +kernel
theorem dX10_readText_58 : decode cX10_readText 58 = .ok (.getfield 105, 3) := by decide +kernel
theorem dX10_readText_61 : decode cX10_readText 61 = .ok (.ireturn, 1) := by decide +kernel
theorem dX10_readText_62 : decode cX10_readText 62 = .ok (.aload_n 0, 1) := by decide +kernel
theorem dX10_readText_63 : decode cX10_readText 63 = .ok (.iconst 1, 1) := by decide +kernel
theorem dX10_readText_64 : decode cX10_readText 64 = .ok (.invokevirtual 121, 3) := by decide +kernel
theorem dX10_readText_67 : decode cX10_readText 67 = .ok (.ifCond .eq 19, 3) := by decide +kernel
theorem dX10_readText_70 : decode cX10_readText 70 = .ok (.aload_n 0, 1) := by decide +kernel
theorem dX10_readText_71 : decode cX10_readText 71 = .ok (.getfield 105, 3) := by decide +kernel
theorem dX10_readText_74 : decode cX10_readText 74 = .ok (.aload_n 0, 1) := by decide +kernel
theorem dX10_readText_75 : decode cX10_readText 75 = .ok (.getfield 99, 3) := by decide +kernel
theorem dX10_readText_78 : decode cX10_readText 78 = .ok (.if_icmp .ne 8, 3) := by decide +kernel
theorem dX10_readText_81 : decode cX10_readText 81 = .ok (.bipush (-9), 2) := by decide +kernel
theorem dX10_readText_83 : decode cX10_readText 83 = .ok (.goto 7, 3) := by decide +kernel
theorem dX10_readText_86 : decode cX10_readText 86 = .ok (.aload_n 0, 1) := by decide +kernel
theorem dX10_readText_87 : decode cX10_readText 87 = .ok (.getfield 105, 3) := by decide +kernel
theorem dX10_readText_90 : decode cX10_readText 90 = .ok (.ireturn, 1) := by decide +kernel
set_option maxRecDepth 20000 in
theorem ggX10_errorPosition_X10_readText : GoodIn wsX10_errorPosition wsX10_readText := goodIn_r _ [6, 7, 8, 9, 10, 11, 12, 5, 13, 14, 15, 16, 17, 18, 19, 20, 21, 22, 23, 24, 25, 26, 27, 28, 29, 30, 31, 32, 33, 34, 35, 36, 37, 38, 39, 40, 41, 42, 43, 44, 45, 46, 47, 48, 49, 50, 51, 52, 53, 54, 55] (by decide +kernel) (by decide +kernel)
set_option maxRecDepth 20000 in
theorem gX10_errorPosition_X10_readText : GoodIn wsX10_errorPosition (wsV RX10 124 RX10 yX10_readText wsX10_readText) := goodIn_app (goodIn_of _ (by decide +kernel)) ggX10_errorPosition_X10_readText
theorem dX10_errorPosition_0 : decode cX10_errorPosition 0 = .ok (.aload_n 0, 1) := by decide +kernel
theorem dX10_errorPosition_1 : decode cX10_errorPosition 1 = .ok (.iconst 0, 1) := by decide +kernel
theorem dX10_errorPosition_2 : decode cX10_errorPosition 2 = .ok (.putfield 41, 3) := by decide +kernel
theorem dX10_errorPosition_5 : decode cX10_errorPosition 5 = .ok (.aload_n 0, 1) := by decide +kernel
theorem dX10_errorPosition_6 : decode cX10_errorPosition 6 = .ok (.invokevirtual 124, 3) := by decide +kernel
theorem dX10_errorPosition_9 : decode cX10_errorPosition 9 = .ok (.ireturn, 1) := by decide +kernel
set_option maxRecDepth 20000 in
theorem ggX10_both_X10_many : GoodIn wsX10_both wsX10_many := goodIn_r _ [4, 5, 6, 3, 7, 8, 9, 10, 11] (by decide +kernel) (by decide +kernel)
set_option maxRecDepth 20000 in
theorem gX10_both_X10_many : GoodIn wsX10_both (va_wsS RX10 128 yX10_many wsX10_many) := goodIn_app (goodIn_of _ (by decide +kernel)) ggX10_both_X10_many
theorem dX10_both_0 : decode cX10_both 0 = .ok (.aload_n 0, 1) := by decide +kernel
theorem dX10_both_1 : decode cX10_both 1 = .ok (.iconst 0, 1) := by decide +kernel
theorem dX10_both_2 : decode cX10_both 2 = .ok (.invokestatic 128, 3) := by decide +kernel
theorem dX10_both_5 : decode cX10_both 5 = .ok (.aload_n 0, 1) := by decide +kernel
theorem dX10_both_6 : decode cX10_both 6 = .ok (.iconst 1, 1) := by decide +kernel
theorem dX10_both_7 : decode cX10_both 7 = .ok (.invokestatic 128, 3) := by decide +kernel
theorem dX10_both_10 : decode cX10_both 10 = .ok (.iadd, 1) := by decide +kernel
theorem dX10_both_11 : decode cX10_both 11 = .ok (.ireturn, 1) := by decide +kernel
set_option maxRecDepth 20000 in
theorem ggX10_load_X10_readText : GoodIn wsX10_load wsX10_readText := goodIn_r _ [9, 1, 10, 11, 12, 13, 14, 8, 15, 16, 17, 18, 19, 20, 21, 22, 23, 24, 25, 26, 27, 28, 29, 30, 31, 32, 33, 34, 35, 36, 37, 38, 39, 40, 41, 42, 57, 58, 59, 60, 61, 62, 63, 64, 65, 66, 67, 68, 69, 70, 71] (by decide +kernel) (by decide +kernel)
set_option maxRecDepth 20000 in
theorem gX10_load_X10_readText : GoodIn wsX10_load (wsV RX10 124 RX10 yX10_readText wsX10_readText) := goodIn_app (goodIn_of _ (by decide +kernel)) ggX10_load_X10_readText
set_option maxRecDepth 20000 in
theorem ggX10_load_X10_refused : GoodIn wsX10_load wsX10_refused := goodIn_r _ [46, 47, 57, 58, 59, 60, 61, 62, 63, 64, 65, 66, 67, 68, 69, 70, 71] (by decide +kernel) (by decide +kernel)
set_option maxRecDepth 20000 in
theorem gX10_load_X10_refused : GoodIn wsX10_load (wsV RX10 102 RX10 yX10_refused wsX10_refused) := goodIn_app (goodIn_of _ (by decide +kernel)) ggX10_load_X10_refused
set_option maxRecDepth 20000 in
theorem ggX10_load_X10_copy : GoodIn wsX10_load wsX10_copy := goodIn_r _ [50] (by decide +kernel) (by decide +kernel)
set_option maxRecDepth 20000 in
theorem gX10_load_X10_copy : GoodIn wsX10_load (va_wsS RX10 50 yX10_copy wsX10_copy) := goodIn_app (goodIn_of _ (by decide +kernel)) ggX10_load_X10_copy
set_option maxRecDepth 20000 in
theorem ggX10_load_X10_both : GoodIn wsX10_load wsX10_both := goodIn_r _ [53, 54, 55, 8, 56, 25, 26, 27, 28, 29, 30, 31] (by decide +kernel) (by decide +kernel)
set_option maxRecDepth 20000 in
theorem gX10_load_X10_both : GoodIn wsX10_load (va_wsS RX10 131 yX10_both wsX10_both) := goodIn_app (goodIn_of _ (by decide +kernel)) ggX10_load_X10_both
theorem dX10_load_0 : decode cX10_load 0 = .ok (.aload_n 0, 1) := by decide +kernel
theorem dX10_load_1 : decode cX10_load 1 = .ok (.aload_n 0, 1) := by decide +kernel
theorem dX10_load_2 : decode cX10_load 2 = .ok (.invokevirtual 124, 3) := by decide +kernel
theorem dX10_load_5 : decode cX10_load 5 = .ok (.bipush (-9), 2) := by decide +kernel
theorem dX10_load_7 : decode cX10_load 7 = .ok (.if_icmp .ne 7, 3) := by decide +kernel
theorem dX10_load_10 : decode cX10_load 10 = .ok (.iconst 0, 1) := by decide +kernel
theorem dX10_load_11 : decode cX10_load 11 = .ok (.goto 4, 3) := by decide +kernel
theorem dX10_load_14 : decode cX10_load 14 = .ok (.iconst 1, 1) := by decide +kernel
theorem dX10_load_15 : decode cX10_load 15 = .ok (.invokevirtual 102, 3) := by decide +kernel
theorem dX10_load_18 : decode cX10_load 18 = .ok (.ifCond .eq 5, 3) := by decide +kernel
theorem dX10_load_21 : decode cX10_load 21 = .ok (.iconst 0, 1) := by decide +kernel
theorem dX10_load_22 : decode cX10_load 22 = .ok (.ireturn, 1) := by decide +kernel
theorem dX10_load_23 : decode cX10_load 23 = .ok (.aload_n 0, 1) := by decide +kernel
theorem dX10_load_24 : decode cX10_load 24 = .ok (.getfield 13, 3) := by decide +kernel
theorem dX10_load_27 : decode cX10_load 27 = .ok (.iconst 0, 1) := by decide +kernel
theorem dX10_load_28 : decode cX10_load 28 = .ok (.aload_n 0, 1) := by decide +kernel
theorem dX10_load_29 : decode cX10_load 29 = .ok (.getfield 16, 3) := by decide +kernel
theorem dX10_load_32 : decode cX10_load 32 = .ok (.iconst 0, 1) := by decide +kernel
theorem dX10_load_33 : decode cX10_load 33 = .ok (.bipush 84, 2) := by decide +kernel
theorem dX10_load_35 : decode cX10_load 35 = .ok (.invokestatic 50, 3) := by decide +kernel
theorem dX10_load_38 : decode cX10_load 38 = .ok (.aload_n 0, 1) := by decide +kernel
theorem dX10_load_39 : decode cX10_load 39 = .ok (.iconst 0, 1) := by decide +kernel
theorem dX10_load_40 : decode cX10_load 40 = .ok (.putfield 47, 3) := by decide +kernel
theorem dX10_load_43 : decode cX10_load 43 = .ok (.aload_n 0, 1) := by decide +kernel
theorem dX10_load_44 : decode cX10_load 44 = .ok (.getfield 28, 3) := by decide +kernel
theorem dX10_load_47 : decode cX10_load 47 = .ok (.iconst 0, 1) := by decide +kernel
theorem dX10_load_48 : decode cX10_load 48 = .ok (.iconst 0, 1) := by decide +kernel
theorem dX10_load_49 : decode cX10_load 49 = .ok (.bastore, 1) := by decide +kernel
theorem dX10_load_50 : decode cX10_load 50 = .ok (.aload_n 0, 1) := by decide +kernel
theorem dX10_load_51 : decode cX10_load 51 = .ok (.getfield 28, 3) := by decide +kernel
theorem dX10_load_54 : decode cX10_load 54 = .ok (.iconst 1, 1) := by decide +kernel
theorem dX10_load_55 : decode cX10_load 55 = .ok (.iconst 0, 1) := by decide +kernel
theorem dX10_load_56 : decode cX10_load 56 = .ok (.bastore, 1) := by decide +kernel
theorem dX10_load_57 : decode cX10_load 57 = .ok (.aload_n 0, 1) := by decide +kernel
theorem dX10_load_58 : decode cX10_load 58 = .ok (.getfield 16, 3) := by decide +kernel
theorem dX10_load_61 : decode cX10_load 61 = .ok (.invokestatic 131, 3) := by decide +kernel
theorem dX10_load_64 : decode cX10_load 64 = .ok (.ireturn, 1) := by decide +kernel
set_option maxRecDepth 20000 in
theorem ggX10_extreme_X10_length : GoodIn wsX10_extreme wsX10_length := goodIn_r _ [4, 5, 6, 7, 3, 8] (by decide +kernel) (by decide +kernel)
set_option maxRecDepth 20000 in
theorem gX10_extreme_X10_length : GoodIn wsX10_extreme (va_wsS RX10 60 yX10_length wsX10_length) := goodIn_app (goodIn_of _ (by decide +kernel)) ggX10_extreme_X10_length
set_option maxRecDepth 20000 in
theorem ggX10_extreme_X10_get : GoodIn wsX10_extreme wsX10_get := goodIn_r _ [11] (by decide +kernel) (by decide +kernel)
set_option maxRecDepth 20000 in
theorem gX10_extreme_X10_get : GoodIn wsX10_extreme (va_wsS RX10 76 yX10_get wsX10_get) := goodIn_app (goodIn_of _ (by decide +kernel)) ggX10_extreme_X10_get
theorem dX10_extreme_0 : decode cX10_extreme 0 = .ok (.bipush (-9), 2) := by decide +kernel
theorem dX10_extreme_2 : decode cX10_extreme 2 = .ok (.istore_n 3, 1) := by decide +kernel
theorem dX10_extreme_3 : decode cX10_extreme 3 = .ok (.iconst 0, 1) := by decide +kernel
theorem dX10_extreme_4 : decode cX10_extreme 4 = .ok (.istore 4, 2) := by decide +kernel
theorem dX10_extreme_6 : decode cX10_extreme 6 = .ok (.iload 4, 2) := by decide +kernel
theorem dX10_extreme_8 : decode cX10_extreme 8 = .ok (.bipush 6, 2) := by decide +kernel
theorem dX10_extreme_10 : decode cX10_extreme 10 = .ok (.if_icmp .ge 73, 3) := by decide +kernel
theorem dX10_extreme_13 : decode cX10_extreme 13 = .ok (.iconst 0, 1) := by decide +kernel
theorem dX10_extreme_14 : decode cX10_extreme 14 = .ok (.istore 5, 2) := by decide +kernel
theorem dX10_extreme_16 : decode cX10_extreme 16 = .ok (.iload 5, 2) := by decide +kernel
theorem dX10_extreme_18 : decode cX10_extreme 18 = .ok (.aload_n 0, 1) := by decide +kernel
theorem dX10_extreme_19 : decode cX10_extreme 19 = .ok (.iload_n 1, 1) := by decide +kernel
theorem dX10_extreme_20 : decode cX10_extreme 20 = .ok (.iload 4, 2) := by decide +kernel
theorem dX10_extreme_22 : decode cX10_extreme 22 = .ok (.invokestatic 60, 3) := by decide +kernel
theorem dX10_extreme_25 : decode cX10_extreme 25 = .ok (.if_icmp .ge 52, 3) := by decide +kernel
theorem dX10_extreme_28 : decode cX10_extreme 28 = .ok (.aload_n 0, 1) := by decide +kernel
theorem dX10_extreme_29 : decode cX10_extreme 29 = .ok (.iload_n 1, 1) := by decide +kernel
theorem dX10_extreme_30 : decode cX10_extreme 30 = .ok (.iload 4, 2) := by decide +kernel
theorem dX10_extreme_32 : decode cX10_extreme 32 = .ok (.iload 5, 2) := by decide +kernel
theorem dX10_extreme_34 : decode cX10_extreme 34 = .ok (.invokestatic 76, 3) := by decide +kernel
theorem dX10_extreme_37 : decode cX10_extreme 37 = .ok (.istore 6, 2) := by decide +kernel
theorem dX10_extreme_39 : decode cX10_extreme 39 = .ok (.iload_n 3, 1) := by decide +kernel
theorem dX10_extreme_40 : decode cX10_extreme 40 = .ok (.bipush (-9), 2) := by decide +kernel
theorem dX10_extreme_42 : decode cX10_extreme 42 = .ok (.if_icmp .eq 22, 3) := by decide +kernel
theorem dX10_extreme_45 : decode cX10_extreme 45 = .ok (.iload_n 2, 1) := by decide +kernel
theorem dX10_extreme_46 : decode cX10_extreme 46 = .ok (.ifCond .eq 12, 3) := by decide +kernel
theorem dX10_extreme_49 : decode cX10_extreme 49 = .ok (.iload 6, 2) := by decide +kernel
theorem dX10_extreme_51 : decode cX10_extreme 51 = .ok (.iload_n 3, 1) := by decide +kernel
theorem dX10_extreme_52 : decode cX10_extreme 52 = .ok (.if_icmp .le 17, 3) := by decide +kernel
theorem dX10_extreme_55 : decode cX10_extreme 55 = .ok (.goto 9, 3) := by decide +kernel
theorem dX10_extreme_58 : decode cX10_extreme 58 = .ok (.iload 6, 2) := by decide +kernel
theorem dX10_extreme_60 : decode cX10_extreme 60 = .ok (.iload_n 3, 1) := by decide +kernel
theorem dX10_extreme_61 : decode cX10_extreme 61 = .ok (.if_icmp .ge 8, 3) := by decide +kernel
theorem dX10_extreme_64 : decode cX10_extreme 64 = .ok (.iload 6, 2) := by decide +kernel
theorem dX10_extreme_66 : decode cX10_extreme 66 = .ok (.goto 4, 3) := by decide +kernel
theorem dX10_extreme_69 : decode cX10_extreme 69 = .ok (.iload_n 3, 1) := by decide +kernel
theorem dX10_extreme_70 : decode cX10_extreme 70 = .ok (.istore_n 3, 1) := by decide +kernel
theorem dX10_extreme_71 : decode cX10_extreme 71 = .ok (.iinc 5 1, 3) := by decide +kernel
theorem dX10_extreme_74 : decode cX10_extreme 74 = .ok (.goto (-58), 3) := by decide +kernel
theorem dX10_extreme_77 : decode cX10_extreme 77 = .ok (.iinc 4 1, 3) := by decide +kernel
theorem dX10_extreme_80 : decode cX10_extreme 80 = .ok (.goto (-74), 3) := by decide +kernel
theorem dX10_extreme_83 : decode cX10_extreme 83 = .ok (.iload_n 3, 1) := by decide +kernel
theorem dX10_extreme_84 : decode cX10_extreme 84 = .ok (.ireturn, 1) := by decide +kernel
set_option maxRecDepth 20000 in
theorem ggX10_sumOf_X10_length : GoodIn wsX10_sumOf wsX10_length := goodIn_r _ [4, 5, 6, 7, 3, 8] (by decide +kernel) (by decide +kernel)
set_option maxRecDepth 20000 in
theorem gX10_sumOf_X10_length : GoodIn wsX10_sumOf (va_wsS RX10 60 yX10_length wsX10_length) := goodIn_app (goodIn_of _ (by decide +kernel)) ggX10_sumOf_X10_length
set_option maxRecDepth 20000 in
theorem ggX10_sumOf_X10_get : GoodIn wsX10_sumOf wsX10_get := goodIn_r _ [11] (by decide +kernel) (by decide +kernel)
set_option maxRecDepth 20000 in
theorem gX10_sumOf_X10_get : GoodIn wsX10_sumOf (va_wsS RX10 76 yX10_get wsX10_get) := goodIn_app (goodIn_of _ (by decide +kernel)) ggX10_sumOf_X10_get
theorem dX10_sumOf_0 : decode cX10_sumOf 0 = .ok (.iconst 0, 1) := by decide +kernel
theorem dX10_sumOf_1 : decode cX10_sumOf 1 = .ok (.istore_n 2, 1) := by decide +kernel
theorem dX10_sumOf_2 : decode cX10_sumOf 2 = .ok (.iconst 0, 1) := by decide +kernel
theorem dX10_sumOf_3 : decode cX10_sumOf 3 = .ok (.istore_n 3, 1) := by decide +kernel
theorem dX10_sumOf_4 : decode cX10_sumOf 4 = .ok (.iload_n 3, 1) := by decide +kernel
theorem dX10_sumOf_5 : decode cX10_sumOf 5 = .ok (.bipush 6, 2) := by decide +kernel
theorem dX10_sumOf_7 : decode cX10_sumOf 7 = .ok (.if_icmp .ge 40, 3) := by decide +kernel
theorem dX10_sumOf_10 : decode cX10_sumOf 10 = .ok (.iconst 0, 1) := by decide +kernel
theorem dX10_sumOf_11 : decode cX10_sumOf 11 = .ok (.istore 4, 2) := by decide +kernel
theorem dX10_sumOf_13 : decode cX10_sumOf 13 = .ok (.iload 4, 2) := by decide +kernel
theorem dX10_sumOf_15 : decode cX10_sumOf 15 = .ok (.aload_n 0, 1) := by decide +kernel
theorem dX10_sumOf_16 : decode cX10_sumOf 16 = .ok (.iload_n 1, 1) := by decide +kernel
theorem dX10_sumOf_17 : decode cX10_sumOf 17 = .ok (.iload_n 3, 1) := by decide +kernel
theorem dX10_sumOf_18 : decode cX10_sumOf 18 = .ok (.invokestatic 60, 3) := by decide +kernel
theorem dX10_sumOf_21 : decode cX10_sumOf 21 = .ok (.if_icmp .ge 20, 3) := by decide +kernel
theorem dX10_sumOf_24 : decode cX10_sumOf 24 = .ok (.iload_n 2, 1) := by decide +kernel
theorem dX10_sumOf_25 : decode cX10_sumOf 25 = .ok (.aload_n 0, 1) := by decide +kernel
theorem dX10_sumOf_26 : decode cX10_sumOf 26 = .ok (.iload_n 1, 1) := by decide +kernel
theorem dX10_sumOf_27 : decode cX10_sumOf 27 = .ok (.iload_n 3, 1) := by decide +kernel
theorem dX10_sumOf_28 : decode cX10_sumOf 28 = .ok (.iload 4, 2) := by decide +kernel
theorem dX10_sumOf_30 : decode cX10_sumOf 30 = .ok (.invokestatic 76, 3) := by decide +kernel
theorem dX10_sumOf_33 : decode cX10_sumOf 33 = .ok (.iadd, 1) := by decide +kernel
theorem dX10_sumOf_34 : decode cX10_sumOf 34 = .ok (.istore_n 2, 1) := by decide +kernel
theorem dX10_sumOf_35 : decode cX10_sumOf 35 = .ok (.iinc 4 1, 3) := by decide +kernel
theorem dX10_sumOf_38 : decode cX10_sumOf 38 = .ok (.goto (-25), 3) := by decide +kernel
theorem dX10_sumOf_41 : decode cX10_sumOf 41 = .ok (.iinc 3 1, 3) := by decide +kernel
theorem dX10_sumOf_44 : decode cX10_sumOf 44 = .ok (.goto (-40), 3) := by decide +kernel
theorem dX10_sumOf_47 : decode cX10_sumOf 47 = .ok (.iload_n 2, 1) := by decide +kernel
theorem dX10_sumOf_48 : decode cX10_sumOf 48 = .ok (.ireturn, 1) := by decide +kernel
set_option maxRecDepth 20000 in
theorem ggX10_about_X10_isTable : GoodIn wsX10_about wsX10_isTable := goodIn_r _ [6, 7, 8, 5, 9] (by decide +kernel) (by decide +kernel)
set_option maxRecDepth 20000 in
theorem gX10_about_X10_isTable : GoodIn wsX10_about (va_wsS RX10 64 yX10_isTable wsX10_isTable) := goodIn_app (goodIn_of _ (by decide +kernel)) ggX10_about_X10_isTable
set_option maxRecDepth 20000 in
theorem ggX10_about_X10_in : GoodIn wsX10_about wsX10_in := goodIn_r _ [9] (by decide +kernel) (by decide +kernel)
set_option maxRecDepth 20000 in
theorem gX10_about_X10_in : GoodIn wsX10_about (va_wsS RX10 54 yX10_in wsX10_in) := goodIn_app (goodIn_of _ (by decide +kernel)) ggX10_about_X10_in
set_option maxRecDepth 20000 in
theorem ggX10_about_X10_refused : GoodIn wsX10_about wsX10_refused := goodIn_r _ [13, 14, 40, 41, 42, 43, 44, 45, 46, 47, 48, 49, 50, 51, 52, 53, 54] (by decide +kernel) (by decide +kernel)
set_option maxRecDepth 20000 in
theorem gX10_about_X10_refused : GoodIn wsX10_about (wsV RX10 102 RX10 yX10_refused wsX10_refused) := goodIn_app (goodIn_of _ (by decide +kernel)) ggX10_about_X10_refused
set_option maxRecDepth 20000 in
theorem ggX10_about_X10_isCorner : GoodIn wsX10_about wsX10_isCorner := goodIn_r _ [17, 18, 19, 5, 20, 21, 7, 8, 9] (by decide +kernel) (by decide +kernel)
set_option maxRecDepth 20000 in
theorem gX10_about_X10_isCorner : GoodIn wsX10_about (va_wsS RX10 137 yX10_isCorner wsX10_isCorner) := goodIn_app (goodIn_of _ (by decide +kernel)) ggX10_about_X10_isCorner
set_option maxRecDepth 20000 in
theorem ggX10_about_X10_isGap : GoodIn wsX10_about wsX10_isGap := goodIn_r _ [24, 18, 19, 5, 20, 21, 7, 8, 9] (by decide +kernel) (by decide +kernel)
set_option maxRecDepth 20000 in
theorem gX10_about_X10_isGap : GoodIn wsX10_about (va_wsS RX10 72 yX10_isGap wsX10_isGap) := goodIn_app (goodIn_of _ (by decide +kernel)) ggX10_about_X10_isGap
set_option maxRecDepth 20000 in
theorem ggX10_about_X10_rows : GoodIn wsX10_about wsX10_rows := goodIn_r _ [27, 18, 19, 5, 20, 21, 7, 8, 9] (by decide +kernel) (by decide +kernel)
set_option maxRecDepth 20000 in
theorem gX10_about_X10_rows : GoodIn wsX10_about (va_wsS RX10 140 yX10_rows wsX10_rows) := goodIn_app (goodIn_of _ (by decide +kernel)) ggX10_about_X10_rows
set_option maxRecDepth 20000 in
theorem ggX10_about_X10_length : GoodIn wsX10_about wsX10_length := goodIn_r _ [20, 21, 7, 8, 5, 9] (by decide +kernel) (by decide +kernel)
set_option maxRecDepth 20000 in
theorem gX10_about_X10_length : GoodIn wsX10_about (va_wsS RX10 60 yX10_length wsX10_length) := goodIn_app (goodIn_of _ (by decide +kernel)) ggX10_about_X10_length
set_option maxRecDepth 20000 in
theorem ggX10_about_X10_many : GoodIn wsX10_about wsX10_many := goodIn_r _ [30, 18, 19, 5, 20, 21, 7, 8, 9] (by decide +kernel) (by decide +kernel)
set_option maxRecDepth 20000 in
theorem gX10_about_X10_many : GoodIn wsX10_about (va_wsS RX10 128 yX10_many wsX10_many) := goodIn_app (goodIn_of _ (by decide +kernel)) ggX10_about_X10_many
set_option maxRecDepth 20000 in
theorem ggX10_about_X10_extreme : GoodIn wsX10_about wsX10_extreme := goodIn_r _ [33, 18, 19, 5, 20, 21, 7, 8, 9, 34, 35, 36] (by decide +kernel) (by decide +kernel)
set_option maxRecDepth 20000 in
theorem gX10_about_X10_extreme : GoodIn wsX10_about (va_wsS RX10 143 yX10_extreme wsX10_extreme) := goodIn_app (goodIn_of _ (by decide +kernel)) ggX10_about_X10_extreme
set_option maxRecDepth 20000 in
theorem ggX10_about_X10_sumOf : GoodIn wsX10_about wsX10_sumOf := goodIn_r _ [39, 18, 19, 5, 20, 21, 7, 8, 9, 34, 35, 36] (by decide +kernel) (by decide +kernel)
set_option maxRecDepth 20000 in
theorem gX10_about_X10_sumOf : GoodIn wsX10_about (va_wsS RX10 147 yX10_sumOf wsX10_sumOf) := goodIn_app (goodIn_of _ (by decide +kernel)) ggX10_about_X10_sumOf
theorem dX10_about_0 : decode cX10_about 0 = .ok (.aload_n 0, 1) := by decide +kernel
theorem dX10_about_1 : decode cX10_about 1 = .ok (.iload_n 1, 1) := by decide +kernel
theorem dX10_about_2 : decode cX10_about 2 = .ok (.invokestatic 64, 3) := by decide +kernel
theorem dX10_about_5 : decode cX10_about 5 = .ok (.ifCond .ne 7, 3) := by decide +kernel
theorem dX10_about_8 : decode cX10_about 8 = .ok (.iconst 1, 1) := by decide +kernel
theorem dX10_about_9 : decode cX10_about 9 = .ok (.goto 20, 3) := by decide +kernel
theorem dX10_about_12 : decode cX10_about 12 = .ok (.iload_n 2, 1) := by decide +kernel
theorem dX10_about_13 : decode cX10_about 13 = .ok (.i2l, 1) := by decide +kernel
theorem dX10_about_14 : decode cX10_about 14 = .ok (.lconst 0, 1) := by decide +kernel
theorem dX10_about_15 : decode cX10_about 15 = .ok (.ldc2_w 135, 3) := by decide +kernel
theorem dX10_about_18 : decode cX10_about 18 = .ok (.invokestatic 54, 3) := by decide +kernel
theorem dX10_about_21 : decode cX10_about 21 = .ok (.ifCond .ne 7, 3) := by decide +kernel
theorem dX10_about_24 : decode cX10_about 24 = .ok (.iconst 2, 1) := by decide +kernel
theorem dX10_about_25 : decode cX10_about 25 = .ok (.goto 4, 3) := by decide +kernel
theorem dX10_about_28 : decode cX10_about 28 = .ok (.iconst 0, 1) := by decide +kernel
theorem dX10_about_29 : decode cX10_about 29 = .ok (.invokevirtual 102, 3) := by decide +kernel
theorem dX10_about_32 : decode cX10_about 32 = .ok (.ifCond .eq 5, 3) := by decide +kernel
theorem dX10_about_35 : decode cX10_about 35 = .ok (.iconst 0, 1) := by decide +kernel
theorem dX10_about_36 : decode cX10_about 36 = .ok (.ireturn, 1) := by decide +kernel
theorem dX10_about_37 : decode cX10_about 37 = .ok (.iconst 0, 1) := by decide +kernel
theorem dX10_about_38 : decode cX10_about 38 = .ok (.istore_n 3, 1) := by decide +kernel
theorem dX10_about_39 : decode cX10_about 39 = .ok (.iconst 0, 1) := by decide +kernel
theorem dX10_about_40 : decode cX10_about 40 = .ok (.istore 4, 2) := by decide +kernel
theorem dX10_about_42 : decode cX10_about 42 = .ok (.iconst 0, 1) := by decide +kernel
theorem dX10_about_43 : decode cX10_about 43 = .ok (.istore 5, 2) := by decide +kernel
theorem dX10_about_45 : decode cX10_about 45 = .ok (.iload 5, 2) := by decide +kernel
theorem dX10_about_47 : decode cX10_about 47 = .ok (.bipush 6, 2) := by decide +kernel
theorem dX10_about_49 : decode cX10_about 49 = .ok (.if_icmp .ge 53, 3) := by decide +kernel
theorem dX10_about_52 : decode cX10_about 52 = .ok (.iload_n 3, 1) := by decide +kernel
theorem dX10_about_53 : decode cX10_about 53 = .ok (.aload_n 0, 1) := by decide +kernel
theorem dX10_about_54 : decode cX10_about 54 = .ok (.getfield 16, 3) := by decide +kernel
theorem dX10_about_57 : decode cX10_about 57 = .ok (.iload_n 1, 1) := by decide +kernel
theorem dX10_about_58 : decode cX10_about 58 = .ok (.iload 5, 2) := by decide +kernel
theorem dX10_about_60 : decode cX10_about 60 = .ok (.invokestatic 137, 3) := by decide +kernel
theorem dX10_about_63 : decode cX10_about 63 = .ok (.ifCond .eq 7, 3) := by decide +kernel
theorem dX10_about_66 : decode cX10_about 66 = .ok (.iconst 1, 1) := by decide +kernel
theorem dX10_about_67 : decode cX10_about 67 = .ok (.goto 4, 3) := by decide +kernel
theorem dX10_about_70 : decode cX10_about 70 = .ok (.iconst 0, 1) := by decide +kernel
theorem dX10_about_71 : decode cX10_about 71 = .ok (.iadd, 1) := by decide +kernel
theorem dX10_about_72 : decode cX10_about 72 = .ok (.istore_n 3, 1) := by decide +kernel
theorem dX10_about_73 : decode cX10_about 73 = .ok (.iload 4, 2) := by decide +kernel
theorem dX10_about_75 : decode cX10_about 75 = .ok (.aload_n 0, 1) := by decide +kernel
theorem dX10_about_76 : decode cX10_about 76 = .ok (.getfield 16, 3) := by decide +kernel
theorem dX10_about_79 : decode cX10_about 79 = .ok (.iload_n 1, 1) := by decide +kernel
theorem dX10_about_80 : decode cX10_about 80 = .ok (.iload 5, 2) := by decide +kernel
theorem dX10_about_82 : decode cX10_about 82 = .ok (.invokestatic 72, 3) := by decide +kernel
theorem dX10_about_85 : decode cX10_about 85 = .ok (.ifCond .eq 7, 3) := by decide +kernel
theorem dX10_about_88 : decode cX10_about 88 = .ok (.iconst 1, 1) := by decide +kernel
theorem dX10_about_89 : decode cX10_about 89 = .ok (.goto 4, 3) := by decide +kernel
theorem dX10_about_92 : decode cX10_about 92 = .ok (.iconst 0, 1) := by decide +kernel
theorem dX10_about_93 : decode cX10_about 93 = .ok (.iadd, 1) := by decide +kernel
theorem dX10_about_94 : decode cX10_about 94 = .ok (.istore 4, 2) := by decide +kernel
theorem dX10_about_96 : decode cX10_about 96 = .ok (.iinc 5 1, 3) := by decide +kernel
theorem dX10_about_99 : decode cX10_about 99 = .ok (.goto (-54), 3) := by decide +kernel
theorem dX10_about_102 : decode cX10_about 102 = .ok (.iload_n 2, 1) := by decide +kernel
theorem dX10_about_103 : decode cX10_about 103 = .ok (.tableswitch 99 0 6 #[41, 50, 60, 69, 69, 88, 97], 41) := by decide +kernel
theorem dX10_about_144 : decode cX10_about 144 = .ok (.aload_n 0, 1) := by decide +kernel
theorem dX10_about_145 : decode cX10_about 145 = .ok (.getfield 16, 3) := by decide +kernel
theorem dX10_about_148 : decode cX10_about 148 = .ok (.iload_n 1, 1) := by decide +kernel
theorem dX10_about_149 : decode cX10_about 149 = .ok (.invokestatic 140, 3) := by decide +kernel
theorem dX10_about_152 : decode cX10_about 152 = .ok (.ireturn, 1) := by decide +kernel
theorem dX10_about_153 : decode cX10_about 153 = .ok (.aload_n 0, 1) := by decide +kernel
theorem dX10_about_154 : decode cX10_about 154 = .ok (.getfield 16, 3) := by decide +kernel
theorem dX10_about_157 : decode cX10_about 157 = .ok (.iload_n 1, 1) := by decide +kernel
theorem dX10_about_158 : decode cX10_about 158 = .ok (.iconst 0, 1) := by decide +kernel
theorem dX10_about_159 : decode cX10_about 159 = .ok (.invokestatic 60, 3) := by decide +kernel
theorem dX10_about_162 : decode cX10_about 162 = .ok (.ireturn, 1) := by decide +kernel
theorem dX10_about_163 : decode cX10_about 163 = .ok (.aload_n 0, 1) := by decide +kernel
theorem dX10_about_164 : decode cX10_about 164 = .ok (.getfield 16, 3) := by decide +kernel
theorem dX10_about_167 : decode cX10_about 167 = .ok (.iload_n 1, 1) := by decide +kernel
theorem dX10_about_168 : decode cX10_about 168 = .ok (.invokestatic 128, 3) := by decide +kernel
theorem dX10_about_171 : decode cX10_about 171 = .ok (.ireturn, 1) := by decide +kernel
theorem dX10_about_172 : decode cX10_about 172 = .ok (.aload_n 0, 1) := by decide +kernel
theorem dX10_about_173 : decode cX10_about 173 = .ok (.getfield 16, 3) := by decide +kernel
theorem dX10_about_176 : decode cX10_about 176 = .ok (.iload_n 1, 1) := by decide +kernel
theorem dX10_about_177 : decode cX10_about 177 = .ok (.iload_n 2, 1) := by decide +kernel
theorem dX10_about_178 : decode cX10_about 178 = .ok (.iconst 4, 1) := by decide +kernel
theorem dX10_about_179 : decode cX10_about 179 = .ok (.if_icmp .ne 7, 3) := by decide +kernel
theorem dX10_about_182 : decode cX10_about 182 = .ok (.iconst 1, 1) := by decide +kernel
theorem dX10_about_183 : decode cX10_about 183 = .ok (.goto 4, 3) := by decide +kernel
theorem dX10_about_186 : decode cX10_about 186 = .ok (.iconst 0, 1) := by decide +kernel
theorem dX10_about_187 : decode cX10_about 187 = .ok (.invokestatic 143, 3) := by decide +kernel
theorem dX10_about_190 : decode cX10_about 190 = .ok (.ireturn, 1) := by decide +kernel
theorem dX10_about_191 : decode cX10_about 191 = .ok (.aload_n 0, 1) := by decide +kernel
theorem dX10_about_192 : decode cX10_about 192 = .ok (.getfield 16, 3) := by decide +kernel
theorem dX10_about_195 : decode cX10_about 195 = .ok (.iload_n 1, 1) := by decide +kernel
theorem dX10_about_196 : decode cX10_about 196 = .ok (.invokestatic 147, 3) := by decide +kernel
theorem dX10_about_199 : decode cX10_about 199 = .ok (.ireturn, 1) := by decide +kernel
theorem dX10_about_200 : decode cX10_about 200 = .ok (.iload_n 3, 1) := by decide +kernel
theorem dX10_about_201 : decode cX10_about 201 = .ok (.ireturn, 1) := by decide +kernel
theorem dX10_about_202 : decode cX10_about 202 = .ok (.iload 4, 2) := by decide +kernel
theorem dX10_about_204 : decode cX10_about 204 = .ok (.ireturn, 1) := by decide +kernel
set_option maxRecDepth 20000 in
theorem ggX10_cell_X10_have : GoodIn wsX10_cell wsX10_have := goodIn_r _ [6, 1, 7, 8, 5, 9, 10, 11, 12, 13, 14, 15, 16, 17, 18, 19, 28, 29, 30, 31, 32, 33, 34, 35, 36, 37, 38, 39, 40, 41, 42] (by decide +kernel) (by decide +kernel)
set_option maxRecDepth 20000 in
theorem gX10_cell_X10_have : GoodIn wsX10_cell (wsV RX10 150 RX10 yX10_have wsX10_have) := goodIn_app (goodIn_of _ (by decide +kernel)) ggX10_cell_X10_have
set_option maxRecDepth 20000 in
theorem ggX10_cell_X10_refused : GoodIn wsX10_cell wsX10_refused := goodIn_r _ [23, 24, 28, 29, 30, 31, 32, 33, 34, 35, 36, 37, 38, 39, 40, 41, 42] (by decide +kernel) (by decide +kernel)
set_option maxRecDepth 20000 in
theorem gX10_cell_X10_refused : GoodIn wsX10_cell (wsV RX10 102 RX10 yX10_refused wsX10_refused) := goodIn_app (goodIn_of _ (by decide +kernel)) ggX10_cell_X10_refused
set_option maxRecDepth 20000 in
theorem ggX10_cell_X10_get : GoodIn wsX10_cell wsX10_get := goodIn_r _ [27] (by decide +kernel) (by decide +kernel)
set_option maxRecDepth 20000 in
theorem gX10_cell_X10_get : GoodIn wsX10_cell (va_wsS RX10 76 yX10_get wsX10_get) := goodIn_app (goodIn_of _ (by decide +kernel)) ggX10_cell_X10_get
theorem dX10_cell_0 : decode cX10_cell 0 = .ok (.aload_n 0, 1) := by decide +kernel
theorem dX10_cell_1 : decode cX10_cell 1 = .ok (.aload_n 0, 1) := by decide +kernel
theorem dX10_cell_2 : decode cX10_cell 2 = .ok (.iload_n 1, 1) := by decide +kernel
theorem dX10_cell_3 : decode cX10_cell 3 = .ok (.iload_n 2, 1) := by decide +kernel
theorem dX10_cell_4 : decode cX10_cell 4 = .ok (.iload_n 3, 1) := by decide +kernel
theorem dX10_cell_5 : decode cX10_cell 5 = .ok (.invokevirtual 150, 3) := by decide +kernel
theorem dX10_cell_8 : decode cX10_cell 8 = .ok (.ifCond .eq 7, 3) := by decide +kernel
theorem dX10_cell_11 : decode cX10_cell 11 = .ok (.iconst 0, 1) := by decide +kernel
theorem dX10_cell_12 : decode cX10_cell 12 = .ok (.goto 4, 3) := by decide +kernel
theorem dX10_cell_15 : decode cX10_cell 15 = .ok (.iconst 1, 1) := by decide +kernel
theorem dX10_cell_16 : decode cX10_cell 16 = .ok (.invokevirtual 102, 3) := by decide +kernel
theorem dX10_cell_19 : decode cX10_cell 19 = .ok (.ifCond .eq 5, 3) := by decide +kernel
theorem dX10_cell_22 : decode cX10_cell 22 = .ok (.iconst 0, 1) := by decide +kernel
theorem dX10_cell_23 : decode cX10_cell 23 = .ok (.ireturn, 1) := by decide +kernel
theorem dX10_cell_24 : decode cX10_cell 24 = .ok (.aload_n 0, 1) := by decide +kernel
theorem dX10_cell_25 : decode cX10_cell 25 = .ok (.getfield 16, 3) := by decide +kernel
theorem dX10_cell_28 : decode cX10_cell 28 = .ok (.iload_n 1, 1) := by decide +kernel
theorem dX10_cell_29 : decode cX10_cell 29 = .ok (.iload_n 2, 1) := by decide +kernel
theorem dX10_cell_30 : decode cX10_cell 30 = .ok (.iload_n 3, 1) := by decide +kernel
theorem dX10_cell_31 : decode cX10_cell 31 = .ok (.invokestatic 76, 3) := by decide +kernel
theorem dX10_cell_34 : decode cX10_cell 34 = .ok (.ireturn, 1) := by decide +kernel
set_option maxRecDepth 20000 in
theorem ggX10_size_X10_isTable : GoodIn wsX10_size wsX10_isTable := goodIn_r _ [6, 7, 8, 5, 9] (by decide +kernel) (by decide +kernel)
set_option maxRecDepth 20000 in
theorem gX10_size_X10_isTable : GoodIn wsX10_size (va_wsS RX10 64 yX10_isTable wsX10_isTable) := goodIn_app (goodIn_of _ (by decide +kernel)) ggX10_size_X10_isTable
set_option maxRecDepth 20000 in
theorem ggX10_size_X10_in : GoodIn wsX10_size wsX10_in := goodIn_r _ [9] (by decide +kernel) (by decide +kernel)
set_option maxRecDepth 20000 in
theorem gX10_size_X10_in : GoodIn wsX10_size (va_wsS RX10 54 yX10_in wsX10_in) := goodIn_app (goodIn_of _ (by decide +kernel)) ggX10_size_X10_in
set_option maxRecDepth 20000 in
theorem ggX10_size_X10_refused : GoodIn wsX10_size wsX10_refused := goodIn_r _ [13, 14, 21, 22, 23, 24, 25, 26, 27, 28, 29, 30, 31, 32, 33, 34, 35] (by decide +kernel) (by decide +kernel)
set_option maxRecDepth 20000 in
theorem gX10_size_X10_refused : GoodIn wsX10_size (wsV RX10 102 RX10 yX10_refused wsX10_refused) := goodIn_app (goodIn_of _ (by decide +kernel)) ggX10_size_X10_refused
set_option maxRecDepth 20000 in
theorem ggX10_size_X10_tall : GoodIn wsX10_size wsX10_tall := goodIn_r _ [17, 18, 19, 5, 20, 1, 7, 8, 9] (by decide +kernel) (by decide +kernel)
set_option maxRecDepth 20000 in
theorem gX10_size_X10_tall : GoodIn wsX10_size (va_wsS RX10 94 yX10_tall wsX10_tall) := goodIn_app (goodIn_of _ (by decide +kernel)) ggX10_size_X10_tall
set_option maxRecDepth 20000 in
theorem ggX10_size_X10_length : GoodIn wsX10_size wsX10_length := goodIn_r _ [20, 1, 7, 8, 5, 9] (by decide +kernel) (by decide +kernel)
set_option maxRecDepth 20000 in
theorem gX10_size_X10_length : GoodIn wsX10_size (va_wsS RX10 60 yX10_length wsX10_length) := goodIn_app (goodIn_of _ (by decide +kernel)) ggX10_size_X10_length
theorem dX10_size_0 : decode cX10_size 0 = .ok (.aload_n 0, 1) := by decide +kernel
theorem dX10_size_1 : decode cX10_size 1 = .ok (.iload_n 1, 1) := by decide +kernel
theorem dX10_size_2 : decode cX10_size 2 = .ok (.invokestatic 64, 3) := by decide +kernel
theorem dX10_size_5 : decode cX10_size 5 = .ok (.ifCond .ne 7, 3) := by decide +kernel
theorem dX10_size_8 : decode cX10_size 8 = .ok (.iconst 1, 1) := by decide +kernel
theorem dX10_size_9 : decode cX10_size 9 = .ok (.goto 20, 3) := by decide +kernel
theorem dX10_size_12 : decode cX10_size 12 = .ok (.iload_n 2, 1) := by decide +kernel
theorem dX10_size_13 : decode cX10_size 13 = .ok (.i2l, 1) := by decide +kernel
theorem dX10_size_14 : decode cX10_size 14 = .ok (.lconst 0, 1) := by decide +kernel
theorem dX10_size_15 : decode cX10_size 15 = .ok (.ldc2_w 58, 3) := by decide +kernel
theorem dX10_size_18 : decode cX10_size 18 = .ok (.invokestatic 54, 3) := by decide +kernel
theorem dX10_size_21 : decode cX10_size 21 = .ok (.ifCond .ne 7, 3) := by decide +kernel
theorem dX10_size_24 : decode cX10_size 24 = .ok (.iconst 2, 1) := by decide +kernel
theorem dX10_size_25 : decode cX10_size 25 = .ok (.goto 4, 3) := by decide +kernel
theorem dX10_size_28 : decode cX10_size 28 = .ok (.iconst 0, 1) := by decide +kernel
theorem dX10_size_29 : decode cX10_size 29 = .ok (.invokevirtual 102, 3) := by decide +kernel
theorem dX10_size_32 : decode cX10_size 32 = .ok (.ifCond .eq 5, 3) := by decide +kernel
theorem dX10_size_35 : decode cX10_size 35 = .ok (.iconst 0, 1) := by decide +kernel
theorem dX10_size_36 : decode cX10_size 36 = .ok (.ireturn, 1) := by decide +kernel
theorem dX10_size_37 : decode cX10_size 37 = .ok (.iload_n 3, 1) := by decide +kernel
theorem dX10_size_38 : decode cX10_size 38 = .ok (.ifCond .eq 15, 3) := by decide +kernel
theorem dX10_size_41 : decode cX10_size 41 = .ok (.aload_n 0, 1) := by decide +kernel
theorem dX10_size_42 : decode cX10_size 42 = .ok (.getfield 16, 3) := by decide +kernel
theorem dX10_size_45 : decode cX10_size 45 = .ok (.iload_n 1, 1) := by decide +kernel
theorem dX10_size_46 : decode cX10_size 46 = .ok (.iload_n 2, 1) := by decide +kernel
theorem dX10_size_47 : decode cX10_size 47 = .ok (.invokestatic 94, 3) := by decide +kernel
theorem dX10_size_50 : decode cX10_size 50 = .ok (.goto 12, 3) := by decide +kernel
theorem dX10_size_53 : decode cX10_size 53 = .ok (.aload_n 0, 1) := by decide +kernel
theorem dX10_size_54 : decode cX10_size 54 = .ok (.getfield 16, 3) := by decide +kernel
theorem dX10_size_57 : decode cX10_size 57 = .ok (.iload_n 1, 1) := by decide +kernel
theorem dX10_size_58 : decode cX10_size 58 = .ok (.iload_n 2, 1) := by decide +kernel
theorem dX10_size_59 : decode cX10_size 59 = .ok (.invokestatic 60, 3) := by decide +kernel
theorem dX10_size_62 : decode cX10_size 62 = .ok (.ireturn, 1) := by decide +kernel
set_option maxRecDepth 20000 in
theorem ggX10_isNumber_X10_in : GoodIn wsX10_isNumber wsX10_in := goodIn_r _ [5] (by decide +kernel) (by decide +kernel)
set_option maxRecDepth 20000 in
theorem gX10_isNumber_X10_in : GoodIn wsX10_isNumber (va_wsS RX10 54 yX10_in wsX10_in) := goodIn_app (goodIn_of _ (by decide +kernel)) ggX10_isNumber_X10_in
theorem dX10_isNumber_0 : decode cX10_isNumber 0 = .ok (.iload_n 0, 1) := by decide +kernel
theorem dX10_isNumber_1 : decode cX10_isNumber 1 = .ok (.i2l, 1) := by decide +kernel
theorem dX10_isNumber_2 : decode cX10_isNumber 2 = .ok (.lconst 0, 1) := by decide +kernel
theorem dX10_isNumber_3 : decode cX10_isNumber 3 = .ok (.ldc2_w 154, 3) := by decide +kernel
theorem dX10_isNumber_6 : decode cX10_isNumber 6 = .ok (.invokestatic 54, 3) := by decide +kernel
theorem dX10_isNumber_9 : decode cX10_isNumber 9 = .ok (.ireturn, 1) := by decide +kernel
set_option maxRecDepth 20000 in
theorem ggX10_insert_X10_isTable : GoodIn wsX10_insert wsX10_isTable := goodIn_r _ [5, 6, 7, 4, 8] (by decide +kernel) (by decide +kernel)
set_option maxRecDepth 20000 in
theorem gX10_insert_X10_isTable : GoodIn wsX10_insert (va_wsS RX10 64 yX10_isTable wsX10_isTable) := goodIn_app (goodIn_of _ (by decide +kernel)) ggX10_insert_X10_isTable
set_option maxRecDepth 20000 in
theorem ggX10_insert_X10_isNumber : GoodIn wsX10_insert wsX10_isNumber := goodIn_r _ [11, 12, 6, 7, 4, 8] (by decide +kernel) (by decide +kernel)
set_option maxRecDepth 20000 in
theorem gX10_insert_X10_isNumber : GoodIn wsX10_insert (va_wsS RX10 156 yX10_isNumber wsX10_isNumber) := goodIn_app (goodIn_of _ (by decide +kernel)) ggX10_insert_X10_isNumber
set_option maxRecDepth 20000 in
theorem ggX10_insert_X10_gapRow : GoodIn wsX10_insert wsX10_gapRow := goodIn_r _ [15, 16, 17, 4, 18, 19, 20, 21, 22, 6, 7, 8] (by decide +kernel) (by decide +kernel)
set_option maxRecDepth 20000 in
theorem gX10_insert_X10_gapRow : GoodIn wsX10_insert (va_wsS RX10 87 yX10_gapRow wsX10_gapRow) := goodIn_app (goodIn_of _ (by decide +kernel)) ggX10_insert_X10_gapRow
set_option maxRecDepth 20000 in
theorem ggX10_insert_X10_refused : GoodIn wsX10_insert wsX10_refused := goodIn_r _ [26, 27, 52, 53, 54, 55, 56, 57, 58, 59, 60, 61, 62, 63, 64, 65, 66] (by decide +kernel) (by decide +kernel)
set_option maxRecDepth 20000 in
theorem gX10_insert_X10_refused : GoodIn wsX10_insert (wsV RX10 102 RX10 yX10_refused wsX10_refused) := goodIn_app (goodIn_of _ (by decide +kernel)) ggX10_insert_X10_refused
set_option maxRecDepth 20000 in
theorem ggX10_insert_X10_note : GoodIn wsX10_insert wsX10_note := goodIn_r _ [31, 32, 33, 1, 34, 35, 4, 36, 52, 53, 54, 55, 56, 57, 58, 59, 60, 61, 62, 63, 64, 65, 66] (by decide +kernel) (by decide +kernel)
set_option maxRecDepth 20000 in
theorem gX10_insert_X10_note : GoodIn wsX10_insert (wsV RX10 159 RX10 yX10_note wsX10_note) := goodIn_app (goodIn_of _ (by decide +kernel)) ggX10_insert_X10_note
set_option maxRecDepth 20000 in
theorem ggX10_insert_X10_insertOn : GoodIn wsX10_insert wsX10_insertOn := goodIn_r _ [40, 41, 13, 14, 4, 15, 16, 17, 18, 19, 20, 21, 22, 6, 7, 8, 42, 43, 44, 45, 46, 47, 48, 49, 50, 51, 52, 53, 54, 55, 56, 57, 58, 59, 60, 61, 62, 63, 64, 65, 66] (by decide +kernel) (by decide +kernel)
set_option maxRecDepth 20000 in
theorem gX10_insert_X10_insertOn : GoodIn wsX10_insert (wsV RX10 162 RX10 yX10_insertOn wsX10_insertOn) := goodIn_app (goodIn_of _ (by decide +kernel)) ggX10_insert_X10_insertOn
theorem dX10_insert_0 : decode cX10_insert 0 = .ok (.aload_n 0, 1) := by decide +kernel
theorem dX10_insert_1 : decode cX10_insert 1 = .ok (.iload_n 1, 1) := by decide +kernel
theorem dX10_insert_2 : decode cX10_insert 2 = .ok (.invokestatic 64, 3) := by decide +kernel
theorem dX10_insert_5 : decode cX10_insert 5 = .ok (.ifCond .ne 7, 3) := by decide +kernel
theorem dX10_insert_8 : decode cX10_insert 8 = .ok (.iconst 1, 1) := by decide +kernel
theorem dX10_insert_9 : decode cX10_insert 9 = .ok (.goto 32, 3) := by decide +kernel
theorem dX10_insert_12 : decode cX10_insert 12 = .ok (.iload_n 2, 1) := by decide +kernel
theorem dX10_insert_13 : decode cX10_insert 13 = .ok (.invokestatic 156, 3) := by decide +kernel
theorem dX10_insert_16 : decode cX10_insert 16 = .ok (.ifCond .ne 7, 3) := by decide +kernel
theorem dX10_insert_19 : decode cX10_insert 19 = .ok (.iconst 2, 1) := by decide +kernel
theorem dX10_insert_20 : decode cX10_insert 20 = .ok (.goto 21, 3) := by decide +kernel
theorem dX10_insert_23 : decode cX10_insert 23 = .ok (.aload_n 0, 1) := by decide +kernel
theorem dX10_insert_24 : decode cX10_insert 24 = .ok (.getfield 16, 3) := by decide +kernel
theorem dX10_insert_27 : decode cX10_insert 27 = .ok (.iload_n 1, 1) := by decide +kernel
theorem dX10_insert_28 : decode cX10_insert 28 = .ok (.invokestatic 87, 3) := by decide +kernel
theorem dX10_insert_31 : decode cX10_insert 31 = .ok (.bipush (-9), 2) := by decide +kernel
theorem dX10_insert_33 : decode cX10_insert 33 = .ok (.if_icmp .ne 7, 3) := by decide +kernel
theorem dX10_insert_36 : decode cX10_insert 36 = .ok (.iconst 3, 1) := by decide +kernel
theorem dX10_insert_37 : decode cX10_insert 37 = .ok (.goto 4, 3) := by decide +kernel
theorem dX10_insert_40 : decode cX10_insert 40 = .ok (.iconst 0, 1) := by decide +kernel
theorem dX10_insert_41 : decode cX10_insert 41 = .ok (.invokevirtual 102, 3) := by decide +kernel
theorem dX10_insert_44 : decode cX10_insert 44 = .ok (.ifCond .eq 5, 3) := by decide +kernel
theorem dX10_insert_47 : decode cX10_insert 47 = .ok (.iconst 0, 1) := by decide +kernel
theorem dX10_insert_48 : decode cX10_insert 48 = .ok (.ireturn, 1) := by decide +kernel
theorem dX10_insert_49 : decode cX10_insert 49 = .ok (.aload_n 0, 1) := by decide +kernel
theorem dX10_insert_50 : decode cX10_insert 50 = .ok (.invokevirtual 159, 3) := by decide +kernel
theorem dX10_insert_53 : decode cX10_insert 53 = .ok (.aload_n 0, 1) := by decide +kernel
theorem dX10_insert_54 : decode cX10_insert 54 = .ok (.aload_n 0, 1) := by decide +kernel
theorem dX10_insert_55 : decode cX10_insert 55 = .ok (.getfield 16, 3) := by decide +kernel
theorem dX10_insert_58 : decode cX10_insert 58 = .ok (.iload_n 1, 1) := by decide +kernel
theorem dX10_insert_59 : decode cX10_insert 59 = .ok (.iload_n 2, 1) := by decide +kernel
theorem dX10_insert_60 : decode cX10_insert 60 = .ok (.invokevirtual 162, 3) := by decide +kernel
theorem dX10_insert_63 : decode cX10_insert 63 = .ok (.ireturn, 1) := by decide +kernel
set_option maxRecDepth 20000 in
theorem ggX10_remove_X10_have : GoodIn wsX10_remove wsX10_have := goodIn_r _ [6, 1, 7, 8, 5, 9, 10, 11, 12, 13, 14, 15, 16, 17, 18, 19, 43, 44, 45, 46, 47, 48, 49, 50, 51, 52, 53, 54, 55, 56, 57] (by decide +kernel) (by decide +kernel)
set_option maxRecDepth 20000 in
theorem gX10_remove_X10_have : GoodIn wsX10_remove (wsV RX10 150 RX10 yX10_have wsX10_have) := goodIn_app (goodIn_of _ (by decide +kernel)) ggX10_remove_X10_have
set_option maxRecDepth 20000 in
theorem ggX10_remove_X10_refused : GoodIn wsX10_remove wsX10_refused := goodIn_r _ [23, 24, 43, 44, 45, 46, 47, 48, 49, 50, 51, 52, 53, 54, 55, 56, 57] (by decide +kernel) (by decide +kernel)
set_option maxRecDepth 20000 in
theorem gX10_remove_X10_refused : GoodIn wsX10_remove (wsV RX10 102 RX10 yX10_refused wsX10_refused) := goodIn_app (goodIn_of _ (by decide +kernel)) ggX10_remove_X10_refused
set_option maxRecDepth 20000 in
theorem ggX10_remove_X10_note : GoodIn wsX10_remove wsX10_note := goodIn_r _ [28, 29, 30, 1, 31, 32, 5, 33, 43, 44, 45, 46, 47, 48, 49, 50, 51, 52, 53, 54, 55, 56, 57] (by decide +kernel) (by decide +kernel)
set_option maxRecDepth 20000 in
theorem gX10_remove_X10_note : GoodIn wsX10_remove (wsV RX10 159 RX10 yX10_note wsX10_note) := goodIn_app (goodIn_of _ (by decide +kernel)) ggX10_remove_X10_note
set_option maxRecDepth 20000 in
theorem ggX10_remove_X10_get : GoodIn wsX10_remove wsX10_get := goodIn_r _ [36] (by decide +kernel) (by decide +kernel)
set_option maxRecDepth 20000 in
theorem gX10_remove_X10_get : GoodIn wsX10_remove (va_wsS RX10 76 yX10_get wsX10_get) := goodIn_app (goodIn_of _ (by decide +kernel)) ggX10_remove_X10_get
set_option maxRecDepth 20000 in
theorem ggX10_remove_X10_removeOn : GoodIn wsX10_remove wsX10_removeOn := goodIn_r _ [39, 13, 14, 5, 15, 16, 17, 18, 19, 10, 11, 12, 34, 35, 36, 40, 41, 42] (by decide +kernel) (by decide +kernel)
set_option maxRecDepth 20000 in
theorem gX10_remove_X10_removeOn : GoodIn wsX10_remove (va_wsS RX10 165 yX10_removeOn wsX10_removeOn) := goodIn_app (goodIn_of _ (by decide +kernel)) ggX10_remove_X10_removeOn
theorem dX10_remove_0 : decode cX10_remove 0 = .ok (.aload_n 0, 1) := by decide +kernel
theorem dX10_remove_1 : decode cX10_remove 1 = .ok (.aload_n 0, 1) := by decide +kernel
theorem dX10_remove_2 : decode cX10_remove 2 = .ok (.iload_n 1, 1) := by decide +kernel
theorem dX10_remove_3 : decode cX10_remove 3 = .ok (.iload_n 2, 1) := by decide +kernel
theorem dX10_remove_4 : decode cX10_remove 4 = .ok (.iload_n 3, 1) := by decide +kernel
theorem dX10_remove_5 : decode cX10_remove 5 = .ok (.invokevirtual 150, 3) := by decide +kernel
theorem dX10_remove_8 : decode cX10_remove 8 = .ok (.ifCond .eq 7, 3) := by decide +kernel
theorem dX10_remove_11 : decode cX10_remove 11 = .ok (.iconst 0, 1) := by decide +kernel
theorem dX10_remove_12 : decode cX10_remove 12 = .ok (.goto 4, 3) := by decide +kernel
theorem dX10_remove_15 : decode cX10_remove 15 = .ok (.iconst 1, 1) := by decide +kernel
theorem dX10_remove_16 : decode cX10_remove 16 = .ok (.invokevirtual 102, 3) := by decide +kernel
theorem dX10_remove_19 : decode cX10_remove 19 = .ok (.ifCond .eq 5, 3) := by decide +kernel
theorem dX10_remove_22 : decode cX10_remove 22 = .ok (.iconst 0, 1) := by decide +kernel
theorem dX10_remove_23 : decode cX10_remove 23 = .ok (.ireturn, 1) := by decide +kernel
theorem dX10_remove_24 : decode cX10_remove 24 = .ok (.aload_n 0, 1) := by decide +kernel
theorem dX10_remove_25 : decode cX10_remove 25 = .ok (.invokevirtual 159, 3) := by decide +kernel
theorem dX10_remove_28 : decode cX10_remove 28 = .ok (.aload_n 0, 1) := by decide +kernel
theorem dX10_remove_29 : decode cX10_remove 29 = .ok (.getfield 16, 3) := by decide +kernel
theorem dX10_remove_32 : decode cX10_remove 32 = .ok (.iload_n 1, 1) := by decide +kernel
theorem dX10_remove_33 : decode cX10_remove 33 = .ok (.iload_n 2, 1) := by decide +kernel
theorem dX10_remove_34 : decode cX10_remove 34 = .ok (.iload_n 3, 1) := by decide +kernel
theorem dX10_remove_35 : decode cX10_remove 35 = .ok (.invokestatic 76, 3) := by decide +kernel
theorem dX10_remove_38 : decode cX10_remove 38 = .ok (.istore 4, 2) := by decide +kernel
theorem dX10_remove_40 : decode cX10_remove 40 = .ok (.aload_n 0, 1) := by decide +kernel
theorem dX10_remove_41 : decode cX10_remove 41 = .ok (.getfield 16, 3) := by decide +kernel
theorem dX10_remove_44 : decode cX10_remove 44 = .ok (.iload_n 1, 1) := by decide +kernel
theorem dX10_remove_45 : decode cX10_remove 45 = .ok (.iload_n 2, 1) := by decide +kernel
theorem dX10_remove_46 : decode cX10_remove 46 = .ok (.iload_n 3, 1) := by decide +kernel
theorem dX10_remove_47 : decode cX10_remove 47 = .ok (.invokestatic 165, 3) := by decide +kernel
theorem dX10_remove_50 : decode cX10_remove 50 = .ok (.pop, 1) := by decide +kernel
theorem dX10_remove_51 : decode cX10_remove 51 = .ok (.iload 4, 2) := by decide +kernel
theorem dX10_remove_53 : decode cX10_remove 53 = .ok (.ireturn, 1) := by decide +kernel
set_option maxRecDepth 20000 in
theorem ggX10_change_X10_have : GoodIn wsX10_change wsX10_have := goodIn_r _ [6, 1, 7, 8, 5, 9, 10, 11, 12, 13, 14, 15, 16, 17, 18, 19, 52, 53, 54, 55, 56, 57, 58, 59, 60, 61, 62, 63, 64, 65, 66] (by decide +kernel) (by decide +kernel)
set_option maxRecDepth 20000 in
theorem gX10_change_X10_have : GoodIn wsX10_change (wsV RX10 150 RX10 yX10_have wsX10_have) := goodIn_app (goodIn_of _ (by decide +kernel)) ggX10_change_X10_have
set_option maxRecDepth 20000 in
theorem ggX10_change_X10_isNumber : GoodIn wsX10_change wsX10_isNumber := goodIn_r _ [22, 23, 10, 11, 5, 12] (by decide +kernel) (by decide +kernel)
set_option maxRecDepth 20000 in
theorem gX10_change_X10_isNumber : GoodIn wsX10_change (va_wsS RX10 156 yX10_isNumber wsX10_isNumber) := goodIn_app (goodIn_of _ (by decide +kernel)) ggX10_change_X10_isNumber
set_option maxRecDepth 20000 in
theorem ggX10_change_X10_refused : GoodIn wsX10_change wsX10_refused := goodIn_r _ [27, 28, 52, 53, 54, 55, 56, 57, 58, 59, 60, 61, 62, 63, 64, 65, 66] (by decide +kernel) (by decide +kernel)
set_option maxRecDepth 20000 in
theorem gX10_change_X10_refused : GoodIn wsX10_change (wsV RX10 102 RX10 yX10_refused wsX10_refused) := goodIn_app (goodIn_of _ (by decide +kernel)) ggX10_change_X10_refused
set_option maxRecDepth 20000 in
theorem ggX10_change_X10_note : GoodIn wsX10_change wsX10_note := goodIn_r _ [32, 33, 34, 1, 35, 36, 5, 37, 52, 53, 54, 55, 56, 57, 58, 59, 60, 61, 62, 63, 64, 65, 66] (by decide +kernel) (by decide +kernel)
set_option maxRecDepth 20000 in
theorem gX10_change_X10_note : GoodIn wsX10_change (wsV RX10 159 RX10 yX10_note wsX10_note) := goodIn_app (goodIn_of _ (by decide +kernel)) ggX10_change_X10_note
set_option maxRecDepth 20000 in
theorem ggX10_change_X10_set : GoodIn wsX10_change wsX10_set := goodIn_r _ [40] (by decide +kernel) (by decide +kernel)
set_option maxRecDepth 20000 in
theorem gX10_change_X10_set : GoodIn wsX10_change (va_wsS RX10 80 yX10_set wsX10_set) := goodIn_app (goodIn_of _ (by decide +kernel)) ggX10_change_X10_set
set_option maxRecDepth 20000 in
theorem ggX10_change_X10_slideUp : GoodIn wsX10_change wsX10_slideUp := goodIn_r _ [44, 45, 46, 47, 5, 48, 38, 39, 40, 52, 53, 54, 55, 56, 57, 58, 59, 60, 61, 62, 63, 64, 65, 66] (by decide +kernel) (by decide +kernel)
set_option maxRecDepth 20000 in
theorem gX10_change_X10_slideUp : GoodIn wsX10_change (wsV RX10 91 RX10 yX10_slideUp wsX10_slideUp) := goodIn_app (goodIn_of _ (by decide +kernel)) ggX10_change_X10_slideUp
set_option maxRecDepth 20000 in
theorem ggX10_change_X10_slideDown : GoodIn wsX10_change wsX10_slideDown := goodIn_r _ [51, 46, 47, 5, 48, 13, 14, 15, 16, 17, 18, 19, 10, 11, 12, 38, 39, 40] (by decide +kernel) (by decide +kernel)
set_option maxRecDepth 20000 in
theorem gX10_change_X10_slideDown : GoodIn wsX10_change (va_wsS RX10 168 yX10_slideDown wsX10_slideDown) := goodIn_app (goodIn_of _ (by decide +kernel)) ggX10_change_X10_slideDown
theorem dX10_change_0 : decode cX10_change 0 = .ok (.aload_n 0, 1) := by decide +kernel
theorem dX10_change_1 : decode cX10_change 1 = .ok (.aload_n 0, 1) := by decide +kernel
theorem dX10_change_2 : decode cX10_change 2 = .ok (.iload_n 1, 1) := by decide +kernel
theorem dX10_change_3 : decode cX10_change 3 = .ok (.iload_n 2, 1) := by decide +kernel
theorem dX10_change_4 : decode cX10_change 4 = .ok (.iload_n 3, 1) := by decide +kernel
theorem dX10_change_5 : decode cX10_change 5 = .ok (.invokevirtual 150, 3) := by decide +kernel
theorem dX10_change_8 : decode cX10_change 8 = .ok (.ifCond .ne 7, 3) := by decide +kernel
theorem dX10_change_11 : decode cX10_change 11 = .ok (.iconst 1, 1) := by decide +kernel
theorem dX10_change_12 : decode cX10_change 12 = .ok (.goto 16, 3) := by decide +kernel
theorem dX10_change_15 : decode cX10_change 15 = .ok (.iload 4, 2) := by decide +kernel
theorem dX10_change_17 : decode cX10_change 17 = .ok (.invokestatic 156, 3) := by decide +kernel
theorem dX10_change_20 : decode cX10_change 20 = .ok (.ifCond .ne 7, 3) := by decide +kernel
theorem dX10_change_23 : decode cX10_change 23 = .ok (.iconst 2, 1) := by decide +kernel
theorem dX10_change_24 : decode cX10_change 24 = .ok (.goto 4, 3) := by decide +kernel
theorem dX10_change_27 : decode cX10_change 27 = .ok (.iconst 0, 1) := by decide +kernel
theorem dX10_change_28 : decode cX10_change 28 = .ok (.invokevirtual 102, 3) := by decide +kernel
theorem dX10_change_31 : decode cX10_change 31 = .ok (.ifCond .eq 5, 3) := by decide +kernel
theorem dX10_change_34 : decode cX10_change 34 = .ok (.iconst 0, 1) := by decide +kernel
theorem dX10_change_35 : decode cX10_change 35 = .ok (.ireturn, 1) := by decide +kernel
theorem dX10_change_36 : decode cX10_change 36 = .ok (.aload_n 0, 1) := by decide +kernel
theorem dX10_change_37 : decode cX10_change 37 = .ok (.invokevirtual 159, 3) := by decide +kernel
theorem dX10_change_40 : decode cX10_change 40 = .ok (.aload_n 0, 1) := by decide +kernel
theorem dX10_change_41 : decode cX10_change 41 = .ok (.getfield 16, 3) := by decide +kernel
theorem dX10_change_44 : decode cX10_change 44 = .ok (.iload_n 1, 1) := by decide +kernel
theorem dX10_change_45 : decode cX10_change 45 = .ok (.iload_n 2, 1) := by decide +kernel
theorem dX10_change_46 : decode cX10_change 46 = .ok (.iload_n 3, 1) := by decide +kernel
theorem dX10_change_47 : decode cX10_change 47 = .ok (.iload 4, 2) := by decide +kernel
theorem dX10_change_49 : decode cX10_change 49 = .ok (.invokestatic 80, 3) := by decide +kernel
theorem dX10_change_52 : decode cX10_change 52 = .ok (.aload_n 0, 1) := by decide +kernel
theorem dX10_change_53 : decode cX10_change 53 = .ok (.getfield 16, 3) := by decide +kernel
theorem dX10_change_56 : decode cX10_change 56 = .ok (.iload_n 1, 1) := by decide +kernel
theorem dX10_change_57 : decode cX10_change 57 = .ok (.aload_n 0, 1) := by decide +kernel
theorem dX10_change_58 : decode cX10_change 58 = .ok (.aload_n 0, 1) := by decide +kernel
theorem dX10_change_59 : decode cX10_change 59 = .ok (.getfield 16, 3) := by decide +kernel
theorem dX10_change_62 : decode cX10_change 62 = .ok (.iload_n 1, 1) := by decide +kernel
theorem dX10_change_63 : decode cX10_change 63 = .ok (.bipush 10, 2) := by decide +kernel
theorem dX10_change_65 : decode cX10_change 65 = .ok (.iload_n 2, 1) := by decide +kernel
theorem dX10_change_66 : decode cX10_change 66 = .ok (.imul, 1) := by decide +kernel
theorem dX10_change_67 : decode cX10_change 67 = .ok (.iload_n 3, 1) := by decide +kernel
theorem dX10_change_68 : decode cX10_change 68 = .ok (.iadd, 1) := by decide +kernel
theorem dX10_change_69 : decode cX10_change 69 = .ok (.invokevirtual 91, 3) := by decide +kernel
theorem dX10_change_72 : decode cX10_change 72 = .ok (.invokestatic 168, 3) := by decide +kernel
theorem dX10_change_75 : decode cX10_change 75 = .ok (.ireturn, 1) := by decide +kernel
set_option maxRecDepth 20000 in
theorem ggX10_transfer_X10_have : GoodIn wsX10_transfer wsX10_have := goodIn_r _ [6, 1, 7, 8, 5, 9, 10, 11, 12, 13, 14, 15, 16, 17, 18, 19, 58, 59, 60, 61, 62, 63, 64, 65, 66, 67, 68, 69, 70, 71, 72] (by decide +kernel) (by decide +kernel)
set_option maxRecDepth 20000 in
theorem gX10_transfer_X10_have : GoodIn wsX10_transfer (wsV RX10 150 RX10 yX10_have wsX10_have) := goodIn_app (goodIn_of _ (by decide +kernel)) ggX10_transfer_X10_have
set_option maxRecDepth 20000 in
theorem ggX10_transfer_X10_gapRow : GoodIn wsX10_transfer wsX10_gapRow := goodIn_r _ [22, 23, 24, 5, 25, 16, 17, 18, 19, 10, 11, 12] (by decide +kernel) (by decide +kernel)
set_option maxRecDepth 20000 in
theorem gX10_transfer_X10_gapRow : GoodIn wsX10_transfer (va_wsS RX10 87 yX10_gapRow wsX10_gapRow) := goodIn_app (goodIn_of _ (by decide +kernel)) ggX10_transfer_X10_gapRow
set_option maxRecDepth 20000 in
theorem ggX10_transfer_X10_refused : GoodIn wsX10_transfer wsX10_refused := goodIn_r _ [29, 30, 58, 59, 60, 61, 62, 63, 64, 65, 66, 67, 68, 69, 70, 71, 72] (by decide +kernel) (by decide +kernel)
set_option maxRecDepth 20000 in
theorem gX10_transfer_X10_refused : GoodIn wsX10_transfer (wsV RX10 102 RX10 yX10_refused wsX10_refused) := goodIn_app (goodIn_of _ (by decide +kernel)) ggX10_transfer_X10_refused
set_option maxRecDepth 20000 in
theorem ggX10_transfer_X10_note : GoodIn wsX10_transfer wsX10_note := goodIn_r _ [34, 35, 36, 1, 37, 38, 5, 39, 58, 59, 60, 61, 62, 63, 64, 65, 66, 67, 68, 69, 70, 71, 72] (by decide +kernel) (by decide +kernel)
set_option maxRecDepth 20000 in
theorem gX10_transfer_X10_note : GoodIn wsX10_transfer (wsV RX10 159 RX10 yX10_note wsX10_note) := goodIn_app (goodIn_of _ (by decide +kernel)) ggX10_transfer_X10_note
set_option maxRecDepth 20000 in
theorem ggX10_transfer_X10_get : GoodIn wsX10_transfer wsX10_get := goodIn_r _ [42] (by decide +kernel) (by decide +kernel)
set_option maxRecDepth 20000 in
theorem gX10_transfer_X10_get : GoodIn wsX10_transfer (va_wsS RX10 76 yX10_get wsX10_get) := goodIn_app (goodIn_of _ (by decide +kernel)) ggX10_transfer_X10_get
set_option maxRecDepth 20000 in
theorem ggX10_transfer_X10_removeOn : GoodIn wsX10_transfer wsX10_removeOn := goodIn_r _ [45, 13, 14, 5, 15, 16, 17, 18, 19, 10, 11, 12, 40, 41, 42, 46, 47, 48] (by decide +kernel) (by decide +kernel)
set_option maxRecDepth 20000 in
theorem gX10_transfer_X10_removeOn : GoodIn wsX10_transfer (va_wsS RX10 165 yX10_removeOn wsX10_removeOn) := goodIn_app (goodIn_of _ (by decide +kernel)) ggX10_transfer_X10_removeOn
set_option maxRecDepth 20000 in
theorem ggX10_transfer_X10_insertOn : GoodIn wsX10_transfer wsX10_insertOn := goodIn_r _ [52, 53, 20, 21, 5, 22, 23, 24, 25, 16, 17, 18, 19, 10, 11, 12, 46, 47, 48, 54, 55, 56, 57, 40, 41, 42, 58, 59, 60, 61, 62, 63, 64, 65, 66, 67, 68, 69, 70, 71, 72] (by decide +kernel) (by decide +kernel)
set_option maxRecDepth 20000 in
theorem gX10_transfer_X10_insertOn : GoodIn wsX10_transfer (wsV RX10 162 RX10 yX10_insertOn wsX10_insertOn) := goodIn_app (goodIn_of _ (by decide +kernel)) ggX10_transfer_X10_insertOn
theorem dX10_transfer_0 : decode cX10_transfer 0 = .ok (.aload_n 0, 1) := by decide +kernel
theorem dX10_transfer_1 : decode cX10_transfer 1 = .ok (.aload_n 0, 1) := by decide +kernel
theorem dX10_transfer_2 : decode cX10_transfer 2 = .ok (.iload_n 1, 1) := by decide +kernel
theorem dX10_transfer_3 : decode cX10_transfer 3 = .ok (.iload_n 2, 1) := by decide +kernel
theorem dX10_transfer_4 : decode cX10_transfer 4 = .ok (.iload_n 3, 1) := by decide +kernel
theorem dX10_transfer_5 : decode cX10_transfer 5 = .ok (.invokevirtual 150, 3) := by decide +kernel
theorem dX10_transfer_8 : decode cX10_transfer 8 = .ok (.ifCond .ne 7, 3) := by decide +kernel
theorem dX10_transfer_11 : decode cX10_transfer 11 = .ok (.iconst 1, 1) := by decide +kernel
theorem dX10_transfer_12 : decode cX10_transfer 12 = .ok (.goto 23, 3) := by decide +kernel
theorem dX10_transfer_15 : decode cX10_transfer 15 = .ok (.aload_n 0, 1) := by decide +kernel
theorem dX10_transfer_16 : decode cX10_transfer 16 = .ok (.getfield 16, 3) := by decide +kernel
theorem dX10_transfer_19 : decode cX10_transfer 19 = .ok (.iconst 1, 1) := by decide +kernel
theorem dX10_transfer_20 : decode cX10_transfer 20 = .ok (.iload_n 1, 1) := by decide +kernel
theorem dX10_transfer_21 : decode cX10_transfer 21 = .ok (.isub, 1) := by decide +kernel
theorem dX10_transfer_22 : decode cX10_transfer 22 = .ok (.invokestatic 87, 3) := by decide +kernel
theorem dX10_transfer_25 : decode cX10_transfer 25 = .ok (.bipush (-9), 2) := by decide +kernel
theorem dX10_transfer_27 : decode cX10_transfer 27 = .ok (.if_icmp .ne 7, 3) := by decide +kernel
theorem dX10_transfer_30 : decode cX10_transfer 30 = .ok (.iconst 2, 1) := by decide +kernel
theorem dX10_transfer_31 : decode cX10_transfer 31 = .ok (.goto 4, 3) := by decide +kernel
theorem dX10_transfer_34 : decode cX10_transfer 34 = .ok (.iconst 0, 1) := by decide +kernel
theorem dX10_transfer_35 : decode cX10_transfer 35 = .ok (.invokevirtual 102, 3) := by decide +kernel
theorem dX10_transfer_38 : decode cX10_transfer 38 = .ok (.ifCond .eq 5, 3) := by decide +kernel
theorem dX10_transfer_41 : decode cX10_transfer 41 = .ok (.iconst 0, 1) := by decide +kernel
theorem dX10_transfer_42 : decode cX10_transfer 42 = .ok (.ireturn, 1) := by decide +kernel
theorem dX10_transfer_43 : decode cX10_transfer 43 = .ok (.aload_n 0, 1) := by decide +kernel
theorem dX10_transfer_44 : decode cX10_transfer 44 = .ok (.invokevirtual 159, 3) := by decide +kernel
theorem dX10_transfer_47 : decode cX10_transfer 47 = .ok (.aload_n 0, 1) := by decide +kernel
theorem dX10_transfer_48 : decode cX10_transfer 48 = .ok (.getfield 16, 3) := by decide +kernel
theorem dX10_transfer_51 : decode cX10_transfer 51 = .ok (.iload_n 1, 1) := by decide +kernel
theorem dX10_transfer_52 : decode cX10_transfer 52 = .ok (.iload_n 2, 1) := by decide +kernel
theorem dX10_transfer_53 : decode cX10_transfer 53 = .ok (.iload_n 3, 1) := by decide +kernel
theorem dX10_transfer_54 : decode cX10_transfer 54 = .ok (.invokestatic 76, 3) := by decide +kernel
theorem dX10_transfer_57 : decode cX10_transfer 57 = .ok (.istore 4, 2) := by decide +kernel
theorem dX10_transfer_59 : decode cX10_transfer 59 = .ok (.aload_n 0, 1) := by decide +kernel
theorem dX10_transfer_60 : decode cX10_transfer 60 = .ok (.getfield 16, 3) := by decide +kernel
theorem dX10_transfer_63 : decode cX10_transfer 63 = .ok (.iload_n 1, 1) := by decide +kernel
theorem dX10_transfer_64 : decode cX10_transfer 64 = .ok (.iload_n 2, 1) := by decide +kernel
theorem dX10_transfer_65 : decode cX10_transfer 65 = .ok (.iload_n 3, 1) := by decide +kernel
theorem dX10_transfer_66 : decode cX10_transfer 66 = .ok (.invokestatic 165, 3) := by decide +kernel
theorem dX10_transfer_69 : decode cX10_transfer 69 = .ok (.pop, 1) := by decide +kernel
theorem dX10_transfer_70 : decode cX10_transfer 70 = .ok (.aload_n 0, 1) := by decide +kernel
theorem dX10_transfer_71 : decode cX10_transfer 71 = .ok (.aload_n 0, 1) := by decide +kernel
theorem dX10_transfer_72 : decode cX10_transfer 72 = .ok (.getfield 16, 3) := by decide +kernel
theorem dX10_transfer_75 : decode cX10_transfer 75 = .ok (.iconst 1, 1) := by decide +kernel
theorem dX10_transfer_76 : decode cX10_transfer 76 = .ok (.iload_n 1, 1) := by decide +kernel
theorem dX10_transfer_77 : decode cX10_transfer 77 = .ok (.isub, 1) := by decide +kernel
theorem dX10_transfer_78 : decode cX10_transfer 78 = .ok (.iload 4, 2) := by decide +kernel
theorem dX10_transfer_80 : decode cX10_transfer 80 = .ok (.invokevirtual 162, 3) := by decide +kernel
theorem dX10_transfer_83 : decode cX10_transfer 83 = .ok (.ireturn, 1) := by decide +kernel
set_option maxRecDepth 20000 in
theorem ggX10_transpose_X10_isTable : GoodIn wsX10_transpose wsX10_isTable := goodIn_r _ [5, 6, 7, 4, 8] (by decide +kernel) (by decide +kernel)
set_option maxRecDepth 20000 in
theorem gX10_transpose_X10_isTable : GoodIn wsX10_transpose (va_wsS RX10 64 yX10_isTable wsX10_isTable) := goodIn_app (goodIn_of _ (by decide +kernel)) ggX10_transpose_X10_isTable
set_option maxRecDepth 20000 in
theorem ggX10_transpose_X10_refused : GoodIn wsX10_transpose wsX10_refused := goodIn_r _ [12, 13, 41, 42, 43, 44, 45, 46, 47, 48, 49, 50, 51, 52, 53, 54, 55] (by decide +kernel) (by decide +kernel)
set_option maxRecDepth 20000 in
theorem gX10_transpose_X10_refused : GoodIn wsX10_transpose (wsV RX10 102 RX10 yX10_refused wsX10_refused) := goodIn_app (goodIn_of _ (by decide +kernel)) ggX10_transpose_X10_refused
set_option maxRecDepth 20000 in
theorem ggX10_transpose_X10_note : GoodIn wsX10_transpose wsX10_note := goodIn_r _ [17, 18, 19, 1, 20, 21, 4, 22, 41, 42, 43, 44, 45, 46, 47, 48, 49, 50, 51, 52, 53, 54, 55] (by decide +kernel) (by decide +kernel)
set_option maxRecDepth 20000 in
theorem gX10_transpose_X10_note : GoodIn wsX10_transpose (wsV RX10 159 RX10 yX10_note wsX10_note) := goodIn_app (goodIn_of _ (by decide +kernel)) ggX10_transpose_X10_note
set_option maxRecDepth 20000 in
theorem ggX10_transpose_X10_transposeOn : GoodIn wsX10_transpose wsX10_transposeOn := goodIn_r _ [26, 27, 28, 29, 4, 30, 31, 32, 33, 34, 6, 7, 8, 35, 36, 37, 20, 21, 22, 41, 42, 43, 44, 45, 46, 47, 48, 49, 50, 51, 52, 53, 54, 55] (by decide +kernel) (by decide +kernel)
set_option maxRecDepth 20000 in
theorem gX10_transpose_X10_transposeOn : GoodIn wsX10_transpose (wsV RX10 171 RX10 yX10_transposeOn wsX10_transposeOn) := goodIn_app (goodIn_of _ (by decide +kernel)) ggX10_transpose_X10_transposeOn
set_option maxRecDepth 20000 in
theorem ggX10_transpose_X10_rows : GoodIn wsX10_transpose wsX10_rows := goodIn_r _ [40, 31, 32, 4, 33, 34, 6, 7, 8] (by decide +kernel) (by decide +kernel)
set_option maxRecDepth 20000 in
theorem gX10_transpose_X10_rows : GoodIn wsX10_transpose (va_wsS RX10 140 yX10_rows wsX10_rows) := goodIn_app (goodIn_of _ (by decide +kernel)) ggX10_transpose_X10_rows
theorem dX10_transpose_0 : decode cX10_transpose 0 = .ok (.aload_n 0, 1) := by decide +kernel
theorem dX10_transpose_1 : decode cX10_transpose 1 = .ok (.iload_n 1, 1) := by decide +kernel
theorem dX10_transpose_2 : decode cX10_transpose 2 = .ok (.invokestatic 64, 3) := by decide +kernel
theorem dX10_transpose_5 : decode cX10_transpose 5 = .ok (.ifCond .eq 7, 3) := by decide +kernel
theorem dX10_transpose_8 : decode cX10_transpose 8 = .ok (.iconst 0, 1) := by decide +kernel
theorem dX10_transpose_9 : decode cX10_transpose 9 = .ok (.goto 4, 3) := by decide +kernel
theorem dX10_transpose_12 : decode cX10_transpose 12 = .ok (.iconst 1, 1) := by decide +kernel
theorem dX10_transpose_13 : decode cX10_transpose 13 = .ok (.invokevirtual 102, 3) := by decide +kernel
theorem dX10_transpose_16 : decode cX10_transpose 16 = .ok (.ifCond .eq 5, 3) := by decide +kernel
theorem dX10_transpose_19 : decode cX10_transpose 19 = .ok (.iconst 0, 1) := by decide +kernel
theorem dX10_transpose_20 : decode cX10_transpose 20 = .ok (.ireturn, 1) := by decide +kernel
theorem dX10_transpose_21 : decode cX10_transpose 21 = .ok (.aload_n 0, 1) := by decide +kernel
theorem dX10_transpose_22 : decode cX10_transpose 22 = .ok (.invokevirtual 159, 3) := by decide +kernel
theorem dX10_transpose_25 : decode cX10_transpose 25 = .ok (.aload_n 0, 1) := by decide +kernel
theorem dX10_transpose_26 : decode cX10_transpose 26 = .ok (.aload_n 0, 1) := by decide +kernel
theorem dX10_transpose_27 : decode cX10_transpose 27 = .ok (.getfield 16, 3) := by decide +kernel
theorem dX10_transpose_30 : decode cX10_transpose 30 = .ok (.iload_n 1, 1) := by decide +kernel
theorem dX10_transpose_31 : decode cX10_transpose 31 = .ok (.invokevirtual 171, 3) := by decide +kernel
theorem dX10_transpose_34 : decode cX10_transpose 34 = .ok (.aload_n 0, 1) := by decide +kernel
theorem dX10_transpose_35 : decode cX10_transpose 35 = .ok (.getfield 16, 3) := by decide +kernel
theorem dX10_transpose_38 : decode cX10_transpose 38 = .ok (.iload_n 1, 1) := by decide +kernel
theorem dX10_transpose_39 : decode cX10_transpose 39 = .ok (.invokestatic 140, 3) := by decide +kernel
theorem dX10_transpose_42 : decode cX10_transpose 42 = .ok (.ireturn, 1) := by decide +kernel
set_option maxRecDepth 20000 in
theorem ggX10_exchange_X10_note : GoodIn wsX10_exchange wsX10_note := goodIn_r _ [8, 9, 10, 2, 11, 12, 7, 13, 24, 25, 26, 27, 28, 29, 30, 31, 32, 33, 34, 35, 36, 37, 38] (by decide +kernel) (by decide +kernel)
set_option maxRecDepth 20000 in
theorem gX10_exchange_X10_note : GoodIn wsX10_exchange (wsV RX10 159 RX10 yX10_note wsX10_note) := goodIn_app (goodIn_of _ (by decide +kernel)) ggX10_exchange_X10_note
set_option maxRecDepth 20000 in
theorem ggX10_exchange_X10_copy : GoodIn wsX10_exchange wsX10_copy := goodIn_r _ [13] (by decide +kernel) (by decide +kernel)
set_option maxRecDepth 20000 in
theorem gX10_exchange_X10_copy : GoodIn wsX10_exchange (va_wsS RX10 50 yX10_copy wsX10_copy) := goodIn_app (goodIn_of _ (by decide +kernel)) ggX10_exchange_X10_copy
set_option maxRecDepth 20000 in
theorem ggX10_exchange_X10_many : GoodIn wsX10_exchange wsX10_many := goodIn_r _ [16, 17, 18, 7, 19, 20, 21, 22, 23] (by decide +kernel) (by decide +kernel)
set_option maxRecDepth 20000 in
theorem gX10_exchange_X10_many : GoodIn wsX10_exchange (va_wsS RX10 128 yX10_many wsX10_many) := goodIn_app (goodIn_of _ (by decide +kernel)) ggX10_exchange_X10_many
theorem dX10_exchange_0 : decode cX10_exchange 0 = .ok (.aload_n 0, 1) := by decide +kernel
theorem dX10_exchange_1 : decode cX10_exchange 1 = .ok (.iconst 0, 1) := by decide +kernel
theorem dX10_exchange_2 : decode cX10_exchange 2 = .ok (.putfield 41, 3) := by decide +kernel
theorem dX10_exchange_5 : decode cX10_exchange 5 = .ok (.aload_n 0, 1) := by decide +kernel
theorem dX10_exchange_6 : decode cX10_exchange 6 = .ok (.invokevirtual 159, 3) := by decide +kernel
theorem dX10_exchange_9 : decode cX10_exchange 9 = .ok (.aload_n 0, 1) := by decide +kernel
theorem dX10_exchange_10 : decode cX10_exchange 10 = .ok (.getfield 16, 3) := by decide +kernel
theorem dX10_exchange_13 : decode cX10_exchange 13 = .ok (.iconst 0, 1) := by decide +kernel
theorem dX10_exchange_14 : decode cX10_exchange 14 = .ok (.aload_n 0, 1) := by decide +kernel
theorem dX10_exchange_15 : decode cX10_exchange 15 = .ok (.getfield 38, 3) := by decide +kernel
theorem dX10_exchange_18 : decode cX10_exchange 18 = .ok (.iconst 0, 1) := by decide +kernel
theorem dX10_exchange_19 : decode cX10_exchange 19 = .ok (.bipush 42, 2) := by decide +kernel
theorem dX10_exchange_21 : decode cX10_exchange 21 = .ok (.invokestatic 50, 3) := by decide +kernel
theorem dX10_exchange_24 : decode cX10_exchange 24 = .ok (.aload_n 0, 1) := by decide +kernel
theorem dX10_exchange_25 : decode cX10_exchange 25 = .ok (.getfield 16, 3) := by decide +kernel
theorem dX10_exchange_28 : decode cX10_exchange 28 = .ok (.bipush 42, 2) := by decide +kernel
theorem dX10_exchange_30 : decode cX10_exchange 30 = .ok (.aload_n 0, 1) := by decide +kernel
theorem dX10_exchange_31 : decode cX10_exchange 31 = .ok (.getfield 16, 3) := by decide +kernel
theorem dX10_exchange_34 : decode cX10_exchange 34 = .ok (.iconst 0, 1) := by decide +kernel
theorem dX10_exchange_35 : decode cX10_exchange 35 = .ok (.bipush 42, 2) := by decide +kernel
theorem dX10_exchange_37 : decode cX10_exchange 37 = .ok (.invokestatic 50, 3) := by decide +kernel
theorem dX10_exchange_40 : decode cX10_exchange 40 = .ok (.aload_n 0, 1) := by decide +kernel
theorem dX10_exchange_41 : decode cX10_exchange 41 = .ok (.getfield 38, 3) := by decide +kernel
theorem dX10_exchange_44 : decode cX10_exchange 44 = .ok (.iconst 0, 1) := by decide +kernel
theorem dX10_exchange_45 : decode cX10_exchange 45 = .ok (.aload_n 0, 1) := by decide +kernel
theorem dX10_exchange_46 : decode cX10_exchange 46 = .ok (.getfield 16, 3) := by decide +kernel
theorem dX10_exchange_49 : decode cX10_exchange 49 = .ok (.bipush 42, 2) := by decide +kernel
theorem dX10_exchange_51 : decode cX10_exchange 51 = .ok (.bipush 42, 2) := by decide +kernel
theorem dX10_exchange_53 : decode cX10_exchange 53 = .ok (.invokestatic 50, 3) := by decide +kernel
theorem dX10_exchange_56 : decode cX10_exchange 56 = .ok (.aload_n 0, 1) := by decide +kernel
theorem dX10_exchange_57 : decode cX10_exchange 57 = .ok (.getfield 16, 3) := by decide +kernel
theorem dX10_exchange_60 : decode cX10_exchange 60 = .ok (.iconst 0, 1) := by decide +kernel
theorem dX10_exchange_61 : decode cX10_exchange 61 = .ok (.invokestatic 128, 3) := by decide +kernel
theorem dX10_exchange_64 : decode cX10_exchange 64 = .ok (.ireturn, 1) := by decide +kernel
set_option maxRecDepth 20000 in
theorem ggX10_undo_X10_refused : GoodIn wsX10_undo wsX10_refused := goodIn_r _ [8, 9, 13, 14, 15, 16, 17, 18, 19, 20, 21, 22, 23, 24, 25, 26, 27] (by decide +kernel) (by decide +kernel)
set_option maxRecDepth 20000 in
theorem gX10_undo_X10_refused : GoodIn wsX10_undo (wsV RX10 102 RX10 yX10_refused wsX10_refused) := goodIn_app (goodIn_of _ (by decide +kernel)) ggX10_undo_X10_refused
set_option maxRecDepth 20000 in
theorem ggX10_undo_X10_copy : GoodIn wsX10_undo wsX10_copy := goodIn_r _ [12] (by decide +kernel) (by decide +kernel)
set_option maxRecDepth 20000 in
theorem gX10_undo_X10_copy : GoodIn wsX10_undo (va_wsS RX10 50 yX10_copy wsX10_copy) := goodIn_app (goodIn_of _ (by decide +kernel)) ggX10_undo_X10_copy
theorem dX10_undo_0 : decode cX10_undo 0 = .ok (.aload_n 0, 1) := by decide +kernel
theorem dX10_undo_1 : decode cX10_undo 1 = .ok (.aload_n 0, 1) := by decide +kernel
theorem dX10_undo_2 : decode cX10_undo 2 = .ok (.getfield 47, 3) := by decide +kernel
theorem dX10_undo_5 : decode cX10_undo 5 = .ok (.ifCond .ne 7, 3) := by decide +kernel
theorem dX10_undo_8 : decode cX10_undo 8 = .ok (.iconst 1, 1) := by decide +kernel
theorem dX10_undo_9 : decode cX10_undo 9 = .ok (.goto 4, 3) := by decide +kernel
theorem dX10_undo_12 : decode cX10_undo 12 = .ok (.iconst 0, 1) := by decide +kernel
theorem dX10_undo_13 : decode cX10_undo 13 = .ok (.invokevirtual 102, 3) := by decide +kernel
theorem dX10_undo_16 : decode cX10_undo 16 = .ok (.ifCond .eq 5, 3) := by decide +kernel
theorem dX10_undo_19 : decode cX10_undo 19 = .ok (.iconst 0, 1) := by decide +kernel
theorem dX10_undo_20 : decode cX10_undo 20 = .ok (.ireturn, 1) := by decide +kernel
theorem dX10_undo_21 : decode cX10_undo 21 = .ok (.aload_n 0, 1) := by decide +kernel
theorem dX10_undo_22 : decode cX10_undo 22 = .ok (.dup, 1) := by decide +kernel
theorem dX10_undo_23 : decode cX10_undo 23 = .ok (.getfield 47, 3) := by decide +kernel
theorem dX10_undo_26 : decode cX10_undo 26 = .ok (.iconst 1, 1) := by decide +kernel
theorem dX10_undo_27 : decode cX10_undo 27 = .ok (.isub, 1) := by decide +kernel
theorem dX10_undo_28 : decode cX10_undo 28 = .ok (.putfield 47, 3) := by decide +kernel
theorem dX10_undo_31 : decode cX10_undo 31 = .ok (.aload_n 0, 1) := by decide +kernel
theorem dX10_undo_32 : decode cX10_undo 32 = .ok (.getfield 22, 3) := by decide +kernel
theorem dX10_undo_35 : decode cX10_undo 35 = .ok (.bipush 84, 2) := by decide +kernel
theorem dX10_undo_37 : decode cX10_undo 37 = .ok (.aload_n 0, 1) := by decide +kernel
theorem dX10_undo_38 : decode cX10_undo 38 = .ok (.getfield 47, 3) := by decide +kernel
theorem dX10_undo_41 : decode cX10_undo 41 = .ok (.imul, 1) := by decide +kernel
theorem dX10_undo_42 : decode cX10_undo 42 = .ok (.aload_n 0, 1) := by decide +kernel
theorem dX10_undo_43 : decode cX10_undo 43 = .ok (.getfield 16, 3) := by decide +kernel
theorem dX10_undo_46 : decode cX10_undo 46 = .ok (.iconst 0, 1) := by decide +kernel
theorem dX10_undo_47 : decode cX10_undo 47 = .ok (.bipush 84, 2) := by decide +kernel
theorem dX10_undo_49 : decode cX10_undo 49 = .ok (.invokestatic 50, 3) := by decide +kernel
theorem dX10_undo_52 : decode cX10_undo 52 = .ok (.aload_n 0, 1) := by decide +kernel
theorem dX10_undo_53 : decode cX10_undo 53 = .ok (.getfield 47, 3) := by decide +kernel
theorem dX10_undo_56 : decode cX10_undo 56 = .ok (.ireturn, 1) := by decide +kernel
set_option maxRecDepth 20000 in
theorem ggX10_countIn_X10_length : GoodIn wsX10_countIn wsX10_length := goodIn_r _ [4, 5, 6, 7, 3, 8] (by decide +kernel) (by decide +kernel)
set_option maxRecDepth 20000 in
theorem gX10_countIn_X10_length : GoodIn wsX10_countIn (va_wsS RX10 60 yX10_length wsX10_length) := goodIn_app (goodIn_of _ (by decide +kernel)) ggX10_countIn_X10_length
set_option maxRecDepth 20000 in
theorem ggX10_countIn_X10_get : GoodIn wsX10_countIn wsX10_get := goodIn_r _ [11] (by decide +kernel) (by decide +kernel)
set_option maxRecDepth 20000 in
theorem gX10_countIn_X10_get : GoodIn wsX10_countIn (va_wsS RX10 76 yX10_get wsX10_get) := goodIn_app (goodIn_of _ (by decide +kernel)) ggX10_countIn_X10_get
theorem dX10_countIn_0 : decode cX10_countIn 0 = .ok (.iconst 0, 1) := by decide +kernel
theorem dX10_countIn_1 : decode cX10_countIn 1 = .ok (.istore 7, 2) := by decide +kernel
theorem dX10_countIn_3 : decode cX10_countIn 3 = .ok (.iload_n 2, 1) := by decide +kernel
theorem dX10_countIn_4 : decode cX10_countIn 4 = .ok (.istore 8, 2) := by decide +kernel
theorem dX10_countIn_6 : decode cX10_countIn 6 = .ok (.iload 8, 2) := by decide +kernel
theorem dX10_countIn_8 : decode cX10_countIn 8 = .ok (.bipush 6, 2) := by decide +kernel
theorem dX10_countIn_10 : decode cX10_countIn 10 = .ok (.if_icmp .ge 72, 3) := by decide +kernel
theorem dX10_countIn_13 : decode cX10_countIn 13 = .ok (.iload 8, 2) := by decide +kernel
theorem dX10_countIn_15 : decode cX10_countIn 15 = .ok (.iload_n 2, 1) := by decide +kernel
theorem dX10_countIn_16 : decode cX10_countIn 16 = .ok (.iload 4, 2) := by decide +kernel
theorem dX10_countIn_18 : decode cX10_countIn 18 = .ok (.iadd, 1) := by decide +kernel
theorem dX10_countIn_19 : decode cX10_countIn 19 = .ok (.if_icmp .ge 63, 3) := by decide +kernel
theorem dX10_countIn_22 : decode cX10_countIn 22 = .ok (.iload_n 3, 1) := by decide +kernel
theorem dX10_countIn_23 : decode cX10_countIn 23 = .ok (.istore 9, 2) := by decide +kernel
theorem dX10_countIn_25 : decode cX10_countIn 25 = .ok (.iload 9, 2) := by decide +kernel
theorem dX10_countIn_27 : decode cX10_countIn 27 = .ok (.aload_n 0, 1) := by decide +kernel
theorem dX10_countIn_28 : decode cX10_countIn 28 = .ok (.iload_n 1, 1) := by decide +kernel
theorem dX10_countIn_29 : decode cX10_countIn 29 = .ok (.iload 8, 2) := by decide +kernel
theorem dX10_countIn_31 : decode cX10_countIn 31 = .ok (.invokestatic 60, 3) := by decide +kernel
theorem dX10_countIn_34 : decode cX10_countIn 34 = .ok (.if_icmp .ge 42, 3) := by decide +kernel
theorem dX10_countIn_37 : decode cX10_countIn 37 = .ok (.iload 9, 2) := by decide +kernel
theorem dX10_countIn_39 : decode cX10_countIn 39 = .ok (.iload_n 3, 1) := by decide +kernel
theorem dX10_countIn_40 : decode cX10_countIn 40 = .ok (.iload 5, 2) := by decide +kernel
theorem dX10_countIn_42 : decode cX10_countIn 42 = .ok (.iadd, 1) := by decide +kernel
theorem dX10_countIn_43 : decode cX10_countIn 43 = .ok (.if_icmp .ge 33, 3) := by decide +kernel
theorem dX10_countIn_46 : decode cX10_countIn 46 = .ok (.iload 7, 2) := by decide +kernel
theorem dX10_countIn_48 : decode cX10_countIn 48 = .ok (.aload_n 0, 1) := by decide +kernel
theorem dX10_countIn_49 : decode cX10_countIn 49 = .ok (.iload_n 1, 1) := by decide +kernel
theorem dX10_countIn_50 : decode cX10_countIn 50 = .ok (.iload 8, 2) := by decide +kernel
theorem dX10_countIn_52 : decode cX10_countIn 52 = .ok (.iload 9, 2) := by decide +kernel
theorem dX10_countIn_54 : decode cX10_countIn 54 = .ok (.invokestatic 76, 3) := by decide +kernel
theorem dX10_countIn_57 : decode cX10_countIn 57 = .ok (.iload 6, 2) := by decide +kernel
theorem dX10_countIn_59 : decode cX10_countIn 59 = .ok (.if_icmp .gt 7, 3) := by decide +kernel
theorem dX10_countIn_62 : decode cX10_countIn 62 = .ok (.iconst 1, 1) := by decide +kernel
theorem dX10_countIn_63 : decode cX10_countIn 63 = .ok (.goto 4, 3) := by decide +kernel
theorem dX10_countIn_66 : decode cX10_countIn 66 = .ok (.iconst 0, 1) := by decide +kernel
theorem dX10_countIn_67 : decode cX10_countIn 67 = .ok (.iadd, 1) := by decide +kernel
theorem dX10_countIn_68 : decode cX10_countIn 68 = .ok (.istore 7, 2) := by decide +kernel
theorem dX10_countIn_70 : decode cX10_countIn 70 = .ok (.iinc 9 1, 3) := by decide +kernel
theorem dX10_countIn_73 : decode cX10_countIn 73 = .ok (.goto (-48), 3) := by decide +kernel
theorem dX10_countIn_76 : decode cX10_countIn 76 = .ok (.iinc 8 1, 3) := by decide +kernel
theorem dX10_countIn_79 : decode cX10_countIn 79 = .ok (.goto (-73), 3) := by decide +kernel
theorem dX10_countIn_82 : decode cX10_countIn 82 = .ok (.iload 7, 2) := by decide +kernel
theorem dX10_countIn_84 : decode cX10_countIn 84 = .ok (.ireturn, 1) := by decide +kernel
set_option maxRecDepth 20000 in
theorem ggX10_count_X10_isTable : GoodIn wsX10_count wsX10_isTable := goodIn_r _ [5, 6, 7, 4, 8] (by decide +kernel) (by decide +kernel)
set_option maxRecDepth 20000 in
theorem gX10_count_X10_isTable : GoodIn wsX10_count (va_wsS RX10 64 yX10_isTable wsX10_isTable) := goodIn_app (goodIn_of _ (by decide +kernel)) ggX10_count_X10_isTable
set_option maxRecDepth 20000 in
theorem ggX10_count_X10_isNumber : GoodIn wsX10_count wsX10_isNumber := goodIn_r _ [11, 12, 6, 7, 4, 8] (by decide +kernel) (by decide +kernel)
set_option maxRecDepth 20000 in
theorem gX10_count_X10_isNumber : GoodIn wsX10_count (va_wsS RX10 156 yX10_isNumber wsX10_isNumber) := goodIn_app (goodIn_of _ (by decide +kernel)) ggX10_count_X10_isNumber
set_option maxRecDepth 20000 in
theorem ggX10_count_X10_refused : GoodIn wsX10_count wsX10_refused := goodIn_r _ [16, 17, 28, 29, 30, 31, 32, 33, 34, 35, 36, 37, 38, 39, 40, 41, 42] (by decide +kernel) (by decide +kernel)
set_option maxRecDepth 20000 in
theorem gX10_count_X10_refused : GoodIn wsX10_count (wsV RX10 102 RX10 yX10_refused wsX10_refused) := goodIn_app (goodIn_of _ (by decide +kernel)) ggX10_count_X10_refused
set_option maxRecDepth 20000 in
theorem ggX10_count_X10_countIn : GoodIn wsX10_count wsX10_countIn := goodIn_r _ [20, 21, 22, 4, 23, 24, 6, 7, 8, 25, 26, 27] (by decide +kernel) (by decide +kernel)
set_option maxRecDepth 20000 in
theorem gX10_count_X10_countIn : GoodIn wsX10_count (va_wsS RX10 175 yX10_countIn wsX10_countIn) := goodIn_app (goodIn_of _ (by decide +kernel)) ggX10_count_X10_countIn
theorem dX10_count_0 : decode cX10_count 0 = .ok (.aload_n 0, 1) := by decide +kernel
theorem dX10_count_1 : decode cX10_count 1 = .ok (.iload_n 1, 1) := by decide +kernel
theorem dX10_count_2 : decode cX10_count 2 = .ok (.invokestatic 64, 3) := by decide +kernel
theorem dX10_count_5 : decode cX10_count 5 = .ok (.ifCond .ne 7, 3) := by decide +kernel
theorem dX10_count_8 : decode cX10_count 8 = .ok (.iconst 1, 1) := by decide +kernel
theorem dX10_count_9 : decode cX10_count 9 = .ok (.goto 15, 3) := by decide +kernel
theorem dX10_count_12 : decode cX10_count 12 = .ok (.iload_n 2, 1) := by decide +kernel
theorem dX10_count_13 : decode cX10_count 13 = .ok (.invokestatic 156, 3) := by decide +kernel
theorem dX10_count_16 : decode cX10_count 16 = .ok (.ifCond .ne 7, 3) := by decide +kernel
theorem dX10_count_19 : decode cX10_count 19 = .ok (.iconst 2, 1) := by decide +kernel
theorem dX10_count_20 : decode cX10_count 20 = .ok (.goto 4, 3) := by decide +kernel
theorem dX10_count_23 : decode cX10_count 23 = .ok (.iconst 0, 1) := by decide +kernel
theorem dX10_count_24 : decode cX10_count 24 = .ok (.invokevirtual 102, 3) := by decide +kernel
theorem dX10_count_27 : decode cX10_count 27 = .ok (.ifCond .eq 5, 3) := by decide +kernel
theorem dX10_count_30 : decode cX10_count 30 = .ok (.iconst 0, 1) := by decide +kernel
theorem dX10_count_31 : decode cX10_count 31 = .ok (.ireturn, 1) := by decide +kernel
theorem dX10_count_32 : decode cX10_count 32 = .ok (.aload_n 0, 1) := by decide +kernel
theorem dX10_count_33 : decode cX10_count 33 = .ok (.getfield 16, 3) := by decide +kernel
theorem dX10_count_36 : decode cX10_count 36 = .ok (.iload_n 1, 1) := by decide +kernel
theorem dX10_count_37 : decode cX10_count 37 = .ok (.iconst 0, 1) := by decide +kernel
theorem dX10_count_38 : decode cX10_count 38 = .ok (.iconst 0, 1) := by decide +kernel
theorem dX10_count_39 : decode cX10_count 39 = .ok (.bipush 6, 2) := by decide +kernel
theorem dX10_count_41 : decode cX10_count 41 = .ok (.bipush 6, 2) := by decide +kernel
theorem dX10_count_43 : decode cX10_count 43 = .ok (.iload_n 2, 1) := by decide +kernel
theorem dX10_count_44 : decode cX10_count 44 = .ok (.invokestatic 175, 3) := by decide +kernel
theorem dX10_count_47 : decode cX10_count 47 = .ok (.ireturn, 1) := by decide +kernel
set_option maxRecDepth 20000 in
theorem ggX10_walk_X10_isTable : GoodIn wsX10_walk wsX10_isTable := goodIn_r _ [6, 7, 8, 5, 9] (by decide +kernel) (by decide +kernel)
set_option maxRecDepth 20000 in
theorem gX10_walk_X10_isTable : GoodIn wsX10_walk (va_wsS RX10 64 yX10_isTable wsX10_isTable) := goodIn_app (goodIn_of _ (by decide +kernel)) ggX10_walk_X10_isTable
set_option maxRecDepth 20000 in
theorem ggX10_walk_X10_isNumber : GoodIn wsX10_walk wsX10_isNumber := goodIn_r _ [12, 13, 7, 8, 5, 9] (by decide +kernel) (by decide +kernel)
set_option maxRecDepth 20000 in
theorem gX10_walk_X10_isNumber : GoodIn wsX10_walk (va_wsS RX10 156 yX10_isNumber wsX10_isNumber) := goodIn_app (goodIn_of _ (by decide +kernel)) ggX10_walk_X10_isNumber
set_option maxRecDepth 20000 in
theorem ggX10_walk_X10_in : GoodIn wsX10_walk wsX10_in := goodIn_r _ [9] (by decide +kernel) (by decide +kernel)
set_option maxRecDepth 20000 in
theorem gX10_walk_X10_in : GoodIn wsX10_walk (va_wsS RX10 54 yX10_in wsX10_in) := goodIn_app (goodIn_of _ (by decide +kernel)) ggX10_walk_X10_in
set_option maxRecDepth 20000 in
theorem ggX10_walk_X10_refused : GoodIn wsX10_walk wsX10_refused := goodIn_r _ [17, 18, 26, 27, 28, 29, 30, 31, 32, 33, 34, 35, 36, 37, 38, 39, 40] (by decide +kernel) (by decide +kernel)
set_option maxRecDepth 20000 in
theorem gX10_walk_X10_refused : GoodIn wsX10_walk (wsV RX10 102 RX10 yX10_refused wsX10_refused) := goodIn_app (goodIn_of _ (by decide +kernel)) ggX10_walk_X10_refused
set_option maxRecDepth 20000 in
theorem ggX10_walk_X10_length : GoodIn wsX10_walk wsX10_length := goodIn_r _ [21, 22, 7, 8, 5, 9] (by decide +kernel) (by decide +kernel)
set_option maxRecDepth 20000 in
theorem gX10_walk_X10_length : GoodIn wsX10_walk (va_wsS RX10 60 yX10_length wsX10_length) := goodIn_app (goodIn_of _ (by decide +kernel)) ggX10_walk_X10_length
set_option maxRecDepth 20000 in
theorem ggX10_walk_X10_get : GoodIn wsX10_walk wsX10_get := goodIn_r _ [25] (by decide +kernel) (by decide +kernel)
set_option maxRecDepth 20000 in
theorem gX10_walk_X10_get : GoodIn wsX10_walk (va_wsS RX10 76 yX10_get wsX10_get) := goodIn_app (goodIn_of _ (by decide +kernel)) ggX10_walk_X10_get
theorem dX10_walk_0 : decode cX10_walk 0 = .ok (.aload_n 0, 1) := by decide +kernel
theorem dX10_walk_1 : decode cX10_walk 1 = .ok (.iload_n 1, 1) := by decide +kernel
theorem dX10_walk_2 : decode cX10_walk 2 = .ok (.invokestatic 64, 3) := by decide +kernel
theorem dX10_walk_5 : decode cX10_walk 5 = .ok (.ifCond .ne 7, 3) := by decide +kernel
theorem dX10_walk_8 : decode cX10_walk 8 = .ok (.iconst 1, 1) := by decide +kernel
theorem dX10_walk_9 : decode cX10_walk 9 = .ok (.goto 27, 3) := by decide +kernel
theorem dX10_walk_12 : decode cX10_walk 12 = .ok (.iload_n 2, 1) := by decide +kernel
theorem dX10_walk_13 : decode cX10_walk 13 = .ok (.invokestatic 156, 3) := by decide +kernel
theorem dX10_walk_16 : decode cX10_walk 16 = .ok (.ifCond .eq 15, 3) := by decide +kernel
theorem dX10_walk_19 : decode cX10_walk 19 = .ok (.iload_n 3, 1) := by decide +kernel
theorem dX10_walk_20 : decode cX10_walk 20 = .ok (.i2l, 1) := by decide +kernel
theorem dX10_walk_21 : decode cX10_walk 21 = .ok (.lconst 0, 1) := by decide +kernel
theorem dX10_walk_22 : decode cX10_walk 22 = .ok (.ldc2_w 179, 3) := by decide +kernel
theorem dX10_walk_25 : decode cX10_walk 25 = .ok (.invokestatic 54, 3) := by decide +kernel
theorem dX10_walk_28 : decode cX10_walk 28 = .ok (.ifCond .ne 7, 3) := by decide +kernel
theorem dX10_walk_31 : decode cX10_walk 31 = .ok (.iconst 2, 1) := by decide +kernel
theorem dX10_walk_32 : decode cX10_walk 32 = .ok (.goto 4, 3) := by decide +kernel
theorem dX10_walk_35 : decode cX10_walk 35 = .ok (.iconst 0, 1) := by decide +kernel
theorem dX10_walk_36 : decode cX10_walk 36 = .ok (.invokevirtual 102, 3) := by decide +kernel
theorem dX10_walk_39 : decode cX10_walk 39 = .ok (.ifCond .eq 5, 3) := by decide +kernel
theorem dX10_walk_42 : decode cX10_walk 42 = .ok (.iconst 0, 1) := by decide +kernel
theorem dX10_walk_43 : decode cX10_walk 43 = .ok (.ireturn, 1) := by decide +kernel
theorem dX10_walk_44 : decode cX10_walk 44 = .ok (.iconst 0, 1) := by decide +kernel
theorem dX10_walk_45 : decode cX10_walk 45 = .ok (.istore 4, 2) := by decide +kernel
theorem dX10_walk_47 : decode cX10_walk 47 = .ok (.aload_n 0, 1) := by decide +kernel
theorem dX10_walk_48 : decode cX10_walk 48 = .ok (.getfield 16, 3) := by decide +kernel
theorem dX10_walk_51 : decode cX10_walk 51 = .ok (.iload_n 1, 1) := by decide +kernel
theorem dX10_walk_52 : decode cX10_walk 52 = .ok (.iconst 0, 1) := by decide +kernel
theorem dX10_walk_53 : decode cX10_walk 53 = .ok (.invokestatic 60, 3) := by decide +kernel
theorem dX10_walk_56 : decode cX10_walk 56 = .ok (.iconst 1, 1) := by decide +kernel
theorem dX10_walk_57 : decode cX10_walk 57 = .ok (.isub, 1) := by decide +kernel
theorem dX10_walk_58 : decode cX10_walk 58 = .ok (.istore 5, 2) := by decide +kernel
theorem dX10_walk_60 : decode cX10_walk 60 = .ok (.iconst 0, 1) := by decide +kernel
theorem dX10_walk_61 : decode cX10_walk 61 = .ok (.istore 6, 2) := by decide +kernel
theorem dX10_walk_63 : decode cX10_walk 63 = .ok (.bipush (-9), 2) := by decide +kernel
theorem dX10_walk_65 : decode cX10_walk 65 = .ok (.istore 7, 2) := by decide +kernel
theorem dX10_walk_67 : decode cX10_walk 67 = .ok (.bipush (-9), 2) := by decide +kernel
theorem dX10_walk_69 : decode cX10_walk 69 = .ok (.istore 8, 2) := by decide +kernel
theorem dX10_walk_71 : decode cX10_walk 71 = .ok (.iload 5, 2) := by decide +kernel
theorem dX10_walk_73 : decode cX10_walk 73 = .ok (.ifCond .lt 104, 3) := by decide +kernel
theorem dX10_walk_76 : decode cX10_walk 76 = .ok (.aload_n 0, 1) := by decide +kernel
theorem dX10_walk_77 : decode cX10_walk 77 = .ok (.getfield 16, 3) := by decide +kernel
theorem dX10_walk_80 : decode cX10_walk 80 = .ok (.iload_n 1, 1) := by decide +kernel
theorem dX10_walk_81 : decode cX10_walk 81 = .ok (.iload 4, 2) := by decide +kernel
theorem dX10_walk_83 : decode cX10_walk 83 = .ok (.iload 5, 2) := by decide +kernel
theorem dX10_walk_85 : decode cX10_walk 85 = .ok (.invokestatic 76, 3) := by decide +kernel
theorem dX10_walk_88 : decode cX10_walk 88 = .ok (.istore 9, 2) := by decide +kernel
theorem dX10_walk_90 : decode cX10_walk 90 = .ok (.iinc 6 1, 3) := by decide +kernel
theorem dX10_walk_93 : decode cX10_walk 93 = .ok (.bipush 10, 2) := by decide +kernel
theorem dX10_walk_95 : decode cX10_walk 95 = .ok (.iload 4, 2) := by decide +kernel
theorem dX10_walk_97 : decode cX10_walk 97 = .ok (.imul, 1) := by decide +kernel
theorem dX10_walk_98 : decode cX10_walk 98 = .ok (.iload 5, 2) := by decide +kernel
theorem dX10_walk_100 : decode cX10_walk 100 = .ok (.iadd, 1) := by decide +kernel
theorem dX10_walk_101 : decode cX10_walk 101 = .ok (.istore 8, 2) := by decide +kernel
theorem dX10_walk_103 : decode cX10_walk 103 = .ok (.iload 7, 2) := by decide +kernel
theorem dX10_walk_105 : decode cX10_walk 105 = .ok (.bipush (-9), 2) := by decide +kernel
theorem dX10_walk_107 : decode cX10_walk 107 = .ok (.if_icmp .ne 14, 3) := by decide +kernel
theorem dX10_walk_110 : decode cX10_walk 110 = .ok (.iload 9, 2) := by decide +kernel
theorem dX10_walk_112 : decode cX10_walk 112 = .ok (.iload_n 2, 1) := by decide +kernel
theorem dX10_walk_113 : decode cX10_walk 113 = .ok (.if_icmp .ne 8, 3) := by decide +kernel
theorem dX10_walk_116 : decode cX10_walk 116 = .ok (.iload 8, 2) := by decide +kernel
theorem dX10_walk_118 : decode cX10_walk 118 = .ok (.goto 5, 3) := by decide +kernel
theorem dX10_walk_121 : decode cX10_walk 121 = .ok (.iload 7, 2) := by decide +kernel
theorem dX10_walk_123 : decode cX10_walk 123 = .ok (.istore 7, 2) := by decide +kernel
theorem dX10_walk_125 : decode cX10_walk 125 = .ok (.iload 9, 2) := by decide +kernel
theorem dX10_walk_127 : decode cX10_walk 127 = .ok (.iload_n 2, 1) := by decide +kernel
theorem dX10_walk_128 : decode cX10_walk 128 = .ok (.if_icmp .le 9, 3) := by decide +kernel
theorem dX10_walk_131 : decode cX10_walk 131 = .ok (.iinc 5 (-1), 3) := by decide +kernel
theorem dX10_walk_134 : decode cX10_walk 134 = .ok (.goto 40, 3) := by decide +kernel
theorem dX10_walk_137 : decode cX10_walk 137 = .ok (.iinc 4 1, 3) := by decide +kernel
theorem dX10_walk_140 : decode cX10_walk 140 = .ok (.iload 5, 2) := by decide +kernel
theorem dX10_walk_142 : decode cX10_walk 142 = .ok (.aload_n 0, 1) := by decide +kernel
theorem dX10_walk_143 : decode cX10_walk 143 = .ok (.getfield 16, 3) := by decide +kernel
theorem dX10_walk_146 : decode cX10_walk 146 = .ok (.iload_n 1, 1) := by decide +kernel
theorem dX10_walk_147 : decode cX10_walk 147 = .ok (.iload 4, 2) := by decide +kernel
theorem dX10_walk_149 : decode cX10_walk 149 = .ok (.invokestatic 60, 3) := by decide +kernel
theorem dX10_walk_152 : decode cX10_walk 152 = .ok (.if_icmp .ge 8, 3) := by decide +kernel
theorem dX10_walk_155 : decode cX10_walk 155 = .ok (.iload 5, 2) := by decide +kernel
theorem dX10_walk_157 : decode cX10_walk 157 = .ok (.goto 15, 3) := by decide +kernel
theorem dX10_walk_160 : decode cX10_walk 160 = .ok (.aload_n 0, 1) := by decide +kernel
theorem dX10_walk_161 : decode cX10_walk 161 = .ok (.getfield 16, 3) := by decide +kernel
theorem dX10_walk_164 : decode cX10_walk 164 = .ok (.iload_n 1, 1) := by decide +kernel
theorem dX10_walk_165 : decode cX10_walk 165 = .ok (.iload 4, 2) := by decide +kernel
theorem dX10_walk_167 : decode cX10_walk 167 = .ok (.invokestatic 60, 3) := by decide +kernel
theorem dX10_walk_170 : decode cX10_walk 170 = .ok (.iconst 1, 1) := by decide +kernel
theorem dX10_walk_171 : decode cX10_walk 171 = .ok (.isub, 1) := by decide +kernel
theorem dX10_walk_172 : decode cX10_walk 172 = .ok (.istore 5, 2) := by decide +kernel
theorem dX10_walk_174 : decode cX10_walk 174 = .ok (.goto (-103), 3) := by decide +kernel
theorem dX10_walk_177 : decode cX10_walk 177 = .ok (.iload_n 3, 1) := by decide +kernel
theorem dX10_walk_178 : decode cX10_walk 178 = .ok (.ifCond .ne 8, 3) := by decide +kernel
theorem dX10_walk_181 : decode cX10_walk 181 = .ok (.iload 6, 2) := by decide +kernel
theorem dX10_walk_183 : decode cX10_walk 183 = .ok (.goto 15, 3) := by decide +kernel
theorem dX10_walk_186 : decode cX10_walk 186 = .ok (.iload_n 3, 1) := by decide +kernel
theorem dX10_walk_187 : decode cX10_walk 187 = .ok (.iconst 1, 1) := by decide +kernel
theorem dX10_walk_188 : decode cX10_walk 188 = .ok (.if_icmp .ne 8, 3) := by decide +kernel
theorem dX10_walk_191 : decode cX10_walk 191 = .ok (.iload 7, 2) := by decide +kernel
theorem dX10_walk_193 : decode cX10_walk 193 = .ok (.goto 5, 3) := by decide +kernel
theorem dX10_walk_196 : decode cX10_walk 196 = .ok (.iload 8, 2) := by decide +kernel
theorem dX10_walk_198 : decode cX10_walk 198 = .ok (.ireturn, 1) := by decide +kernel
set_option maxRecDepth 20000 in
theorem ggX10_rankOf_X10_get : GoodIn wsX10_rankOf wsX10_get := goodIn_r _ [4] (by decide +kernel) (by decide +kernel)
set_option maxRecDepth 20000 in
theorem gX10_rankOf_X10_get : GoodIn wsX10_rankOf (va_wsS RX10 76 yX10_get wsX10_get) := goodIn_app (goodIn_of _ (by decide +kernel)) ggX10_rankOf_X10_get
set_option maxRecDepth 20000 in
theorem ggX10_rankOf_X10_length : GoodIn wsX10_rankOf wsX10_length := goodIn_r _ [7, 8, 9, 10, 3, 11] (by decide +kernel) (by decide +kernel)
set_option maxRecDepth 20000 in
theorem gX10_rankOf_X10_length : GoodIn wsX10_rankOf (va_wsS RX10 60 yX10_length wsX10_length) := goodIn_app (goodIn_of _ (by decide +kernel)) ggX10_rankOf_X10_length
theorem dX10_rankOf_0 : decode cX10_rankOf 0 = .ok (.aload_n 0, 1) := by decide +kernel
theorem dX10_rankOf_1 : decode cX10_rankOf 1 = .ok (.iload_n 1, 1) := by decide +kernel
theorem dX10_rankOf_2 : decode cX10_rankOf 2 = .ok (.iload_n 2, 1) := by decide +kernel
theorem dX10_rankOf_3 : decode cX10_rankOf 3 = .ok (.iload_n 3, 1) := by decide +kernel
theorem dX10_rankOf_4 : decode cX10_rankOf 4 = .ok (.invokestatic 76, 3) := by decide +kernel
theorem dX10_rankOf_7 : decode cX10_rankOf 7 = .ok (.istore 4, 2) := by decide +kernel
theorem dX10_rankOf_9 : decode cX10_rankOf 9 = .ok (.iconst 0, 1) := by decide +kernel
theorem dX10_rankOf_10 : decode cX10_rankOf 10 = .ok (.istore 5, 2) := by decide +kernel
theorem dX10_rankOf_12 : decode cX10_rankOf 12 = .ok (.iconst 0, 1) := by decide +kernel
theorem dX10_rankOf_13 : decode cX10_rankOf 13 = .ok (.istore 6, 2) := by decide +kernel
theorem dX10_rankOf_15 : decode cX10_rankOf 15 = .ok (.iload 6, 2) := by decide +kernel
theorem dX10_rankOf_17 : decode cX10_rankOf 17 = .ok (.bipush 6, 2) := by decide +kernel
theorem dX10_rankOf_19 : decode cX10_rankOf 19 = .ok (.if_icmp .ge 82, 3) := by decide +kernel
theorem dX10_rankOf_22 : decode cX10_rankOf 22 = .ok (.iconst 0, 1) := by decide +kernel
theorem dX10_rankOf_23 : decode cX10_rankOf 23 = .ok (.istore 7, 2) := by decide +kernel
theorem dX10_rankOf_25 : decode cX10_rankOf 25 = .ok (.iload 7, 2) := by decide +kernel
theorem dX10_rankOf_27 : decode cX10_rankOf 27 = .ok (.aload_n 0, 1) := by decide +kernel
theorem dX10_rankOf_28 : decode cX10_rankOf 28 = .ok (.iload_n 1, 1) := by decide +kernel
theorem dX10_rankOf_29 : decode cX10_rankOf 29 = .ok (.iload 6, 2) := by decide +kernel
theorem dX10_rankOf_31 : decode cX10_rankOf 31 = .ok (.invokestatic 60, 3) := by decide +kernel
theorem dX10_rankOf_34 : decode cX10_rankOf 34 = .ok (.if_icmp .ge 61, 3) := by decide +kernel
theorem dX10_rankOf_37 : decode cX10_rankOf 37 = .ok (.aload_n 0, 1) := by decide +kernel
theorem dX10_rankOf_38 : decode cX10_rankOf 38 = .ok (.iload_n 1, 1) := by decide +kernel
theorem dX10_rankOf_39 : decode cX10_rankOf 39 = .ok (.iload 6, 2) := by decide +kernel
theorem dX10_rankOf_41 : decode cX10_rankOf 41 = .ok (.iload 7, 2) := by decide +kernel
theorem dX10_rankOf_43 : decode cX10_rankOf 43 = .ok (.invokestatic 76, 3) := by decide +kernel
theorem dX10_rankOf_46 : decode cX10_rankOf 46 = .ok (.istore 8, 2) := by decide +kernel
theorem dX10_rankOf_48 : decode cX10_rankOf 48 = .ok (.iload 5, 2) := by decide +kernel
theorem dX10_rankOf_50 : decode cX10_rankOf 50 = .ok (.iload 8, 2) := by decide +kernel
theorem dX10_rankOf_52 : decode cX10_rankOf 52 = .ok (.iload 4, 2) := by decide +kernel
theorem dX10_rankOf_54 : decode cX10_rankOf 54 = .ok (.if_icmp .lt 27, 3) := by decide +kernel
theorem dX10_rankOf_57 : decode cX10_rankOf 57 = .ok (.iload 8, 2) := by decide +kernel
theorem dX10_rankOf_59 : decode cX10_rankOf 59 = .ok (.iload 4, 2) := by decide +kernel
theorem dX10_rankOf_61 : decode cX10_rankOf 61 = .ok (.if_icmp .ne 24, 3) := by decide +kernel
theorem dX10_rankOf_64 : decode cX10_rankOf 64 = .ok (.bipush 10, 2) := by decide +kernel
theorem dX10_rankOf_66 : decode cX10_rankOf 66 = .ok (.iload 6, 2) := by decide +kernel
theorem dX10_rankOf_68 : decode cX10_rankOf 68 = .ok (.imul, 1) := by decide +kernel
theorem dX10_rankOf_69 : decode cX10_rankOf 69 = .ok (.iload 7, 2) := by decide +kernel
theorem dX10_rankOf_71 : decode cX10_rankOf 71 = .ok (.iadd, 1) := by decide +kernel
theorem dX10_rankOf_72 : decode cX10_rankOf 72 = .ok (.bipush 10, 2) := by decide +kernel
theorem dX10_rankOf_74 : decode cX10_rankOf 74 = .ok (.iload_n 2, 1) := by decide +kernel
theorem dX10_rankOf_75 : decode cX10_rankOf 75 = .ok (.imul, 1) := by decide +kernel
theorem dX10_rankOf_76 : decode cX10_rankOf 76 = .ok (.iload_n 3, 1) := by decide +kernel
theorem dX10_rankOf_77 : decode cX10_rankOf 77 = .ok (.iadd, 1) := by decide +kernel
theorem dX10_rankOf_78 : decode cX10_rankOf 78 = .ok (.if_icmp .ge 7, 3) := by decide +kernel
theorem dX10_rankOf_81 : decode cX10_rankOf 81 = .ok (.iconst 1, 1) := by decide +kernel
theorem dX10_rankOf_82 : decode cX10_rankOf 82 = .ok (.goto 4, 3) := by decide +kernel
theorem dX10_rankOf_85 : decode cX10_rankOf 85 = .ok (.iconst 0, 1) := by decide +kernel
theorem dX10_rankOf_86 : decode cX10_rankOf 86 = .ok (.iadd, 1) := by decide +kernel
theorem dX10_rankOf_87 : decode cX10_rankOf 87 = .ok (.istore 5, 2) := by decide +kernel
theorem dX10_rankOf_89 : decode cX10_rankOf 89 = .ok (.iinc 7 1, 3) := by decide +kernel
theorem dX10_rankOf_92 : decode cX10_rankOf 92 = .ok (.goto (-67), 3) := by decide +kernel
theorem dX10_rankOf_95 : decode cX10_rankOf 95 = .ok (.iinc 6 1, 3) := by decide +kernel
theorem dX10_rankOf_98 : decode cX10_rankOf 98 = .ok (.goto (-83), 3) := by decide +kernel
theorem dX10_rankOf_101 : decode cX10_rankOf 101 = .ok (.iload 5, 2) := by decide +kernel
theorem dX10_rankOf_103 : decode cX10_rankOf 103 = .ok (.ireturn, 1) := by decide +kernel
set_option maxRecDepth 20000 in
theorem ggX10_kthPlace_X10_length : GoodIn wsX10_kthPlace wsX10_length := goodIn_r _ [4, 5, 6, 7, 3, 8] (by decide +kernel) (by decide +kernel)
set_option maxRecDepth 20000 in
theorem gX10_kthPlace_X10_length : GoodIn wsX10_kthPlace (va_wsS RX10 60 yX10_length wsX10_length) := goodIn_app (goodIn_of _ (by decide +kernel)) ggX10_kthPlace_X10_length
set_option maxRecDepth 20000 in
theorem ggX10_kthPlace_X10_rankOf : GoodIn wsX10_kthPlace wsX10_rankOf := goodIn_r _ [11, 12, 13, 3, 14, 1, 2, 4, 5, 6, 7, 8] (by decide +kernel) (by decide +kernel)
set_option maxRecDepth 20000 in
theorem gX10_kthPlace_X10_rankOf : GoodIn wsX10_kthPlace (va_wsS RX10 181 yX10_rankOf wsX10_rankOf) := goodIn_app (goodIn_of _ (by decide +kernel)) ggX10_kthPlace_X10_rankOf
theorem dX10_kthPlace_0 : decode cX10_kthPlace 0 = .ok (.iconst 0, 1) := by decide +kernel
theorem dX10_kthPlace_1 : decode cX10_kthPlace 1 = .ok (.istore_n 3, 1) := by decide +kernel
theorem dX10_kthPlace_2 : decode cX10_kthPlace 2 = .ok (.iload_n 3, 1) := by decide +kernel
theorem dX10_kthPlace_3 : decode cX10_kthPlace 3 = .ok (.bipush 6, 2) := by decide +kernel
theorem dX10_kthPlace_5 : decode cX10_kthPlace 5 = .ok (.if_icmp .ge 49, 3) := by decide +kernel
theorem dX10_kthPlace_8 : decode cX10_kthPlace 8 = .ok (.iconst 0, 1) := by decide +kernel
theorem dX10_kthPlace_9 : decode cX10_kthPlace 9 = .ok (.istore 4, 2) := by decide +kernel
theorem dX10_kthPlace_11 : decode cX10_kthPlace 11 = .ok (.iload 4, 2) := by decide +kernel
theorem dX10_kthPlace_13 : decode cX10_kthPlace 13 = .ok (.aload_n 0, 1) := by decide +kernel
theorem dX10_kthPlace_14 : decode cX10_kthPlace 14 = .ok (.iload_n 1, 1) := by decide +kernel
theorem dX10_kthPlace_15 : decode cX10_kthPlace 15 = .ok (.iload_n 3, 1) := by decide +kernel
theorem dX10_kthPlace_16 : decode cX10_kthPlace 16 = .ok (.invokestatic 60, 3) := by decide +kernel
theorem dX10_kthPlace_19 : decode cX10_kthPlace 19 = .ok (.if_icmp .ge 29, 3) := by decide +kernel
theorem dX10_kthPlace_22 : decode cX10_kthPlace 22 = .ok (.aload_n 0, 1) := by decide +kernel
theorem dX10_kthPlace_23 : decode cX10_kthPlace 23 = .ok (.iload_n 1, 1) := by decide +kernel
theorem dX10_kthPlace_24 : decode cX10_kthPlace 24 = .ok (.iload_n 3, 1) := by decide +kernel
theorem dX10_kthPlace_25 : decode cX10_kthPlace 25 = .ok (.iload 4, 2) := by decide +kernel
theorem dX10_kthPlace_27 : decode cX10_kthPlace 27 = .ok (.invokestatic 181, 3) := by decide +kernel
theorem dX10_kthPlace_30 : decode cX10_kthPlace 30 = .ok (.iload_n 2, 1) := by decide +kernel
theorem dX10_kthPlace_31 : decode cX10_kthPlace 31 = .ok (.if_icmp .ne 11, 3) := by decide +kernel
theorem dX10_kthPlace_34 : decode cX10_kthPlace 34 = .ok (.bipush 10, 2) := by decide +kernel
theorem dX10_kthPlace_36 : decode cX10_kthPlace 36 = .ok (.iload_n 3, 1) := by decide +kernel
theorem dX10_kthPlace_37 : decode cX10_kthPlace 37 = .ok (.imul, 1) := by decide +kernel
theorem dX10_kthPlace_38 : decode cX10_kthPlace 38 = .ok (.iload 4, 2) := by decide +kernel
theorem dX10_kthPlace_40 : decode cX10_kthPlace 40 = .ok (.iadd, 1) := by decide +kernel
theorem dX10_kthPlace_41 : decode cX10_kthPlace 41 = .ok (.ireturn, 1) := by decide +kernel
theorem dX10_kthPlace_42 : decode cX10_kthPlace 42 = .ok (.iinc 4 1, 3) := by decide +kernel
theorem dX10_kthPlace_45 : decode cX10_kthPlace 45 = .ok (.goto (-34), 3) := by decide +kernel
theorem dX10_kthPlace_48 : decode cX10_kthPlace 48 = .ok (.iinc 3 1, 3) := by decide +kernel
theorem dX10_kthPlace_51 : decode cX10_kthPlace 51 = .ok (.goto (-49), 3) := by decide +kernel
theorem dX10_kthPlace_54 : decode cX10_kthPlace 54 = .ok (.bipush (-9), 2) := by decide +kernel
theorem dX10_kthPlace_56 : decode cX10_kthPlace 56 = .ok (.ireturn, 1) := by decide +kernel
set_option maxRecDepth 20000 in
theorem ggX10_kth_X10_isTable : GoodIn wsX10_kth wsX10_isTable := goodIn_r _ [5, 6, 7, 4, 8] (by decide +kernel) (by decide +kernel)
set_option maxRecDepth 20000 in
theorem gX10_kth_X10_isTable : GoodIn wsX10_kth (va_wsS RX10 64 yX10_isTable wsX10_isTable) := goodIn_app (goodIn_of _ (by decide +kernel)) ggX10_kth_X10_isTable
set_option maxRecDepth 20000 in
theorem ggX10_kth_X10_refused : GoodIn wsX10_kth wsX10_refused := goodIn_r _ [12, 13, 27, 28, 29, 30, 31, 32, 33, 34, 35, 36, 37, 38, 39, 40, 41] (by decide +kernel) (by decide +kernel)
set_option maxRecDepth 20000 in
theorem gX10_kth_X10_refused : GoodIn wsX10_kth (wsV RX10 102 RX10 yX10_refused wsX10_refused) := goodIn_app (goodIn_of _ (by decide +kernel)) ggX10_kth_X10_refused
set_option maxRecDepth 20000 in
theorem ggX10_kth_X10_kthPlace : GoodIn wsX10_kth wsX10_kthPlace := goodIn_r _ [16, 17, 18, 4, 19, 20, 6, 7, 8, 21, 22, 23, 24, 25, 26] (by decide +kernel) (by decide +kernel)
set_option maxRecDepth 20000 in
theorem gX10_kth_X10_kthPlace : GoodIn wsX10_kth (va_wsS RX10 184 yX10_kthPlace wsX10_kthPlace) := goodIn_app (goodIn_of _ (by decide +kernel)) ggX10_kth_X10_kthPlace
set_option maxRecDepth 20000 in
theorem ggX10_kth_X10_get : GoodIn wsX10_kth wsX10_get := goodIn_r _ [26] (by decide +kernel) (by decide +kernel)
set_option maxRecDepth 20000 in
theorem gX10_kth_X10_get : GoodIn wsX10_kth (va_wsS RX10 76 yX10_get wsX10_get) := goodIn_app (goodIn_of _ (by decide +kernel)) ggX10_kth_X10_get
theorem dX10_kth_0 : decode cX10_kth 0 = .ok (.aload_n 0, 1) := by decide +kernel
theorem dX10_kth_1 : decode cX10_kth 1 = .ok (.iload_n 1, 1) := by decide +kernel
theorem dX10_kth_2 : decode cX10_kth 2 = .ok (.invokestatic 64, 3) := by decide +kernel
theorem dX10_kth_5 : decode cX10_kth 5 = .ok (.ifCond .ne 7, 3) := by decide +kernel
theorem dX10_kth_8 : decode cX10_kth 8 = .ok (.iconst 1, 1) := by decide +kernel
theorem dX10_kth_9 : decode cX10_kth 9 = .ok (.goto 12, 3) := by decide +kernel
theorem dX10_kth_12 : decode cX10_kth 12 = .ok (.iload_n 2, 1) := by decide +kernel
theorem dX10_kth_13 : decode cX10_kth 13 = .ok (.ifCond .ge 7, 3) := by decide +kernel
theorem dX10_kth_16 : decode cX10_kth 16 = .ok (.iconst 2, 1) := by decide +kernel
theorem dX10_kth_17 : decode cX10_kth 17 = .ok (.goto 4, 3) := by decide +kernel
theorem dX10_kth_20 : decode cX10_kth 20 = .ok (.iconst 0, 1) := by decide +kernel
theorem dX10_kth_21 : decode cX10_kth 21 = .ok (.invokevirtual 102, 3) := by decide +kernel
theorem dX10_kth_24 : decode cX10_kth 24 = .ok (.ifCond .eq 5, 3) := by decide +kernel
theorem dX10_kth_27 : decode cX10_kth 27 = .ok (.iconst 0, 1) := by decide +kernel
theorem dX10_kth_28 : decode cX10_kth 28 = .ok (.ireturn, 1) := by decide +kernel
theorem dX10_kth_29 : decode cX10_kth 29 = .ok (.aload_n 0, 1) := by decide +kernel
theorem dX10_kth_30 : decode cX10_kth 30 = .ok (.getfield 16, 3) := by decide +kernel
theorem dX10_kth_33 : decode cX10_kth 33 = .ok (.iload_n 1, 1) := by decide +kernel
theorem dX10_kth_34 : decode cX10_kth 34 = .ok (.iload_n 2, 1) := by decide +kernel
theorem dX10_kth_35 : decode cX10_kth 35 = .ok (.invokestatic 184, 3) := by decide +kernel
theorem dX10_kth_38 : decode cX10_kth 38 = .ok (.istore 4, 2) := by decide +kernel
theorem dX10_kth_40 : decode cX10_kth 40 = .ok (.iload 4, 2) := by decide +kernel
theorem dX10_kth_42 : decode cX10_kth 42 = .ok (.bipush (-9), 2) := by decide +kernel
theorem dX10_kth_44 : decode cX10_kth 44 = .ok (.if_icmp .eq 7, 3) := by decide +kernel
theorem dX10_kth_47 : decode cX10_kth 47 = .ok (.iload_n 3, 1) := by decide +kernel
theorem dX10_kth_48 : decode cX10_kth 48 = .ok (.ifCond .eq 8, 3) := by decide +kernel
theorem dX10_kth_51 : decode cX10_kth 51 = .ok (.iload 4, 2) := by decide +kernel
theorem dX10_kth_53 : decode cX10_kth 53 = .ok (.goto 21, 3) := by decide +kernel
theorem dX10_kth_56 : decode cX10_kth 56 = .ok (.aload_n 0, 1) := by decide +kernel
theorem dX10_kth_57 : decode cX10_kth 57 = .ok (.getfield 16, 3) := by decide +kernel
theorem dX10_kth_60 : decode cX10_kth 60 = .ok (.iload_n 1, 1) := by decide +kernel
theorem dX10_kth_61 : decode cX10_kth 61 = .ok (.iload 4, 2) := by decide +kernel
theorem dX10_kth_63 : decode cX10_kth 63 = .ok (.bipush 10, 2) := by decide +kernel
theorem dX10_kth_65 : decode cX10_kth 65 = .ok (.idiv, 1) := by decide +kernel
theorem dX10_kth_66 : decode cX10_kth 66 = .ok (.iload 4, 2) := by decide +kernel
theorem dX10_kth_68 : decode cX10_kth 68 = .ok (.bipush 10, 2) := by decide +kernel
theorem dX10_kth_70 : decode cX10_kth 70 = .ok (.irem, 1) := by decide +kernel
theorem dX10_kth_71 : decode cX10_kth 71 = .ok (.invokestatic 76, 3) := by decide +kernel
theorem dX10_kth_74 : decode cX10_kth 74 = .ok (.ireturn, 1) := by decide +kernel
set_option maxRecDepth 20000 in
theorem ggX10_rank_X10_have : GoodIn wsX10_rank wsX10_have := goodIn_r _ [6, 1, 7, 8, 5, 9, 10, 11, 12, 13, 14, 15, 16, 17, 18, 19, 31, 32, 33, 34, 35, 36, 37, 38, 39, 40, 41, 42, 43, 44, 45] (by decide +kernel) (by decide +kernel)
set_option maxRecDepth 20000 in
theorem gX10_rank_X10_have : GoodIn wsX10_rank (wsV RX10 150 RX10 yX10_have wsX10_have) := goodIn_app (goodIn_of _ (by decide +kernel)) ggX10_rank_X10_have
set_option maxRecDepth 20000 in
theorem ggX10_rank_X10_refused : GoodIn wsX10_rank wsX10_refused := goodIn_r _ [23, 24, 31, 32, 33, 34, 35, 36, 37, 38, 39, 40, 41, 42, 43, 44, 45] (by decide +kernel) (by decide +kernel)
set_option maxRecDepth 20000 in
theorem gX10_rank_X10_refused : GoodIn wsX10_rank (wsV RX10 102 RX10 yX10_refused wsX10_refused) := goodIn_app (goodIn_of _ (by decide +kernel)) ggX10_rank_X10_refused
set_option maxRecDepth 20000 in
theorem ggX10_rank_X10_rankOf : GoodIn wsX10_rank wsX10_rankOf := goodIn_r _ [27, 28, 29, 5, 30, 16, 17, 18, 19, 10, 11, 12] (by decide +kernel) (by decide +kernel)
set_option maxRecDepth 20000 in
theorem gX10_rank_X10_rankOf : GoodIn wsX10_rank (va_wsS RX10 181 yX10_rankOf wsX10_rankOf) := goodIn_app (goodIn_of _ (by decide +kernel)) ggX10_rank_X10_rankOf
theorem dX10_rank_0 : decode cX10_rank 0 = .ok (.aload_n 0, 1) := by decide +kernel
theorem dX10_rank_1 : decode cX10_rank 1 = .ok (.aload_n 0, 1) := by decide +kernel
theorem dX10_rank_2 : decode cX10_rank 2 = .ok (.iload_n 1, 1) := by decide +kernel
theorem dX10_rank_3 : decode cX10_rank 3 = .ok (.iload_n 2, 1) := by decide +kernel
theorem dX10_rank_4 : decode cX10_rank 4 = .ok (.iload_n 3, 1) := by decide +kernel
theorem dX10_rank_5 : decode cX10_rank 5 = .ok (.invokevirtual 150, 3) := by decide +kernel
theorem dX10_rank_8 : decode cX10_rank 8 = .ok (.ifCond .eq 7, 3) := by decide +kernel
theorem dX10_rank_11 : decode cX10_rank 11 = .ok (.iconst 0, 1) := by decide +kernel
theorem dX10_rank_12 : decode cX10_rank 12 = .ok (.goto 4, 3) := by decide +kernel
theorem dX10_rank_15 : decode cX10_rank 15 = .ok (.iconst 1, 1) := by decide +kernel
theorem dX10_rank_16 : decode cX10_rank 16 = .ok (.invokevirtual 102, 3) := by decide +kernel
theorem dX10_rank_19 : decode cX10_rank 19 = .ok (.ifCond .eq 5, 3) := by decide +kernel
theorem dX10_rank_22 : decode cX10_rank 22 = .ok (.iconst 0, 1) := by decide +kernel
theorem dX10_rank_23 : decode cX10_rank 23 = .ok (.ireturn, 1) := by decide +kernel
theorem dX10_rank_24 : decode cX10_rank 24 = .ok (.aload_n 0, 1) := by decide +kernel
theorem dX10_rank_25 : decode cX10_rank 25 = .ok (.getfield 16, 3) := by decide +kernel
theorem dX10_rank_28 : decode cX10_rank 28 = .ok (.iload_n 1, 1) := by decide +kernel
theorem dX10_rank_29 : decode cX10_rank 29 = .ok (.iload_n 2, 1) := by decide +kernel
theorem dX10_rank_30 : decode cX10_rank 30 = .ok (.iload_n 3, 1) := by decide +kernel
theorem dX10_rank_31 : decode cX10_rank 31 = .ok (.invokestatic 181, 3) := by decide +kernel
theorem dX10_rank_34 : decode cX10_rank 34 = .ok (.ireturn, 1) := by decide +kernel
set_option maxRecDepth 20000 in
theorem ggX10_isWindow_X10_in : GoodIn wsX10_isWindow wsX10_in := goodIn_r _ [6] (by decide +kernel) (by decide +kernel)
set_option maxRecDepth 20000 in
theorem gX10_isWindow_X10_in : GoodIn wsX10_isWindow (va_wsS RX10 54 yX10_in wsX10_in) := goodIn_app (goodIn_of _ (by decide +kernel)) ggX10_isWindow_X10_in
theorem dX10_isWindow_0 : decode cX10_isWindow 0 = .ok (.iload_n 0, 1) := by decide +kernel
theorem dX10_isWindow_1 : decode cX10_isWindow 1 = .ok (.i2l, 1) := by decide +kernel
theorem dX10_isWindow_2 : decode cX10_isWindow 2 = .ok (.lconst 0, 1) := by decide +kernel
theorem dX10_isWindow_3 : decode cX10_isWindow 3 = .ok (.ldc2_w 58, 3) := by decide +kernel
theorem dX10_isWindow_6 : decode cX10_isWindow 6 = .ok (.invokestatic 54, 3) := by decide +kernel
theorem dX10_isWindow_9 : decode cX10_isWindow 9 = .ok (.ifCond .eq 43, 3) := by decide +kernel
theorem dX10_isWindow_12 : decode cX10_isWindow 12 = .ok (.iload_n 1, 1) := by decide +kernel
theorem dX10_isWindow_13 : decode cX10_isWindow 13 = .ok (.i2l, 1) := by decide +kernel
theorem dX10_isWindow_14 : decode cX10_isWindow 14 = .ok (.lconst 0, 1) := by decide +kernel
theorem dX10_isWindow_15 : decode cX10_isWindow 15 = .ok (.ldc2_w 58, 3) := by decide +kernel
theorem dX10_isWindow_18 : decode cX10_isWindow 18 = .ok (.invokestatic 54, 3) := by decide +kernel
theorem dX10_isWindow_21 : decode cX10_isWindow 21 = .ok (.ifCond .eq 31, 3) := by decide +kernel
theorem dX10_isWindow_24 : decode cX10_isWindow 24 = .ok (.iload_n 2, 1) := by decide +kernel
theorem dX10_isWindow_25 : decode cX10_isWindow 25 = .ok (.i2l, 1) := by decide +kernel
theorem dX10_isWindow_26 : decode cX10_isWindow 26 = .ok (.lconst 1, 1) := by decide +kernel
theorem dX10_isWindow_27 : decode cX10_isWindow 27 = .ok (.ldc2_w 187, 3) := by decide +kernel
theorem dX10_isWindow_30 : decode cX10_isWindow 30 = .ok (.invokestatic 54, 3) := by decide +kernel
theorem dX10_isWindow_33 : decode cX10_isWindow 33 = .ok (.ifCond .eq 19, 3) := by decide +kernel
theorem dX10_isWindow_36 : decode cX10_isWindow 36 = .ok (.iload_n 3, 1) := by decide +kernel
theorem dX10_isWindow_37 : decode cX10_isWindow 37 = .ok (.i2l, 1) := by decide +kernel
theorem dX10_isWindow_38 : decode cX10_isWindow 38 = .ok (.lconst 1, 1) := by decide +kernel
theorem dX10_isWindow_39 : decode cX10_isWindow 39 = .ok (.ldc2_w 187, 3) := by decide +kernel
theorem dX10_isWindow_42 : decode cX10_isWindow 42 = .ok (.invokestatic 54, 3) := by decide +kernel
theorem dX10_isWindow_45 : decode cX10_isWindow 45 = .ok (.ifCond .eq 7, 3) := by decide +kernel
theorem dX10_isWindow_48 : decode cX10_isWindow 48 = .ok (.iconst 1, 1) := by decide +kernel
theorem dX10_isWindow_49 : decode cX10_isWindow 49 = .ok (.goto 4, 3) := by decide +kernel
theorem dX10_isWindow_52 : decode cX10_isWindow 52 = .ok (.iconst 0, 1) := by decide +kernel
theorem dX10_isWindow_53 : decode cX10_isWindow 53 = .ok (.ireturn, 1) := by decide +kernel
set_option maxRecDepth 20000 in
theorem ggX10_windowCount_X10_isTable : GoodIn wsX10_windowCount wsX10_isTable := goodIn_r _ [5, 6, 7, 4, 8] (by decide +kernel) (by decide +kernel)
set_option maxRecDepth 20000 in
theorem gX10_windowCount_X10_isTable : GoodIn wsX10_windowCount (va_wsS RX10 64 yX10_isTable wsX10_isTable) := goodIn_app (goodIn_of _ (by decide +kernel)) ggX10_windowCount_X10_isTable
set_option maxRecDepth 20000 in
theorem ggX10_windowCount_X10_isWindow : GoodIn wsX10_windowCount wsX10_isWindow := goodIn_r _ [11, 12, 13, 6, 7, 4, 8] (by decide +kernel) (by decide +kernel)
set_option maxRecDepth 20000 in
theorem gX10_windowCount_X10_isWindow : GoodIn wsX10_windowCount (va_wsS RX10 189 yX10_isWindow wsX10_isWindow) := goodIn_app (goodIn_of _ (by decide +kernel)) ggX10_windowCount_X10_isWindow
set_option maxRecDepth 20000 in
theorem ggX10_windowCount_X10_isNumber : GoodIn wsX10_windowCount wsX10_isNumber := goodIn_r _ [16, 17, 6, 7, 4, 8] (by decide +kernel) (by decide +kernel)
set_option maxRecDepth 20000 in
theorem gX10_windowCount_X10_isNumber : GoodIn wsX10_windowCount (va_wsS RX10 156 yX10_isNumber wsX10_isNumber) := goodIn_app (goodIn_of _ (by decide +kernel)) ggX10_windowCount_X10_isNumber
set_option maxRecDepth 20000 in
theorem ggX10_windowCount_X10_refused : GoodIn wsX10_windowCount wsX10_refused := goodIn_r _ [21, 22, 32, 33, 34, 35, 36, 37, 38, 39, 40, 41, 42, 43, 44, 45, 46] (by decide +kernel) (by decide +kernel)
set_option maxRecDepth 20000 in
theorem gX10_windowCount_X10_refused : GoodIn wsX10_windowCount (wsV RX10 102 RX10 yX10_refused wsX10_refused) := goodIn_app (goodIn_of _ (by decide +kernel)) ggX10_windowCount_X10_refused
set_option maxRecDepth 20000 in
theorem ggX10_windowCount_X10_countIn : GoodIn wsX10_windowCount wsX10_countIn := goodIn_r _ [25, 26, 27, 4, 28, 12, 6, 7, 8, 29, 30, 31] (by decide +kernel) (by decide +kernel)
set_option maxRecDepth 20000 in
theorem gX10_windowCount_X10_countIn : GoodIn wsX10_windowCount (va_wsS RX10 175 yX10_countIn wsX10_countIn) := goodIn_app (goodIn_of _ (by decide +kernel)) ggX10_windowCount_X10_countIn
theorem dX10_windowCount_0 : decode cX10_windowCount 0 = .ok (.aload_n 0, 1) := by decide +kernel
theorem dX10_windowCount_1 : decode cX10_windowCount 1 = .ok (.iload_n 1, 1) := by decide +kernel
theorem dX10_windowCount_2 : decode cX10_windowCount 2 = .ok (.invokestatic 64, 3) := by decide +kernel
theorem dX10_windowCount_5 : decode cX10_windowCount 5 = .ok (.ifCond .ne 7, 3) := by decide +kernel
theorem dX10_windowCount_8 : decode cX10_windowCount 8 = .ok (.iconst 1, 1) := by decide +kernel
theorem dX10_windowCount_9 : decode cX10_windowCount 9 = .ok (.goto 28, 3) := by decide +kernel
theorem dX10_windowCount_12 : decode cX10_windowCount 12 = .ok (.iload_n 2, 1) := by decide +kernel
theorem dX10_windowCount_13 : decode cX10_windowCount 13 = .ok (.iload_n 3, 1) := by decide +kernel
theorem dX10_windowCount_14 : decode cX10_windowCount 14 = .ok (.iload 4, 2) := by decide +kernel
theorem dX10_windowCount_16 : decode cX10_windowCount 16 = .ok (.iload 5, 2) := by decide +kernel
theorem dX10_windowCount_18 : decode cX10_windowCount 18 = .ok (.invokestatic 189, 3) := by decide +kernel
theorem dX10_windowCount_21 : decode cX10_windowCount 21 = .ok (.ifCond .eq 11, 3) := by decide +kernel
theorem dX10_windowCount_24 : decode cX10_windowCount 24 = .ok (.iload 6, 2) := by decide +kernel
theorem dX10_windowCount_26 : decode cX10_windowCount 26 = .ok (.invokestatic 156, 3) := by decide +kernel
theorem dX10_windowCount_29 : decode cX10_windowCount 29 = .ok (.ifCond .ne 7, 3) := by decide +kernel
theorem dX10_windowCount_32 : decode cX10_windowCount 32 = .ok (.iconst 2, 1) := by decide +kernel
theorem dX10_windowCount_33 : decode cX10_windowCount 33 = .ok (.goto 4, 3) := by decide +kernel
theorem dX10_windowCount_36 : decode cX10_windowCount 36 = .ok (.iconst 0, 1) := by decide +kernel
theorem dX10_windowCount_37 : decode cX10_windowCount 37 = .ok (.invokevirtual 102, 3) := by decide +kernel
theorem dX10_windowCount_40 : decode cX10_windowCount 40 = .ok (.ifCond .eq 5, 3) := by decide +kernel
theorem dX10_windowCount_43 : decode cX10_windowCount 43 = .ok (.iconst 0, 1) := by decide +kernel
theorem dX10_windowCount_44 : decode cX10_windowCount 44 = .ok (.ireturn, 1) := by decide +kernel
theorem dX10_windowCount_45 : decode cX10_windowCount 45 = .ok (.aload_n 0, 1) := by decide +kernel
theorem dX10_windowCount_46 : decode cX10_windowCount 46 = .ok (.getfield 16, 3) := by decide +kernel
theorem dX10_windowCount_49 : decode cX10_windowCount 49 = .ok (.iload_n 1, 1) := by decide +kernel
theorem dX10_windowCount_50 : decode cX10_windowCount 50 = .ok (.iload_n 2, 1) := by decide +kernel
theorem dX10_windowCount_51 : decode cX10_windowCount 51 = .ok (.iload_n 3, 1) := by decide +kernel
theorem dX10_windowCount_52 : decode cX10_windowCount 52 = .ok (.iload 4, 2) := by decide +kernel
theorem dX10_windowCount_54 : decode cX10_windowCount 54 = .ok (.iload 5, 2) := by decide +kernel
theorem dX10_windowCount_56 : decode cX10_windowCount 56 = .ok (.iload 6, 2) := by decide +kernel
theorem dX10_windowCount_58 : decode cX10_windowCount 58 = .ok (.invokestatic 175, 3) := by decide +kernel
theorem dX10_windowCount_61 : decode cX10_windowCount 61 = .ok (.ireturn, 1) := by decide +kernel
set_option maxRecDepth 20000 in
theorem ggX10_windowKth_X10_isTable : GoodIn wsX10_windowKth wsX10_isTable := goodIn_r _ [5, 6, 7, 4, 8] (by decide +kernel) (by decide +kernel)
set_option maxRecDepth 20000 in
theorem gX10_windowKth_X10_isTable : GoodIn wsX10_windowKth (va_wsS RX10 64 yX10_isTable wsX10_isTable) := goodIn_app (goodIn_of _ (by decide +kernel)) ggX10_windowKth_X10_isTable
set_option maxRecDepth 20000 in
theorem ggX10_windowKth_X10_isWindow : GoodIn wsX10_windowKth wsX10_isWindow := goodIn_r _ [11, 12, 13, 6, 7, 4, 8] (by decide +kernel) (by decide +kernel)
set_option maxRecDepth 20000 in
theorem gX10_windowKth_X10_isWindow : GoodIn wsX10_windowKth (va_wsS RX10 189 yX10_isWindow wsX10_isWindow) := goodIn_app (goodIn_of _ (by decide +kernel)) ggX10_windowKth_X10_isWindow
set_option maxRecDepth 20000 in
theorem ggX10_windowKth_X10_refused : GoodIn wsX10_windowKth wsX10_refused := goodIn_r _ [17, 18, 28, 29, 30, 31, 32, 33, 34, 35, 36, 37, 38, 39, 40, 41, 42] (by decide +kernel) (by decide +kernel)
set_option maxRecDepth 20000 in
theorem gX10_windowKth_X10_refused : GoodIn wsX10_windowKth (wsV RX10 102 RX10 yX10_refused wsX10_refused) := goodIn_app (goodIn_of _ (by decide +kernel)) ggX10_windowKth_X10_refused
set_option maxRecDepth 20000 in
theorem ggX10_windowKth_X10_countIn : GoodIn wsX10_windowKth wsX10_countIn := goodIn_r _ [21, 22, 23, 4, 24, 12, 6, 7, 8, 25, 26, 27] (by decide +kernel) (by decide +kernel)
set_option maxRecDepth 20000 in
theorem gX10_windowKth_X10_countIn : GoodIn wsX10_windowKth (va_wsS RX10 175 yX10_countIn wsX10_countIn) := goodIn_app (goodIn_of _ (by decide +kernel)) ggX10_windowKth_X10_countIn
theorem dX10_windowKth_0 : decode cX10_windowKth 0 = .ok (.aload_n 0, 1) := by decide +kernel
theorem dX10_windowKth_1 : decode cX10_windowKth 1 = .ok (.iload_n 1, 1) := by decide +kernel
theorem dX10_windowKth_2 : decode cX10_windowKth 2 = .ok (.invokestatic 64, 3) := by decide +kernel
theorem dX10_windowKth_5 : decode cX10_windowKth 5 = .ok (.ifCond .ne 7, 3) := by decide +kernel
theorem dX10_windowKth_8 : decode cX10_windowKth 8 = .ok (.iconst 1, 1) := by decide +kernel
theorem dX10_windowKth_9 : decode cX10_windowKth 9 = .ok (.goto 25, 3) := by decide +kernel
theorem dX10_windowKth_12 : decode cX10_windowKth 12 = .ok (.iload_n 2, 1) := by decide +kernel
theorem dX10_windowKth_13 : decode cX10_windowKth 13 = .ok (.iload_n 3, 1) := by decide +kernel
theorem dX10_windowKth_14 : decode cX10_windowKth 14 = .ok (.iload 4, 2) := by decide +kernel
theorem dX10_windowKth_16 : decode cX10_windowKth 16 = .ok (.iload 5, 2) := by decide +kernel
theorem dX10_windowKth_18 : decode cX10_windowKth 18 = .ok (.invokestatic 189, 3) := by decide +kernel
theorem dX10_windowKth_21 : decode cX10_windowKth 21 = .ok (.ifCond .eq 8, 3) := by decide +kernel
theorem dX10_windowKth_24 : decode cX10_windowKth 24 = .ok (.iload 6, 2) := by decide +kernel
theorem dX10_windowKth_26 : decode cX10_windowKth 26 = .ok (.ifCond .ge 7, 3) := by decide +kernel
theorem dX10_windowKth_29 : decode cX10_windowKth 29 = .ok (.iconst 2, 1) := by decide +kernel
theorem dX10_windowKth_30 : decode cX10_windowKth 30 = .ok (.goto 4, 3) := by decide +kernel
theorem dX10_windowKth_33 : decode cX10_windowKth 33 = .ok (.iconst 0, 1) := by decide +kernel
theorem dX10_windowKth_34 : decode cX10_windowKth 34 = .ok (.invokevirtual 102, 3) := by decide +kernel
theorem dX10_windowKth_37 : decode cX10_windowKth 37 = .ok (.ifCond .eq 5, 3) := by decide +kernel
theorem dX10_windowKth_40 : decode cX10_windowKth 40 = .ok (.iconst 0, 1) := by decide +kernel
theorem dX10_windowKth_41 : decode cX10_windowKth 41 = .ok (.ireturn, 1) := by decide +kernel
theorem dX10_windowKth_42 : decode cX10_windowKth 42 = .ok (.iconst 0, 1) := by decide +kernel
theorem dX10_windowKth_43 : decode cX10_windowKth 43 = .ok (.istore 7, 2) := by decide +kernel
theorem dX10_windowKth_45 : decode cX10_windowKth 45 = .ok (.iload 7, 2) := by decide +kernel
theorem dX10_windowKth_47 : decode cX10_windowKth 47 = .ok (.bipush 100, 2) := by decide +kernel
theorem dX10_windowKth_49 : decode cX10_windowKth 49 = .ok (.if_icmp .ge 33, 3) := by decide +kernel
theorem dX10_windowKth_52 : decode cX10_windowKth 52 = .ok (.aload_n 0, 1) := by decide +kernel
theorem dX10_windowKth_53 : decode cX10_windowKth 53 = .ok (.getfield 16, 3) := by decide +kernel
theorem dX10_windowKth_56 : decode cX10_windowKth 56 = .ok (.iload_n 1, 1) := by decide +kernel
theorem dX10_windowKth_57 : decode cX10_windowKth 57 = .ok (.iload_n 2, 1) := by decide +kernel
theorem dX10_windowKth_58 : decode cX10_windowKth 58 = .ok (.iload_n 3, 1) := by decide +kernel
theorem dX10_windowKth_59 : decode cX10_windowKth 59 = .ok (.iload 4, 2) := by decide +kernel
theorem dX10_windowKth_61 : decode cX10_windowKth 61 = .ok (.iload 5, 2) := by decide +kernel
theorem dX10_windowKth_63 : decode cX10_windowKth 63 = .ok (.iload 7, 2) := by decide +kernel
theorem dX10_windowKth_65 : decode cX10_windowKth 65 = .ok (.invokestatic 175, 3) := by decide +kernel
theorem dX10_windowKth_68 : decode cX10_windowKth 68 = .ok (.iload 6, 2) := by decide +kernel
theorem dX10_windowKth_70 : decode cX10_windowKth 70 = .ok (.if_icmp .le 6, 3) := by decide +kernel
theorem dX10_windowKth_73 : decode cX10_windowKth 73 = .ok (.iload 7, 2) := by decide +kernel
theorem dX10_windowKth_75 : decode cX10_windowKth 75 = .ok (.ireturn, 1) := by decide +kernel
theorem dX10_windowKth_76 : decode cX10_windowKth 76 = .ok (.iinc 7 1, 3) := by decide +kernel
theorem dX10_windowKth_79 : decode cX10_windowKth 79 = .ok (.goto (-34), 3) := by decide +kernel
theorem dX10_windowKth_82 : decode cX10_windowKth 82 = .ok (.bipush (-9), 2) := by decide +kernel
theorem dX10_windowKth_84 : decode cX10_windowKth 84 = .ok (.ireturn, 1) := by decide +kernel
set_option maxRecDepth 20000 in
theorem ggX10_upTo_X10_countIn : GoodIn wsX10_upTo wsX10_countIn := goodIn_r _ [4, 5, 6, 3, 7, 8, 9, 10, 11, 12, 13, 14] (by decide +kernel) (by decide +kernel)
set_option maxRecDepth 20000 in
theorem gX10_upTo_X10_countIn : GoodIn wsX10_upTo (va_wsS RX10 175 yX10_countIn wsX10_countIn) := goodIn_app (goodIn_of _ (by decide +kernel)) ggX10_upTo_X10_countIn
theorem dX10_upTo_0 : decode cX10_upTo 0 = .ok (.aload_n 0, 1) := by decide +kernel
theorem dX10_upTo_1 : decode cX10_upTo 1 = .ok (.iload_n 1, 1) := by decide +kernel
theorem dX10_upTo_2 : decode cX10_upTo 2 = .ok (.iconst 0, 1) := by decide +kernel
theorem dX10_upTo_3 : decode cX10_upTo 3 = .ok (.iconst 0, 1) := by decide +kernel
theorem dX10_upTo_4 : decode cX10_upTo 4 = .ok (.bipush 6, 2) := by decide +kernel
theorem dX10_upTo_6 : decode cX10_upTo 6 = .ok (.bipush 6, 2) := by decide +kernel
theorem dX10_upTo_8 : decode cX10_upTo 8 = .ok (.iload_n 2, 1) := by decide +kernel
theorem dX10_upTo_9 : decode cX10_upTo 9 = .ok (.invokestatic 175, 3) := by decide +kernel
theorem dX10_upTo_12 : decode cX10_upTo 12 = .ok (.ireturn, 1) := by decide +kernel
set_option maxRecDepth 20000 in
theorem ggX10_kthOfBoth_X10_refused : GoodIn wsX10_kthOfBoth wsX10_refused := goodIn_r _ [6, 7, 24, 25, 26, 27, 28, 29, 30, 31, 32, 33, 34, 35, 36, 37, 38] (by decide +kernel) (by decide +kernel)
set_option maxRecDepth 20000 in
theorem gX10_kthOfBoth_X10_refused : GoodIn wsX10_kthOfBoth (wsV RX10 102 RX10 yX10_refused wsX10_refused) := goodIn_app (goodIn_of _ (by decide +kernel)) ggX10_kthOfBoth_X10_refused
set_option maxRecDepth 20000 in
theorem ggX10_kthOfBoth_X10_upTo : GoodIn wsX10_kthOfBoth wsX10_upTo := goodIn_r _ [10, 11, 12, 5, 13, 14, 15, 16, 17, 18, 19, 20, 21, 22, 23] (by decide +kernel) (by decide +kernel)
set_option maxRecDepth 20000 in
theorem gX10_kthOfBoth_X10_upTo : GoodIn wsX10_kthOfBoth (va_wsS RX10 193 yX10_upTo wsX10_upTo) := goodIn_app (goodIn_of _ (by decide +kernel)) ggX10_kthOfBoth_X10_upTo
theorem dX10_kthOfBoth_0 : decode cX10_kthOfBoth 0 = .ok (.aload_n 0, 1) := by decide +kernel
theorem dX10_kthOfBoth_1 : decode cX10_kthOfBoth 1 = .ok (.iload_n 1, 1) := by decide +kernel
theorem dX10_kthOfBoth_2 : decode cX10_kthOfBoth 2 = .ok (.ifCond .ge 7, 3) := by decide +kernel
theorem dX10_kthOfBoth_5 : decode cX10_kthOfBoth 5 = .ok (.iconst 1, 1) := by decide +kernel
theorem dX10_kthOfBoth_6 : decode cX10_kthOfBoth 6 = .ok (.goto 4, 3) := by decide +kernel
theorem dX10_kthOfBoth_9 : decode cX10_kthOfBoth 9 = .ok (.iconst 0, 1) := by decide +kernel
theorem dX10_kthOfBoth_10 : decode cX10_kthOfBoth 10 = .ok (.invokevirtual 102, 3) := by decide +kernel
theorem dX10_kthOfBoth_13 : decode cX10_kthOfBoth 13 = .ok (.ifCond .eq 5, 3) := by decide +kernel
theorem dX10_kthOfBoth_16 : decode cX10_kthOfBoth 16 = .ok (.iconst 0, 1) := by decide +kernel
theorem dX10_kthOfBoth_17 : decode cX10_kthOfBoth 17 = .ok (.ireturn, 1) := by decide +kernel
theorem dX10_kthOfBoth_18 : decode cX10_kthOfBoth 18 = .ok (.iconst 0, 1) := by decide +kernel
theorem dX10_kthOfBoth_19 : decode cX10_kthOfBoth 19 = .ok (.istore_n 3, 1) := by decide +kernel
theorem dX10_kthOfBoth_20 : decode cX10_kthOfBoth 20 = .ok (.iload_n 3, 1) := by decide +kernel
theorem dX10_kthOfBoth_21 : decode cX10_kthOfBoth 21 = .ok (.bipush 100, 2) := by decide +kernel
theorem dX10_kthOfBoth_23 : decode cX10_kthOfBoth 23 = .ok (.if_icmp .ge 71, 3) := by decide +kernel
theorem dX10_kthOfBoth_26 : decode cX10_kthOfBoth 26 = .ok (.aload_n 0, 1) := by decide +kernel
theorem dX10_kthOfBoth_27 : decode cX10_kthOfBoth 27 = .ok (.getfield 16, 3) := by decide +kernel
theorem dX10_kthOfBoth_30 : decode cX10_kthOfBoth 30 = .ok (.iconst 0, 1) := by decide +kernel
theorem dX10_kthOfBoth_31 : decode cX10_kthOfBoth 31 = .ok (.iload_n 3, 1) := by decide +kernel
theorem dX10_kthOfBoth_32 : decode cX10_kthOfBoth 32 = .ok (.invokestatic 193, 3) := by decide +kernel
theorem dX10_kthOfBoth_35 : decode cX10_kthOfBoth 35 = .ok (.aload_n 0, 1) := by decide +kernel
theorem dX10_kthOfBoth_36 : decode cX10_kthOfBoth 36 = .ok (.getfield 16, 3) := by decide +kernel
theorem dX10_kthOfBoth_39 : decode cX10_kthOfBoth 39 = .ok (.iconst 1, 1) := by decide +kernel
theorem dX10_kthOfBoth_40 : decode cX10_kthOfBoth 40 = .ok (.iload_n 3, 1) := by decide +kernel
theorem dX10_kthOfBoth_41 : decode cX10_kthOfBoth 41 = .ok (.invokestatic 193, 3) := by decide +kernel
theorem dX10_kthOfBoth_44 : decode cX10_kthOfBoth 44 = .ok (.iadd, 1) := by decide +kernel
theorem dX10_kthOfBoth_45 : decode cX10_kthOfBoth 45 = .ok (.iload_n 1, 1) := by decide +kernel
theorem dX10_kthOfBoth_46 : decode cX10_kthOfBoth 46 = .ok (.if_icmp .le 42, 3) := by decide +kernel
theorem dX10_kthOfBoth_49 : decode cX10_kthOfBoth 49 = .ok (.iload_n 2, 1) := by decide +kernel
theorem dX10_kthOfBoth_50 : decode cX10_kthOfBoth 50 = .ok (.ifCond .ne 7, 3) := by decide +kernel
theorem dX10_kthOfBoth_53 : decode cX10_kthOfBoth 53 = .ok (.iload_n 3, 1) := by decide +kernel
theorem dX10_kthOfBoth_54 : decode cX10_kthOfBoth 54 = .ok (.goto 33, 3) := by decide +kernel
theorem dX10_kthOfBoth_57 : decode cX10_kthOfBoth 57 = .ok (.aload_n 0, 1) := by decide +kernel
theorem dX10_kthOfBoth_58 : decode cX10_kthOfBoth 58 = .ok (.getfield 16, 3) := by decide +kernel
theorem dX10_kthOfBoth_61 : decode cX10_kthOfBoth 61 = .ok (.iconst 0, 1) := by decide +kernel
theorem dX10_kthOfBoth_62 : decode cX10_kthOfBoth 62 = .ok (.iload_n 3, 1) := by decide +kernel
theorem dX10_kthOfBoth_63 : decode cX10_kthOfBoth 63 = .ok (.invokestatic 193, 3) := by decide +kernel
theorem dX10_kthOfBoth_66 : decode cX10_kthOfBoth 66 = .ok (.aload_n 0, 1) := by decide +kernel
theorem dX10_kthOfBoth_67 : decode cX10_kthOfBoth 67 = .ok (.getfield 16, 3) := by decide +kernel
theorem dX10_kthOfBoth_70 : decode cX10_kthOfBoth 70 = .ok (.iconst 1, 1) := by decide +kernel
theorem dX10_kthOfBoth_71 : decode cX10_kthOfBoth 71 = .ok (.iload_n 3, 1) := by decide +kernel
theorem dX10_kthOfBoth_72 : decode cX10_kthOfBoth 72 = .ok (.iconst 1, 1) := by decide +kernel
theorem dX10_kthOfBoth_73 : decode cX10_kthOfBoth 73 = .ok (.isub, 1) := by decide +kernel
theorem dX10_kthOfBoth_74 : decode cX10_kthOfBoth 74 = .ok (.invokestatic 193, 3) := by decide +kernel
theorem dX10_kthOfBoth_77 : decode cX10_kthOfBoth 77 = .ok (.iadd, 1) := by decide +kernel
theorem dX10_kthOfBoth_78 : decode cX10_kthOfBoth 78 = .ok (.iload_n 1, 1) := by decide +kernel
theorem dX10_kthOfBoth_79 : decode cX10_kthOfBoth 79 = .ok (.if_icmp .le 7, 3) := by decide +kernel
theorem dX10_kthOfBoth_82 : decode cX10_kthOfBoth 82 = .ok (.iconst 0, 1) := by decide +kernel
theorem dX10_kthOfBoth_83 : decode cX10_kthOfBoth 83 = .ok (.goto 4, 3) := by decide +kernel
theorem dX10_kthOfBoth_86 : decode cX10_kthOfBoth 86 = .ok (.iconst 1, 1) := by decide +kernel
theorem dX10_kthOfBoth_87 : decode cX10_kthOfBoth 87 = .ok (.ireturn, 1) := by decide +kernel
theorem dX10_kthOfBoth_88 : decode cX10_kthOfBoth 88 = .ok (.iinc 3 1, 3) := by decide +kernel
theorem dX10_kthOfBoth_91 : decode cX10_kthOfBoth 91 = .ok (.goto (-71), 3) := by decide +kernel
theorem dX10_kthOfBoth_94 : decode cX10_kthOfBoth 94 = .ok (.bipush (-9), 2) := by decide +kernel
theorem dX10_kthOfBoth_96 : decode cX10_kthOfBoth 96 = .ok (.ireturn, 1) := by decide +kernel
set_option maxRecDepth 20000 in
theorem ggX10_pairsOf_X10_length : GoodIn wsX10_pairsOf wsX10_length := goodIn_r _ [4, 5, 6, 7, 3, 8] (by decide +kernel) (by decide +kernel)
set_option maxRecDepth 20000 in
theorem gX10_pairsOf_X10_length : GoodIn wsX10_pairsOf (va_wsS RX10 60 yX10_length wsX10_length) := goodIn_app (goodIn_of _ (by decide +kernel)) ggX10_pairsOf_X10_length
set_option maxRecDepth 20000 in
theorem ggX10_pairsOf_X10_get : GoodIn wsX10_pairsOf wsX10_get := goodIn_r _ [11] (by decide +kernel) (by decide +kernel)
set_option maxRecDepth 20000 in
theorem gX10_pairsOf_X10_get : GoodIn wsX10_pairsOf (va_wsS RX10 76 yX10_get wsX10_get) := goodIn_app (goodIn_of _ (by decide +kernel)) ggX10_pairsOf_X10_get
set_option maxRecDepth 20000 in
theorem ggX10_pairsOf_X10_upTo : GoodIn wsX10_pairsOf wsX10_upTo := goodIn_r _ [14, 15, 16, 3, 17, 1, 2, 4, 5, 6, 7, 8, 9, 10, 11] (by decide +kernel) (by decide +kernel)
set_option maxRecDepth 20000 in
theorem gX10_pairsOf_X10_upTo : GoodIn wsX10_pairsOf (va_wsS RX10 193 yX10_upTo wsX10_upTo) := goodIn_app (goodIn_of _ (by decide +kernel)) ggX10_pairsOf_X10_upTo
theorem dX10_pairsOf_0 : decode cX10_pairsOf 0 = .ok (.iconst 0, 1) := by decide +kernel
theorem dX10_pairsOf_1 : decode cX10_pairsOf 1 = .ok (.istore_n 2, 1) := by decide +kernel
theorem dX10_pairsOf_2 : decode cX10_pairsOf 2 = .ok (.iconst 0, 1) := by decide +kernel
theorem dX10_pairsOf_3 : decode cX10_pairsOf 3 = .ok (.istore_n 3, 1) := by decide +kernel
theorem dX10_pairsOf_4 : decode cX10_pairsOf 4 = .ok (.iload_n 3, 1) := by decide +kernel
theorem dX10_pairsOf_5 : decode cX10_pairsOf 5 = .ok (.bipush 6, 2) := by decide +kernel
theorem dX10_pairsOf_7 : decode cX10_pairsOf 7 = .ok (.if_icmp .ge 47, 3) := by decide +kernel
theorem dX10_pairsOf_10 : decode cX10_pairsOf 10 = .ok (.iconst 0, 1) := by decide +kernel
theorem dX10_pairsOf_11 : decode cX10_pairsOf 11 = .ok (.istore 4, 2) := by decide +kernel
theorem dX10_pairsOf_13 : decode cX10_pairsOf 13 = .ok (.iload 4, 2) := by decide +kernel
theorem dX10_pairsOf_15 : decode cX10_pairsOf 15 = .ok (.aload_n 0, 1) := by decide +kernel
theorem dX10_pairsOf_16 : decode cX10_pairsOf 16 = .ok (.iconst 0, 1) := by decide +kernel
theorem dX10_pairsOf_17 : decode cX10_pairsOf 17 = .ok (.iload_n 3, 1) := by decide +kernel
theorem dX10_pairsOf_18 : decode cX10_pairsOf 18 = .ok (.invokestatic 60, 3) := by decide +kernel
theorem dX10_pairsOf_21 : decode cX10_pairsOf 21 = .ok (.if_icmp .ge 27, 3) := by decide +kernel
theorem dX10_pairsOf_24 : decode cX10_pairsOf 24 = .ok (.iload_n 2, 1) := by decide +kernel
theorem dX10_pairsOf_25 : decode cX10_pairsOf 25 = .ok (.aload_n 0, 1) := by decide +kernel
theorem dX10_pairsOf_26 : decode cX10_pairsOf 26 = .ok (.iconst 1, 1) := by decide +kernel
theorem dX10_pairsOf_27 : decode cX10_pairsOf 27 = .ok (.iload_n 1, 1) := by decide +kernel
theorem dX10_pairsOf_28 : decode cX10_pairsOf 28 = .ok (.aload_n 0, 1) := by decide +kernel
theorem dX10_pairsOf_29 : decode cX10_pairsOf 29 = .ok (.iconst 0, 1) := by decide +kernel
theorem dX10_pairsOf_30 : decode cX10_pairsOf 30 = .ok (.iload_n 3, 1) := by decide +kernel
theorem dX10_pairsOf_31 : decode cX10_pairsOf 31 = .ok (.iload 4, 2) := by decide +kernel
theorem dX10_pairsOf_33 : decode cX10_pairsOf 33 = .ok (.invokestatic 76, 3) := by decide +kernel
theorem dX10_pairsOf_36 : decode cX10_pairsOf 36 = .ok (.isub, 1) := by decide +kernel
theorem dX10_pairsOf_37 : decode cX10_pairsOf 37 = .ok (.invokestatic 193, 3) := by decide +kernel
theorem dX10_pairsOf_40 : decode cX10_pairsOf 40 = .ok (.iadd, 1) := by decide +kernel
theorem dX10_pairsOf_41 : decode cX10_pairsOf 41 = .ok (.istore_n 2, 1) := by decide +kernel
theorem dX10_pairsOf_42 : decode cX10_pairsOf 42 = .ok (.iinc 4 1, 3) := by decide +kernel
theorem dX10_pairsOf_45 : decode cX10_pairsOf 45 = .ok (.goto (-32), 3) := by decide +kernel
theorem dX10_pairsOf_48 : decode cX10_pairsOf 48 = .ok (.iinc 3 1, 3) := by decide +kernel
theorem dX10_pairsOf_51 : decode cX10_pairsOf 51 = .ok (.goto (-47), 3) := by decide +kernel
theorem dX10_pairsOf_54 : decode cX10_pairsOf 54 = .ok (.iload_n 2, 1) := by decide +kernel
theorem dX10_pairsOf_55 : decode cX10_pairsOf 55 = .ok (.ireturn, 1) := by decide +kernel
set_option maxRecDepth 20000 in
theorem ggX10_pairs_X10_in : GoodIn wsX10_pairs wsX10_in := goodIn_r _ [6] (by decide +kernel) (by decide +kernel)
set_option maxRecDepth 20000 in
theorem gX10_pairs_X10_in : GoodIn wsX10_pairs (va_wsS RX10 54 yX10_in wsX10_in) := goodIn_app (goodIn_of _ (by decide +kernel)) ggX10_pairs_X10_in
set_option maxRecDepth 20000 in
theorem ggX10_pairs_X10_refused : GoodIn wsX10_pairs wsX10_refused := goodIn_r _ [10, 11, 28, 29, 30, 31, 32, 33, 34, 35, 36, 37, 38, 39, 40, 41, 42] (by decide +kernel) (by decide +kernel)
set_option maxRecDepth 20000 in
theorem gX10_pairs_X10_refused : GoodIn wsX10_pairs (wsV RX10 102 RX10 yX10_refused wsX10_refused) := goodIn_app (goodIn_of _ (by decide +kernel)) ggX10_pairs_X10_refused
set_option maxRecDepth 20000 in
theorem ggX10_pairs_X10_pairsOf : GoodIn wsX10_pairs wsX10_pairsOf := goodIn_r _ [14, 15, 16, 5, 17, 18, 3, 4, 6, 19, 20, 21, 22, 23, 24, 25, 26, 27] (by decide +kernel) (by decide +kernel)
set_option maxRecDepth 20000 in
theorem gX10_pairs_X10_pairsOf : GoodIn wsX10_pairs (va_wsS RX10 198 yX10_pairsOf wsX10_pairsOf) := goodIn_app (goodIn_of _ (by decide +kernel)) ggX10_pairs_X10_pairsOf
theorem dX10_pairs_0 : decode cX10_pairs 0 = .ok (.aload_n 0, 1) := by decide +kernel
theorem dX10_pairs_1 : decode cX10_pairs 1 = .ok (.iload_n 1, 1) := by decide +kernel
theorem dX10_pairs_2 : decode cX10_pairs 2 = .ok (.i2l, 1) := by decide +kernel
theorem dX10_pairs_3 : decode cX10_pairs 3 = .ok (.lconst 0, 1) := by decide +kernel
theorem dX10_pairs_4 : decode cX10_pairs 4 = .ok (.ldc2_w 196, 3) := by decide +kernel
theorem dX10_pairs_7 : decode cX10_pairs 7 = .ok (.invokestatic 54, 3) := by decide +kernel
theorem dX10_pairs_10 : decode cX10_pairs 10 = .ok (.ifCond .eq 7, 3) := by decide +kernel
theorem dX10_pairs_13 : decode cX10_pairs 13 = .ok (.iconst 0, 1) := by decide +kernel
theorem dX10_pairs_14 : decode cX10_pairs 14 = .ok (.goto 4, 3) := by decide +kernel
theorem dX10_pairs_17 : decode cX10_pairs 17 = .ok (.iconst 1, 1) := by decide +kernel
theorem dX10_pairs_18 : decode cX10_pairs 18 = .ok (.invokevirtual 102, 3) := by decide +kernel
theorem dX10_pairs_21 : decode cX10_pairs 21 = .ok (.ifCond .eq 5, 3) := by decide +kernel
theorem dX10_pairs_24 : decode cX10_pairs 24 = .ok (.iconst 0, 1) := by decide +kernel
theorem dX10_pairs_25 : decode cX10_pairs 25 = .ok (.ireturn, 1) := by decide +kernel
theorem dX10_pairs_26 : decode cX10_pairs 26 = .ok (.aload_n 0, 1) := by decide +kernel
theorem dX10_pairs_27 : decode cX10_pairs 27 = .ok (.getfield 16, 3) := by decide +kernel
theorem dX10_pairs_30 : decode cX10_pairs 30 = .ok (.iload_n 1, 1) := by decide +kernel
theorem dX10_pairs_31 : decode cX10_pairs 31 = .ok (.invokestatic 198, 3) := by decide +kernel
theorem dX10_pairs_34 : decode cX10_pairs 34 = .ok (.ireturn, 1) := by decide +kernel
set_option maxRecDepth 20000 in
theorem ggX10_kthSum_X10_refused : GoodIn wsX10_kthSum wsX10_refused := goodIn_r _ [6, 7, 27, 28, 29, 30, 31, 32, 33, 34, 35, 36, 37, 38, 39, 40, 41] (by decide +kernel) (by decide +kernel)
set_option maxRecDepth 20000 in
theorem gX10_kthSum_X10_refused : GoodIn wsX10_kthSum (wsV RX10 102 RX10 yX10_refused wsX10_refused) := goodIn_app (goodIn_of _ (by decide +kernel)) ggX10_kthSum_X10_refused
set_option maxRecDepth 20000 in
theorem ggX10_kthSum_X10_pairsOf : GoodIn wsX10_kthSum wsX10_pairsOf := goodIn_r _ [10, 11, 12, 5, 13, 14, 15, 16, 17, 18, 19, 20, 21, 22, 23, 24, 25, 26] (by decide +kernel) (by decide +kernel)
set_option maxRecDepth 20000 in
theorem gX10_kthSum_X10_pairsOf : GoodIn wsX10_kthSum (va_wsS RX10 198 yX10_pairsOf wsX10_pairsOf) := goodIn_app (goodIn_of _ (by decide +kernel)) ggX10_kthSum_X10_pairsOf
theorem dX10_kthSum_0 : decode cX10_kthSum 0 = .ok (.aload_n 0, 1) := by decide +kernel
theorem dX10_kthSum_1 : decode cX10_kthSum 1 = .ok (.iload_n 1, 1) := by decide +kernel
theorem dX10_kthSum_2 : decode cX10_kthSum 2 = .ok (.ifCond .ge 7, 3) := by decide +kernel
theorem dX10_kthSum_5 : decode cX10_kthSum 5 = .ok (.iconst 1, 1) := by decide +kernel
theorem dX10_kthSum_6 : decode cX10_kthSum 6 = .ok (.goto 4, 3) := by decide +kernel
theorem dX10_kthSum_9 : decode cX10_kthSum 9 = .ok (.iconst 0, 1) := by decide +kernel
theorem dX10_kthSum_10 : decode cX10_kthSum 10 = .ok (.invokevirtual 102, 3) := by decide +kernel
theorem dX10_kthSum_13 : decode cX10_kthSum 13 = .ok (.ifCond .eq 5, 3) := by decide +kernel
theorem dX10_kthSum_16 : decode cX10_kthSum 16 = .ok (.iconst 0, 1) := by decide +kernel
theorem dX10_kthSum_17 : decode cX10_kthSum 17 = .ok (.ireturn, 1) := by decide +kernel
theorem dX10_kthSum_18 : decode cX10_kthSum 18 = .ok (.iconst 0, 1) := by decide +kernel
theorem dX10_kthSum_19 : decode cX10_kthSum 19 = .ok (.istore_n 2, 1) := by decide +kernel
theorem dX10_kthSum_20 : decode cX10_kthSum 20 = .ok (.iload_n 2, 1) := by decide +kernel
theorem dX10_kthSum_21 : decode cX10_kthSum 21 = .ok (.sipush 198, 3) := by decide +kernel
theorem dX10_kthSum_24 : decode cX10_kthSum 24 = .ok (.if_icmp .gt 23, 3) := by decide +kernel
theorem dX10_kthSum_27 : decode cX10_kthSum 27 = .ok (.aload_n 0, 1) := by decide +kernel
theorem dX10_kthSum_28 : decode cX10_kthSum 28 = .ok (.getfield 16, 3) := by decide +kernel
theorem dX10_kthSum_31 : decode cX10_kthSum 31 = .ok (.iload_n 2, 1) := by decide +kernel
theorem dX10_kthSum_32 : decode cX10_kthSum 32 = .ok (.invokestatic 198, 3) := by decide +kernel
theorem dX10_kthSum_35 : decode cX10_kthSum 35 = .ok (.iload_n 1, 1) := by decide +kernel
theorem dX10_kthSum_36 : decode cX10_kthSum 36 = .ok (.if_icmp .le 5, 3) := by decide +kernel
theorem dX10_kthSum_39 : decode cX10_kthSum 39 = .ok (.iload_n 2, 1) := by decide +kernel
theorem dX10_kthSum_40 : decode cX10_kthSum 40 = .ok (.ireturn, 1) := by decide +kernel
theorem dX10_kthSum_41 : decode cX10_kthSum 41 = .ok (.iinc 2 1, 3) := by decide +kernel
theorem dX10_kthSum_44 : decode cX10_kthSum 44 = .ok (.goto (-24), 3) := by decide +kernel
theorem dX10_kthSum_47 : decode cX10_kthSum 47 = .ok (.bipush (-9), 2) := by decide +kernel
theorem dX10_kthSum_49 : decode cX10_kthSum 49 = .ok (.ireturn, 1) := by decide +kernel
set_option maxRecDepth 20000 in
theorem ggX10_corner_X10_isTable : GoodIn wsX10_corner wsX10_isTable := goodIn_r _ [5, 6, 7, 4, 8] (by decide +kernel) (by decide +kernel)
set_option maxRecDepth 20000 in
theorem gX10_corner_X10_isTable : GoodIn wsX10_corner (va_wsS RX10 64 yX10_isTable wsX10_isTable) := goodIn_app (goodIn_of _ (by decide +kernel)) ggX10_corner_X10_isTable
set_option maxRecDepth 20000 in
theorem ggX10_corner_X10_refused : GoodIn wsX10_corner wsX10_refused := goodIn_r _ [12, 13, 24, 25, 26, 27, 28, 29, 30, 31, 32, 33, 34, 35, 36, 37, 38] (by decide +kernel) (by decide +kernel)
set_option maxRecDepth 20000 in
theorem gX10_corner_X10_refused : GoodIn wsX10_corner (wsV RX10 102 RX10 yX10_refused wsX10_refused) := goodIn_app (goodIn_of _ (by decide +kernel)) ggX10_corner_X10_refused
set_option maxRecDepth 20000 in
theorem ggX10_corner_X10_isGap : GoodIn wsX10_corner wsX10_isGap := goodIn_r _ [16, 17, 18, 4, 19, 20, 6, 7, 8] (by decide +kernel) (by decide +kernel)
set_option maxRecDepth 20000 in
theorem gX10_corner_X10_isGap : GoodIn wsX10_corner (va_wsS RX10 72 yX10_isGap wsX10_isGap) := goodIn_app (goodIn_of _ (by decide +kernel)) ggX10_corner_X10_isGap
set_option maxRecDepth 20000 in
theorem ggX10_corner_X10_isCorner : GoodIn wsX10_corner wsX10_isCorner := goodIn_r _ [23, 17, 18, 4, 19, 20, 6, 7, 8] (by decide +kernel) (by decide +kernel)
set_option maxRecDepth 20000 in
theorem gX10_corner_X10_isCorner : GoodIn wsX10_corner (va_wsS RX10 137 yX10_isCorner wsX10_isCorner) := goodIn_app (goodIn_of _ (by decide +kernel)) ggX10_corner_X10_isCorner
set_option maxRecDepth 20000 in
theorem ggX10_corner_X10_length : GoodIn wsX10_corner wsX10_length := goodIn_r _ [19, 20, 6, 7, 4, 8] (by decide +kernel) (by decide +kernel)
set_option maxRecDepth 20000 in
theorem gX10_corner_X10_length : GoodIn wsX10_corner (va_wsS RX10 60 yX10_length wsX10_length) := goodIn_app (goodIn_of _ (by decide +kernel)) ggX10_corner_X10_length
theorem dX10_corner_0 : decode cX10_corner 0 = .ok (.aload_n 0, 1) := by decide +kernel
theorem dX10_corner_1 : decode cX10_corner 1 = .ok (.iload_n 1, 1) := by decide +kernel
theorem dX10_corner_2 : decode cX10_corner 2 = .ok (.invokestatic 64, 3) := by decide +kernel
theorem dX10_corner_5 : decode cX10_corner 5 = .ok (.ifCond .ne 7, 3) := by decide +kernel
theorem dX10_corner_8 : decode cX10_corner 8 = .ok (.iconst 1, 1) := by decide +kernel
theorem dX10_corner_9 : decode cX10_corner 9 = .ok (.goto 12, 3) := by decide +kernel
theorem dX10_corner_12 : decode cX10_corner 12 = .ok (.iload_n 2, 1) := by decide +kernel
theorem dX10_corner_13 : decode cX10_corner 13 = .ok (.ifCond .ge 7, 3) := by decide +kernel
theorem dX10_corner_16 : decode cX10_corner 16 = .ok (.iconst 2, 1) := by decide +kernel
theorem dX10_corner_17 : decode cX10_corner 17 = .ok (.goto 4, 3) := by decide +kernel
theorem dX10_corner_20 : decode cX10_corner 20 = .ok (.iconst 0, 1) := by decide +kernel
theorem dX10_corner_21 : decode cX10_corner 21 = .ok (.invokevirtual 102, 3) := by decide +kernel
theorem dX10_corner_24 : decode cX10_corner 24 = .ok (.ifCond .eq 5, 3) := by decide +kernel
theorem dX10_corner_27 : decode cX10_corner 27 = .ok (.iconst 0, 1) := by decide +kernel
theorem dX10_corner_28 : decode cX10_corner 28 = .ok (.ireturn, 1) := by decide +kernel
theorem dX10_corner_29 : decode cX10_corner 29 = .ok (.iload_n 2, 1) := by decide +kernel
theorem dX10_corner_30 : decode cX10_corner 30 = .ok (.istore 4, 2) := by decide +kernel
theorem dX10_corner_32 : decode cX10_corner 32 = .ok (.iconst 0, 1) := by decide +kernel
theorem dX10_corner_33 : decode cX10_corner 33 = .ok (.istore 5, 2) := by decide +kernel
theorem dX10_corner_35 : decode cX10_corner 35 = .ok (.iload 5, 2) := by decide +kernel
theorem dX10_corner_37 : decode cX10_corner 37 = .ok (.bipush 6, 2) := by decide +kernel
theorem dX10_corner_39 : decode cX10_corner 39 = .ok (.if_icmp .ge 77, 3) := by decide +kernel
theorem dX10_corner_42 : decode cX10_corner 42 = .ok (.iload_n 3, 1) := by decide +kernel
theorem dX10_corner_43 : decode cX10_corner 43 = .ok (.ifCond .eq 19, 3) := by decide +kernel
theorem dX10_corner_46 : decode cX10_corner 46 = .ok (.aload_n 0, 1) := by decide +kernel
theorem dX10_corner_47 : decode cX10_corner 47 = .ok (.getfield 16, 3) := by decide +kernel
theorem dX10_corner_50 : decode cX10_corner 50 = .ok (.iload_n 1, 1) := by decide +kernel
theorem dX10_corner_51 : decode cX10_corner 51 = .ok (.iload 5, 2) := by decide +kernel
theorem dX10_corner_53 : decode cX10_corner 53 = .ok (.invokestatic 72, 3) := by decide +kernel
theorem dX10_corner_56 : decode cX10_corner 56 = .ok (.ifCond .eq 54, 3) := by decide +kernel
theorem dX10_corner_59 : decode cX10_corner 59 = .ok (.goto 16, 3) := by decide +kernel
theorem dX10_corner_62 : decode cX10_corner 62 = .ok (.aload_n 0, 1) := by decide +kernel
theorem dX10_corner_63 : decode cX10_corner 63 = .ok (.getfield 16, 3) := by decide +kernel
theorem dX10_corner_66 : decode cX10_corner 66 = .ok (.iload_n 1, 1) := by decide +kernel
theorem dX10_corner_67 : decode cX10_corner 67 = .ok (.iload 5, 2) := by decide +kernel
theorem dX10_corner_69 : decode cX10_corner 69 = .ok (.invokestatic 137, 3) := by decide +kernel
theorem dX10_corner_72 : decode cX10_corner 72 = .ok (.ifCond .eq 38, 3) := by decide +kernel
theorem dX10_corner_75 : decode cX10_corner 75 = .ok (.iload 4, 2) := by decide +kernel
theorem dX10_corner_77 : decode cX10_corner 77 = .ok (.ifCond .ne 30, 3) := by decide +kernel
theorem dX10_corner_80 : decode cX10_corner 80 = .ok (.bipush 10, 2) := by decide +kernel
theorem dX10_corner_82 : decode cX10_corner 82 = .ok (.iload 5, 2) := by decide +kernel
theorem dX10_corner_84 : decode cX10_corner 84 = .ok (.imul, 1) := by decide +kernel
theorem dX10_corner_85 : decode cX10_corner 85 = .ok (.aload_n 0, 1) := by decide +kernel
theorem dX10_corner_86 : decode cX10_corner 86 = .ok (.getfield 16, 3) := by decide +kernel
theorem dX10_corner_89 : decode cX10_corner 89 = .ok (.iload_n 1, 1) := by decide +kernel
theorem dX10_corner_90 : decode cX10_corner 90 = .ok (.iload 5, 2) := by decide +kernel
theorem dX10_corner_92 : decode cX10_corner 92 = .ok (.invokestatic 60, 3) := by decide +kernel
theorem dX10_corner_95 : decode cX10_corner 95 = .ok (.iadd, 1) := by decide +kernel
theorem dX10_corner_96 : decode cX10_corner 96 = .ok (.iload_n 3, 1) := by decide +kernel
theorem dX10_corner_97 : decode cX10_corner 97 = .ok (.ifCond .eq 7, 3) := by decide +kernel
theorem dX10_corner_100 : decode cX10_corner 100 = .ok (.iconst 0, 1) := by decide +kernel
theorem dX10_corner_101 : decode cX10_corner 101 = .ok (.goto 4, 3) := by decide +kernel
theorem dX10_corner_104 : decode cX10_corner 104 = .ok (.iconst 1, 1) := by decide +kernel
theorem dX10_corner_105 : decode cX10_corner 105 = .ok (.isub, 1) := by decide +kernel
theorem dX10_corner_106 : decode cX10_corner 106 = .ok (.ireturn, 1) := by decide +kernel
theorem dX10_corner_107 : decode cX10_corner 107 = .ok (.iinc 4 (-1), 3) := by decide +kernel
theorem dX10_corner_110 : decode cX10_corner 110 = .ok (.iinc 5 1, 3) := by decide +kernel
theorem dX10_corner_113 : decode cX10_corner 113 = .ok (.goto (-78), 3) := by decide +kernel
theorem dX10_corner_116 : decode cX10_corner 116 = .ok (.bipush (-9), 2) := by decide +kernel
theorem dX10_corner_118 : decode cX10_corner 118 = .ok (.ireturn, 1) := by decide +kernel
set_option maxRecDepth 20000 in
theorem ggX10_hookOf_X10_length : GoodIn wsX10_hookOf wsX10_length := goodIn_r _ [4, 5, 6, 7, 3, 8] (by decide +kernel) (by decide +kernel)
set_option maxRecDepth 20000 in
theorem gX10_hookOf_X10_length : GoodIn wsX10_hookOf (va_wsS RX10 60 yX10_length wsX10_length) := goodIn_app (goodIn_of _ (by decide +kernel)) ggX10_hookOf_X10_length
set_option maxRecDepth 20000 in
theorem ggX10_hookOf_X10_tall : GoodIn wsX10_hookOf wsX10_tall := goodIn_r _ [11, 1, 2, 3, 4, 5, 6, 7, 8] (by decide +kernel) (by decide +kernel)
set_option maxRecDepth 20000 in
theorem gX10_hookOf_X10_tall : GoodIn wsX10_hookOf (va_wsS RX10 94 yX10_tall wsX10_tall) := goodIn_app (goodIn_of _ (by decide +kernel)) ggX10_hookOf_X10_tall
theorem dX10_hookOf_0 : decode cX10_hookOf 0 = .ok (.aload_n 0, 1) := by decide +kernel
theorem dX10_hookOf_1 : decode cX10_hookOf 1 = .ok (.iload_n 1, 1) := by decide +kernel
theorem dX10_hookOf_2 : decode cX10_hookOf 2 = .ok (.iload_n 2, 1) := by decide +kernel
theorem dX10_hookOf_3 : decode cX10_hookOf 3 = .ok (.invokestatic 60, 3) := by decide +kernel
theorem dX10_hookOf_6 : decode cX10_hookOf 6 = .ok (.iload_n 3, 1) := by decide +kernel
theorem dX10_hookOf_7 : decode cX10_hookOf 7 = .ok (.isub, 1) := by decide +kernel
theorem dX10_hookOf_8 : decode cX10_hookOf 8 = .ok (.aload_n 0, 1) := by decide +kernel
theorem dX10_hookOf_9 : decode cX10_hookOf 9 = .ok (.iload_n 1, 1) := by decide +kernel
theorem dX10_hookOf_10 : decode cX10_hookOf 10 = .ok (.iload_n 3, 1) := by decide +kernel
theorem dX10_hookOf_11 : decode cX10_hookOf 11 = .ok (.invokestatic 94, 3) := by decide +kernel
theorem dX10_hookOf_14 : decode cX10_hookOf 14 = .ok (.iadd, 1) := by decide +kernel
theorem dX10_hookOf_15 : decode cX10_hookOf 15 = .ok (.iload_n 2, 1) := by decide +kernel
theorem dX10_hookOf_16 : decode cX10_hookOf 16 = .ok (.isub, 1) := by decide +kernel
theorem dX10_hookOf_17 : decode cX10_hookOf 17 = .ok (.iconst 1, 1) := by decide +kernel
theorem dX10_hookOf_18 : decode cX10_hookOf 18 = .ok (.isub, 1) := by decide +kernel
theorem dX10_hookOf_19 : decode cX10_hookOf 19 = .ok (.ireturn, 1) := by decide +kernel
set_option maxRecDepth 20000 in
theorem ggX10_hook_X10_have : GoodIn wsX10_hook wsX10_have := goodIn_r _ [6, 1, 7, 8, 5, 9, 10, 11, 12, 13, 14, 15, 16, 17, 18, 19, 31, 32, 33, 34, 35, 36, 37, 38, 39, 40, 41, 42, 43, 44, 45] (by decide +kernel) (by decide +kernel)
set_option maxRecDepth 20000 in
theorem gX10_hook_X10_have : GoodIn wsX10_hook (wsV RX10 150 RX10 yX10_have wsX10_have) := goodIn_app (goodIn_of _ (by decide +kernel)) ggX10_hook_X10_have
set_option maxRecDepth 20000 in
theorem ggX10_hook_X10_refused : GoodIn wsX10_hook wsX10_refused := goodIn_r _ [23, 24, 31, 32, 33, 34, 35, 36, 37, 38, 39, 40, 41, 42, 43, 44, 45] (by decide +kernel) (by decide +kernel)
set_option maxRecDepth 20000 in
theorem gX10_hook_X10_refused : GoodIn wsX10_hook (wsV RX10 102 RX10 yX10_refused wsX10_refused) := goodIn_app (goodIn_of _ (by decide +kernel)) ggX10_hook_X10_refused
set_option maxRecDepth 20000 in
theorem ggX10_hook_X10_hookOf : GoodIn wsX10_hook wsX10_hookOf := goodIn_r _ [27, 16, 17, 5, 18, 19, 10, 11, 12, 28, 29, 30] (by decide +kernel) (by decide +kernel)
set_option maxRecDepth 20000 in
theorem gX10_hook_X10_hookOf : GoodIn wsX10_hook (va_wsS RX10 201 yX10_hookOf wsX10_hookOf) := goodIn_app (goodIn_of _ (by decide +kernel)) ggX10_hook_X10_hookOf
theorem dX10_hook_0 : decode cX10_hook 0 = .ok (.aload_n 0, 1) := by decide +kernel
theorem dX10_hook_1 : decode cX10_hook 1 = .ok (.aload_n 0, 1) := by decide +kernel
theorem dX10_hook_2 : decode cX10_hook 2 = .ok (.iload_n 1, 1) := by decide +kernel
theorem dX10_hook_3 : decode cX10_hook 3 = .ok (.iload_n 2, 1) := by decide +kernel
theorem dX10_hook_4 : decode cX10_hook 4 = .ok (.iload_n 3, 1) := by decide +kernel
theorem dX10_hook_5 : decode cX10_hook 5 = .ok (.invokevirtual 150, 3) := by decide +kernel
theorem dX10_hook_8 : decode cX10_hook 8 = .ok (.ifCond .eq 7, 3) := by decide +kernel
theorem dX10_hook_11 : decode cX10_hook 11 = .ok (.iconst 0, 1) := by decide +kernel
theorem dX10_hook_12 : decode cX10_hook 12 = .ok (.goto 4, 3) := by decide +kernel
theorem dX10_hook_15 : decode cX10_hook 15 = .ok (.iconst 1, 1) := by decide +kernel
theorem dX10_hook_16 : decode cX10_hook 16 = .ok (.invokevirtual 102, 3) := by decide +kernel
theorem dX10_hook_19 : decode cX10_hook 19 = .ok (.ifCond .eq 5, 3) := by decide +kernel
theorem dX10_hook_22 : decode cX10_hook 22 = .ok (.iconst 0, 1) := by decide +kernel
theorem dX10_hook_23 : decode cX10_hook 23 = .ok (.ireturn, 1) := by decide +kernel
theorem dX10_hook_24 : decode cX10_hook 24 = .ok (.aload_n 0, 1) := by decide +kernel
theorem dX10_hook_25 : decode cX10_hook 25 = .ok (.getfield 16, 3) := by decide +kernel
theorem dX10_hook_28 : decode cX10_hook 28 = .ok (.iload_n 1, 1) := by decide +kernel
theorem dX10_hook_29 : decode cX10_hook 29 = .ok (.iload_n 2, 1) := by decide +kernel
theorem dX10_hook_30 : decode cX10_hook 30 = .ok (.iload_n 3, 1) := by decide +kernel
theorem dX10_hook_31 : decode cX10_hook 31 = .ok (.invokestatic 201, 3) := by decide +kernel
theorem dX10_hook_34 : decode cX10_hook 34 = .ok (.ireturn, 1) := by decide +kernel
theorem dX10_countPrimes_0 : decode cX10_countPrimes 0 = .ok (.iload_n 1, 1) := by decide +kernel
theorem dX10_countPrimes_1 : decode cX10_countPrimes 1 = .ok (.istore_n 3, 1) := by decide +kernel
theorem dX10_countPrimes_2 : decode cX10_countPrimes 2 = .ok (.iconst 2, 1) := by decide +kernel
theorem dX10_countPrimes_3 : decode cX10_countPrimes 3 = .ok (.istore 4, 2) := by decide +kernel
theorem dX10_countPrimes_5 : decode cX10_countPrimes 5 = .ok (.iload 4, 2) := by decide +kernel
theorem dX10_countPrimes_7 : decode cX10_countPrimes 7 = .ok (.iload_n 1, 1) := by decide +kernel
theorem dX10_countPrimes_8 : decode cX10_countPrimes 8 = .ok (.if_icmp .gt 35, 3) := by decide +kernel
theorem dX10_countPrimes_11 : decode cX10_countPrimes 11 = .ok (.iload_n 3, 1) := by decide +kernel
theorem dX10_countPrimes_12 : decode cX10_countPrimes 12 = .ok (.iload 4, 2) := by decide +kernel
theorem dX10_countPrimes_14 : decode cX10_countPrimes 14 = .ok (.irem, 1) := by decide +kernel
theorem dX10_countPrimes_15 : decode cX10_countPrimes 15 = .ok (.ifCond .ne 22, 3) := by decide +kernel
theorem dX10_countPrimes_18 : decode cX10_countPrimes 18 = .ok (.iload_n 3, 1) := by decide +kernel
theorem dX10_countPrimes_19 : decode cX10_countPrimes 19 = .ok (.iload 4, 2) := by decide +kernel
theorem dX10_countPrimes_21 : decode cX10_countPrimes 21 = .ok (.idiv, 1) := by decide +kernel
theorem dX10_countPrimes_22 : decode cX10_countPrimes 22 = .ok (.istore_n 3, 1) := by decide +kernel
theorem dX10_countPrimes_23 : decode cX10_countPrimes 23 = .ok (.aload_n 0, 1) := by decide +kernel
theorem dX10_countPrimes_24 : decode cX10_countPrimes 24 = .ok (.getfield 35, 3) := by decide +kernel
theorem dX10_countPrimes_27 : decode cX10_countPrimes 27 = .ok (.iload 4, 2) := by decide +kernel
theorem dX10_countPrimes_29 : decode cX10_countPrimes 29 = .ok (.dup2, 1) := by decide +kernel
theorem dX10_countPrimes_30 : decode cX10_countPrimes 30 = .ok (.iaload, 1) := by decide +kernel
theorem dX10_countPrimes_31 : decode cX10_countPrimes 31 = .ok (.iload_n 2, 1) := by decide +kernel
theorem dX10_countPrimes_32 : decode cX10_countPrimes 32 = .ok (.iadd, 1) := by decide +kernel
theorem dX10_countPrimes_33 : decode cX10_countPrimes 33 = .ok (.iastore, 1) := by decide +kernel
theorem dX10_countPrimes_34 : decode cX10_countPrimes 34 = .ok (.goto (-23), 3) := by decide +kernel
theorem dX10_countPrimes_37 : decode cX10_countPrimes 37 = .ok (.iinc 4 1, 3) := by decide +kernel
theorem dX10_countPrimes_40 : decode cX10_countPrimes 40 = .ok (.goto (-35), 3) := by decide +kernel
theorem dX10_countPrimes_43 : decode cX10_countPrimes 43 = .ok (.return_, 1) := by decide +kernel
set_option maxRecDepth 20000 in
theorem ggX10_fillings_X10_isTable : GoodIn wsX10_fillings wsX10_isTable := goodIn_r _ [6, 7, 8, 5, 9] (by decide +kernel) (by decide +kernel)
set_option maxRecDepth 20000 in
theorem gX10_fillings_X10_isTable : GoodIn wsX10_fillings (va_wsS RX10 64 yX10_isTable wsX10_isTable) := goodIn_app (goodIn_of _ (by decide +kernel)) ggX10_fillings_X10_isTable
set_option maxRecDepth 20000 in
theorem ggX10_fillings_X10_refused : GoodIn wsX10_fillings wsX10_refused := goodIn_r _ [13, 14, 32, 33, 34, 35, 36, 37, 38, 39, 40, 41, 42, 43, 44, 45, 46] (by decide +kernel) (by decide +kernel)
set_option maxRecDepth 20000 in
theorem gX10_fillings_X10_refused : GoodIn wsX10_fillings (wsV RX10 102 RX10 yX10_refused wsX10_refused) := goodIn_app (goodIn_of _ (by decide +kernel)) ggX10_fillings_X10_refused
set_option maxRecDepth 20000 in
theorem ggX10_fillings_X10_many : GoodIn wsX10_fillings wsX10_many := goodIn_r _ [17, 18, 19, 5, 20, 21, 7, 8, 9] (by decide +kernel) (by decide +kernel)
set_option maxRecDepth 20000 in
theorem gX10_fillings_X10_many : GoodIn wsX10_fillings (va_wsS RX10 128 yX10_many wsX10_many) := goodIn_app (goodIn_of _ (by decide +kernel)) ggX10_fillings_X10_many
set_option maxRecDepth 20000 in
theorem ggX10_fillings_X10_countPrimes : GoodIn wsX10_fillings wsX10_countPrimes := goodIn_r _ [25, 1, 32, 33, 34, 35, 36, 37, 38, 39, 40, 41, 42, 43, 44, 45, 46] (by decide +kernel) (by decide +kernel)
set_option maxRecDepth 20000 in
theorem gX10_fillings_X10_countPrimes : GoodIn wsX10_fillings (wsV RX10 204 RX10 yX10_countPrimes wsX10_countPrimes) := goodIn_app (goodIn_of _ (by decide +kernel)) ggX10_fillings_X10_countPrimes
set_option maxRecDepth 20000 in
theorem ggX10_fillings_X10_length : GoodIn wsX10_fillings wsX10_length := goodIn_r _ [20, 21, 7, 8, 5, 9] (by decide +kernel) (by decide +kernel)
set_option maxRecDepth 20000 in
theorem gX10_fillings_X10_length : GoodIn wsX10_fillings (va_wsS RX10 60 yX10_length wsX10_length) := goodIn_app (goodIn_of _ (by decide +kernel)) ggX10_fillings_X10_length
set_option maxRecDepth 20000 in
theorem ggX10_fillings_X10_hookOf : GoodIn wsX10_fillings wsX10_hookOf := goodIn_r _ [28, 18, 19, 5, 20, 21, 7, 8, 9, 29, 30, 31] (by decide +kernel) (by decide +kernel)
set_option maxRecDepth 20000 in
theorem gX10_fillings_X10_hookOf : GoodIn wsX10_fillings (va_wsS RX10 201 yX10_hookOf wsX10_hookOf) := goodIn_app (goodIn_of _ (by decide +kernel)) ggX10_fillings_X10_hookOf
theorem dX10_fillings_0 : decode cX10_fillings 0 = .ok (.aload_n 0, 1) := by decide +kernel
theorem dX10_fillings_1 : decode cX10_fillings 1 = .ok (.iload_n 1, 1) := by decide +kernel
theorem dX10_fillings_2 : decode cX10_fillings 2 = .ok (.invokestatic 64, 3) := by decide +kernel
theorem dX10_fillings_5 : decode cX10_fillings 5 = .ok (.ifCond .eq 7, 3) := by decide +kernel
theorem dX10_fillings_8 : decode cX10_fillings 8 = .ok (.iconst 0, 1) := by decide +kernel
theorem dX10_fillings_9 : decode cX10_fillings 9 = .ok (.goto 4, 3) := by decide +kernel
theorem dX10_fillings_12 : decode cX10_fillings 12 = .ok (.iconst 1, 1) := by decide +kernel
theorem dX10_fillings_13 : decode cX10_fillings 13 = .ok (.invokevirtual 102, 3) := by decide +kernel
theorem dX10_fillings_16 : decode cX10_fillings 16 = .ok (.ifCond .eq 5, 3) := by decide +kernel
theorem dX10_fillings_19 : decode cX10_fillings 19 = .ok (.lconst 0, 1) := by decide +kernel
theorem dX10_fillings_20 : decode cX10_fillings 20 = .ok (.lreturn, 1) := by decide +kernel
theorem dX10_fillings_21 : decode cX10_fillings 21 = .ok (.iconst 0, 1) := by decide +kernel
theorem dX10_fillings_22 : decode cX10_fillings 22 = .ok (.istore_n 2, 1) := by decide +kernel
theorem dX10_fillings_23 : decode cX10_fillings 23 = .ok (.iload_n 2, 1) := by decide +kernel
theorem dX10_fillings_24 : decode cX10_fillings 24 = .ok (.bipush 36, 2) := by decide +kernel
theorem dX10_fillings_26 : decode cX10_fillings 26 = .ok (.if_icmp .gt 16, 3) := by decide +kernel
theorem dX10_fillings_29 : decode cX10_fillings 29 = .ok (.aload_n 0, 1) := by decide +kernel
theorem dX10_fillings_30 : decode cX10_fillings 30 = .ok (.getfield 35, 3) := by decide +kernel
theorem dX10_fillings_33 : decode cX10_fillings 33 = .ok (.iload_n 2, 1) := by decide +kernel
theorem dX10_fillings_34 : decode cX10_fillings 34 = .ok (.iconst 0, 1) := by decide +kernel
theorem dX10_fillings_35 : decode cX10_fillings 35 = .ok (.iastore, 1) := by decide +kernel
theorem dX10_fillings_36 : decode cX10_fillings 36 = .ok (.iinc 2 1, 3) := by decide +kernel
theorem dX10_fillings_39 : decode cX10_fillings 39 = .ok (.goto (-16), 3) := by decide +kernel
theorem dX10_fillings_42 : decode cX10_fillings 42 = .ok (.iconst 2, 1) := by decide +kernel
theorem dX10_fillings_43 : decode cX10_fillings 43 = .ok (.istore_n 2, 1) := by decide +kernel
theorem dX10_fillings_44 : decode cX10_fillings 44 = .ok (.iload_n 2, 1) := by decide +kernel
theorem dX10_fillings_45 : decode cX10_fillings 45 = .ok (.aload_n 0, 1) := by decide +kernel
theorem dX10_fillings_46 : decode cX10_fillings 46 = .ok (.getfield 16, 3) := by decide +kernel
theorem dX10_fillings_49 : decode cX10_fillings 49 = .ok (.iload_n 1, 1) := by decide +kernel
theorem dX10_fillings_50 : decode cX10_fillings 50 = .ok (.invokestatic 128, 3) := by decide +kernel
theorem dX10_fillings_53 : decode cX10_fillings 53 = .ok (.if_icmp .gt 15, 3) := by decide +kernel
theorem dX10_fillings_56 : decode cX10_fillings 56 = .ok (.aload_n 0, 1) := by decide +kernel
theorem dX10_fillings_57 : decode cX10_fillings 57 = .ok (.iload_n 2, 1) := by decide +kernel
theorem dX10_fillings_58 : decode cX10_fillings 58 = .ok (.iconst 1, 1) := by decide +kernel
theorem dX10_fillings_59 : decode cX10_fillings 59 = .ok (.invokevirtual 204, 3) := by decide +kernel
theorem dX10_fillings_62 : decode cX10_fillings 62 = .ok (.iinc 2 1, 3) := by decide +kernel
theorem dX10_fillings_65 : decode cX10_fillings 65 = .ok (.goto (-21), 3) := by decide +kernel
theorem dX10_fillings_68 : decode cX10_fillings 68 = .ok (.iconst 0, 1) := by decide +kernel
theorem dX10_fillings_69 : decode cX10_fillings 69 = .ok (.istore_n 2, 1) := by decide +kernel
theorem dX10_fillings_70 : decode cX10_fillings 70 = .ok (.iload_n 2, 1) := by decide +kernel
theorem dX10_fillings_71 : decode cX10_fillings 71 = .ok (.bipush 6, 2) := by decide +kernel
theorem dX10_fillings_73 : decode cX10_fillings 73 = .ok (.if_icmp .ge 45, 3) := by decide +kernel
theorem dX10_fillings_76 : decode cX10_fillings 76 = .ok (.iconst 0, 1) := by decide +kernel
theorem dX10_fillings_77 : decode cX10_fillings 77 = .ok (.istore_n 3, 1) := by decide +kernel
theorem dX10_fillings_78 : decode cX10_fillings 78 = .ok (.iload_n 3, 1) := by decide +kernel
theorem dX10_fillings_79 : decode cX10_fillings 79 = .ok (.aload_n 0, 1) := by decide +kernel
theorem dX10_fillings_80 : decode cX10_fillings 80 = .ok (.getfield 16, 3) := by decide +kernel
theorem dX10_fillings_83 : decode cX10_fillings 83 = .ok (.iload_n 1, 1) := by decide +kernel
theorem dX10_fillings_84 : decode cX10_fillings 84 = .ok (.iload_n 2, 1) := by decide +kernel
theorem dX10_fillings_85 : decode cX10_fillings 85 = .ok (.invokestatic 60, 3) := by decide +kernel
theorem dX10_fillings_88 : decode cX10_fillings 88 = .ok (.if_icmp .ge 24, 3) := by decide +kernel
theorem dX10_fillings_91 : decode cX10_fillings 91 = .ok (.aload_n 0, 1) := by decide +kernel
theorem dX10_fillings_92 : decode cX10_fillings 92 = .ok (.aload_n 0, 1) := by decide +kernel
theorem dX10_fillings_93 : decode cX10_fillings 93 = .ok (.getfield 16, 3) := by decide +kernel
theorem dX10_fillings_96 : decode cX10_fillings 96 = .ok (.iload_n 1, 1) := by decide +kernel
theorem dX10_fillings_97 : decode cX10_fillings 97 = .ok (.iload_n 2, 1) := by decide +kernel
theorem dX10_fillings_98 : decode cX10_fillings 98 = .ok (.iload_n 3, 1) := by decide +kernel
theorem dX10_fillings_99 : decode cX10_fillings 99 = .ok (.invokestatic 201, 3) := by decide +kernel
theorem dX10_fillings_102 : decode cX10_fillings 102 = .ok (.iconst (-1), 1) := by decide +kernel
theorem dX10_fillings_103 : decode cX10_fillings 103 = .ok (.invokevirtual 204, 3) := by decide +kernel
theorem dX10_fillings_106 : decode cX10_fillings 106 = .ok (.iinc 3 1, 3) := by decide +kernel
theorem dX10_fillings_109 : decode cX10_fillings 109 = .ok (.goto (-31), 3) := by decide +kernel
theorem dX10_fillings_112 : decode cX10_fillings 112 = .ok (.iinc 2 1, 3) := by decide +kernel
theorem dX10_fillings_115 : decode cX10_fillings 115 = .ok (.goto (-45), 3) := by decide +kernel
theorem dX10_fillings_118 : decode cX10_fillings 118 = .ok (.lconst 1, 1) := by decide +kernel
theorem dX10_fillings_119 : decode cX10_fillings 119 = .ok (.lstore_n 2, 1) := by decide +kernel
theorem dX10_fillings_120 : decode cX10_fillings 120 = .ok (.iconst 2, 1) := by decide +kernel
theorem dX10_fillings_121 : decode cX10_fillings 121 = .ok (.istore 4, 2) := by decide +kernel
theorem dX10_fillings_123 : decode cX10_fillings 123 = .ok (.iload 4, 2) := by decide +kernel
theorem dX10_fillings_125 : decode cX10_fillings 125 = .ok (.bipush 36, 2) := by decide +kernel
theorem dX10_fillings_127 : decode cX10_fillings 127 = .ok (.if_icmp .gt 36, 3) := by decide +kernel
theorem dX10_fillings_130 : decode cX10_fillings 130 = .ok (.iconst 0, 1) := by decide +kernel
theorem dX10_fillings_131 : decode cX10_fillings 131 = .ok (.istore 5, 2) := by decide +kernel
theorem dX10_fillings_133 : decode cX10_fillings 133 = .ok (.iload 5, 2) := by decide +kernel
theorem dX10_fillings_135 : decode cX10_fillings 135 = .ok (.aload_n 0, 1) := by decide +kernel
theorem dX10_fillings_136 : decode cX10_fillings 136 = .ok (.getfield 35, 3) := by decide +kernel
theorem dX10_fillings_139 : decode cX10_fillings 139 = .ok (.iload 4, 2) := by decide +kernel
theorem dX10_fillings_141 : decode cX10_fillings 141 = .ok (.iaload, 1) := by decide +kernel
theorem dX10_fillings_142 : decode cX10_fillings 142 = .ok (.if_icmp .ge 15, 3) := by decide +kernel
theorem dX10_fillings_145 : decode cX10_fillings 145 = .ok (.lload_n 2, 1) := by decide +kernel
theorem dX10_fillings_146 : decode cX10_fillings 146 = .ok (.iload 4, 2) := by decide +kernel
theorem dX10_fillings_148 : decode cX10_fillings 148 = .ok (.i2l, 1) := by decide +kernel
theorem dX10_fillings_149 : decode cX10_fillings 149 = .ok (.lmul, 1) := by decide +kernel
theorem dX10_fillings_150 : decode cX10_fillings 150 = .ok (.lstore_n 2, 1) := by decide +kernel
theorem dX10_fillings_151 : decode cX10_fillings 151 = .ok (.iinc 5 1, 3) := by decide +kernel
theorem dX10_fillings_154 : decode cX10_fillings 154 = .ok (.goto (-21), 3) := by decide +kernel
theorem dX10_fillings_157 : decode cX10_fillings 157 = .ok (.iinc 4 1, 3) := by decide +kernel
theorem dX10_fillings_160 : decode cX10_fillings 160 = .ok (.goto (-37), 3) := by decide +kernel
theorem dX10_fillings_163 : decode cX10_fillings 163 = .ok (.lload_n 2, 1) := by decide +kernel
theorem dX10_fillings_164 : decode cX10_fillings 164 = .ok (.lreturn, 1) := by decide +kernel
set_option maxRecDepth 20000 in
theorem ggX10_path_X10_isTable : GoodIn wsX10_path wsX10_isTable := goodIn_r _ [6, 7, 8, 5, 9] (by decide +kernel) (by decide +kernel)
set_option maxRecDepth 20000 in
theorem gX10_path_X10_isTable : GoodIn wsX10_path (va_wsS RX10 64 yX10_isTable wsX10_isTable) := goodIn_app (goodIn_of _ (by decide +kernel)) ggX10_path_X10_isTable
set_option maxRecDepth 20000 in
theorem ggX10_path_X10_in : GoodIn wsX10_path wsX10_in := goodIn_r _ [9] (by decide +kernel) (by decide +kernel)
set_option maxRecDepth 20000 in
theorem gX10_path_X10_in : GoodIn wsX10_path (va_wsS RX10 54 yX10_in wsX10_in) := goodIn_app (goodIn_of _ (by decide +kernel)) ggX10_path_X10_in
set_option maxRecDepth 20000 in
theorem ggX10_path_X10_refused : GoodIn wsX10_path wsX10_refused := goodIn_r _ [13, 14, 25, 26, 27, 28, 29, 30, 31, 32, 33, 34, 35, 36, 37, 38, 39] (by decide +kernel) (by decide +kernel)
set_option maxRecDepth 20000 in
theorem gX10_path_X10_refused : GoodIn wsX10_path (wsV RX10 102 RX10 yX10_refused wsX10_refused) := goodIn_app (goodIn_of _ (by decide +kernel)) ggX10_path_X10_refused
set_option maxRecDepth 20000 in
theorem ggX10_path_X10_length : GoodIn wsX10_path wsX10_length := goodIn_r _ [17, 18, 7, 8, 5, 9] (by decide +kernel) (by decide +kernel)
set_option maxRecDepth 20000 in
theorem gX10_path_X10_length : GoodIn wsX10_path (va_wsS RX10 60 yX10_length wsX10_length) := goodIn_app (goodIn_of _ (by decide +kernel)) ggX10_path_X10_length
set_option maxRecDepth 20000 in
theorem ggX10_path_X10_get : GoodIn wsX10_path wsX10_get := goodIn_r _ [21] (by decide +kernel) (by decide +kernel)
set_option maxRecDepth 20000 in
theorem gX10_path_X10_get : GoodIn wsX10_path (va_wsS RX10 76 yX10_get wsX10_get) := goodIn_app (goodIn_of _ (by decide +kernel)) ggX10_path_X10_get
set_option maxRecDepth 20000 in
theorem ggX10_path_X10_isCorner : GoodIn wsX10_path wsX10_isCorner := goodIn_r _ [24, 15, 16, 5, 17, 18, 7, 8, 9] (by decide +kernel) (by decide +kernel)
set_option maxRecDepth 20000 in
theorem gX10_path_X10_isCorner : GoodIn wsX10_path (va_wsS RX10 137 yX10_isCorner wsX10_isCorner) := goodIn_app (goodIn_of _ (by decide +kernel)) ggX10_path_X10_isCorner
theorem dX10_path_0 : decode cX10_path 0 = .ok (.aload_n 0, 1) := by decide +kernel
theorem dX10_path_1 : decode cX10_path 1 = .ok (.iload_n 1, 1) := by decide +kernel
theorem dX10_path_2 : decode cX10_path 2 = .ok (.invokestatic 64, 3) := by decide +kernel
theorem dX10_path_5 : decode cX10_path 5 = .ok (.ifCond .ne 7, 3) := by decide +kernel
theorem dX10_path_8 : decode cX10_path 8 = .ok (.iconst 1, 1) := by decide +kernel
theorem dX10_path_9 : decode cX10_path 9 = .ok (.goto 18, 3) := by decide +kernel
theorem dX10_path_12 : decode cX10_path 12 = .ok (.iload_n 2, 1) := by decide +kernel
theorem dX10_path_13 : decode cX10_path 13 = .ok (.i2l, 1) := by decide +kernel
theorem dX10_path_14 : decode cX10_path 14 = .ok (.lconst 0, 1) := by decide +kernel
theorem dX10_path_15 : decode cX10_path 15 = .ok (.lconst 1, 1) := by decide +kernel
theorem dX10_path_16 : decode cX10_path 16 = .ok (.invokestatic 54, 3) := by decide +kernel
theorem dX10_path_19 : decode cX10_path 19 = .ok (.ifCond .ne 7, 3) := by decide +kernel
theorem dX10_path_22 : decode cX10_path 22 = .ok (.iconst 2, 1) := by decide +kernel
theorem dX10_path_23 : decode cX10_path 23 = .ok (.goto 4, 3) := by decide +kernel
theorem dX10_path_26 : decode cX10_path 26 = .ok (.iconst 0, 1) := by decide +kernel
theorem dX10_path_27 : decode cX10_path 27 = .ok (.invokevirtual 102, 3) := by decide +kernel
theorem dX10_path_30 : decode cX10_path 30 = .ok (.ifCond .eq 5, 3) := by decide +kernel
theorem dX10_path_33 : decode cX10_path 33 = .ok (.iconst 0, 1) := by decide +kernel
theorem dX10_path_34 : decode cX10_path 34 = .ok (.ireturn, 1) := by decide +kernel
theorem dX10_path_35 : decode cX10_path 35 = .ok (.bipush (-9), 2) := by decide +kernel
theorem dX10_path_37 : decode cX10_path 37 = .ok (.istore_n 3, 1) := by decide +kernel
theorem dX10_path_38 : decode cX10_path 38 = .ok (.iconst 0, 1) := by decide +kernel
theorem dX10_path_39 : decode cX10_path 39 = .ok (.istore 4, 2) := by decide +kernel
theorem dX10_path_41 : decode cX10_path 41 = .ok (.iconst 0, 1) := by decide +kernel
theorem dX10_path_42 : decode cX10_path 42 = .ok (.istore 5, 2) := by decide +kernel
theorem dX10_path_44 : decode cX10_path 44 = .ok (.iload 5, 2) := by decide +kernel
theorem dX10_path_46 : decode cX10_path 46 = .ok (.bipush 6, 2) := by decide +kernel
theorem dX10_path_48 : decode cX10_path 48 = .ok (.if_icmp .ge 197, 3) := by decide +kernel
theorem dX10_path_51 : decode cX10_path 51 = .ok (.iconst 0, 1) := by decide +kernel
theorem dX10_path_52 : decode cX10_path 52 = .ok (.istore 6, 2) := by decide +kernel
theorem dX10_path_54 : decode cX10_path 54 = .ok (.iload 6, 2) := by decide +kernel
theorem dX10_path_56 : decode cX10_path 56 = .ok (.aload_n 0, 1) := by decide +kernel
theorem dX10_path_57 : decode cX10_path 57 = .ok (.getfield 16, 3) := by decide +kernel
theorem dX10_path_60 : decode cX10_path 60 = .ok (.iload_n 1, 1) := by decide +kernel
theorem dX10_path_61 : decode cX10_path 61 = .ok (.iload 5, 2) := by decide +kernel
theorem dX10_path_63 : decode cX10_path 63 = .ok (.invokestatic 60, 3) := by decide +kernel
theorem dX10_path_66 : decode cX10_path 66 = .ok (.if_icmp .ge 173, 3) := by decide +kernel
theorem dX10_path_69 : decode cX10_path 69 = .ok (.iload 5, 2) := by decide +kernel
theorem dX10_path_71 : decode cX10_path 71 = .ok (.ifCond .le 21, 3) := by decide +kernel
theorem dX10_path_74 : decode cX10_path 74 = .ok (.aload_n 0, 1) := by decide +kernel
theorem dX10_path_75 : decode cX10_path 75 = .ok (.getfield 32, 3) := by decide +kernel
theorem dX10_path_78 : decode cX10_path 78 = .ok (.bipush 6, 2) := by decide +kernel
theorem dX10_path_80 : decode cX10_path 80 = .ok (.iload 5, 2) := by decide +kernel
theorem dX10_path_82 : decode cX10_path 82 = .ok (.iconst 1, 1) := by decide +kernel
theorem dX10_path_83 : decode cX10_path 83 = .ok (.isub, 1) := by decide +kernel
theorem dX10_path_84 : decode cX10_path 84 = .ok (.imul, 1) := by decide +kernel
theorem dX10_path_85 : decode cX10_path 85 = .ok (.iload 6, 2) := by decide +kernel
theorem dX10_path_87 : decode cX10_path 87 = .ok (.iadd, 1) := by decide +kernel
theorem dX10_path_88 : decode cX10_path 88 = .ok (.iaload, 1) := by decide +kernel
theorem dX10_path_89 : decode cX10_path 89 = .ok (.goto 4, 3) := by decide +kernel
theorem dX10_path_92 : decode cX10_path 92 = .ok (.iconst 0, 1) := by decide +kernel
theorem dX10_path_93 : decode cX10_path 93 = .ok (.istore 7, 2) := by decide +kernel
theorem dX10_path_95 : decode cX10_path 95 = .ok (.iload 6, 2) := by decide +kernel
theorem dX10_path_97 : decode cX10_path 97 = .ok (.ifCond .le 21, 3) := by decide +kernel
theorem dX10_path_100 : decode cX10_path 100 = .ok (.aload_n 0, 1) := by decide +kernel
theorem dX10_path_101 : decode cX10_path 101 = .ok (.getfield 32, 3) := by decide +kernel
theorem dX10_path_104 : decode cX10_path 104 = .ok (.bipush 6, 2) := by decide +kernel
theorem dX10_path_106 : decode cX10_path 106 = .ok (.iload 5, 2) := by decide +kernel
theorem dX10_path_108 : decode cX10_path 108 = .ok (.imul, 1) := by decide +kernel
theorem dX10_path_109 : decode cX10_path 109 = .ok (.iload 6, 2) := by decide +kernel
theorem dX10_path_111 : decode cX10_path 111 = .ok (.iadd, 1) := by decide +kernel
theorem dX10_path_112 : decode cX10_path 112 = .ok (.iconst 1, 1) := by decide +kernel
theorem dX10_path_113 : decode cX10_path 113 = .ok (.isub, 1) := by decide +kernel
theorem dX10_path_114 : decode cX10_path 114 = .ok (.iaload, 1) := by decide +kernel
theorem dX10_path_115 : decode cX10_path 115 = .ok (.goto 4, 3) := by decide +kernel
theorem dX10_path_118 : decode cX10_path 118 = .ok (.iconst 0, 1) := by decide +kernel
theorem dX10_path_119 : decode cX10_path 119 = .ok (.istore 8, 2) := by decide +kernel
theorem dX10_path_121 : decode cX10_path 121 = .ok (.aload_n 0, 1) := by decide +kernel
theorem dX10_path_122 : decode cX10_path 122 = .ok (.getfield 16, 3) := by decide +kernel
theorem dX10_path_125 : decode cX10_path 125 = .ok (.iload_n 1, 1) := by decide +kernel
theorem dX10_path_126 : decode cX10_path 126 = .ok (.iload 5, 2) := by decide +kernel
theorem dX10_path_128 : decode cX10_path 128 = .ok (.iload 6, 2) := by decide +kernel
theorem dX10_path_130 : decode cX10_path 130 = .ok (.invokestatic 76, 3) := by decide +kernel
theorem dX10_path_133 : decode cX10_path 133 = .ok (.iload 7, 2) := by decide +kernel
theorem dX10_path_135 : decode cX10_path 135 = .ok (.iload 8, 2) := by decide +kernel
theorem dX10_path_137 : decode cX10_path 137 = .ok (.if_icmp .le 8, 3) := by decide +kernel
theorem dX10_path_140 : decode cX10_path 140 = .ok (.iload 7, 2) := by decide +kernel
theorem dX10_path_142 : decode cX10_path 142 = .ok (.goto 5, 3) := by decide +kernel
theorem dX10_path_145 : decode cX10_path 145 = .ok (.iload 8, 2) := by decide +kernel
theorem dX10_path_147 : decode cX10_path 147 = .ok (.iadd, 1) := by decide +kernel
theorem dX10_path_148 : decode cX10_path 148 = .ok (.istore 9, 2) := by decide +kernel
theorem dX10_path_150 : decode cX10_path 150 = .ok (.aload_n 0, 1) := by decide +kernel
theorem dX10_path_151 : decode cX10_path 151 = .ok (.getfield 32, 3) := by decide +kernel
theorem dX10_path_154 : decode cX10_path 154 = .ok (.bipush 6, 2) := by decide +kernel
theorem dX10_path_156 : decode cX10_path 156 = .ok (.iload 5, 2) := by decide +kernel
theorem dX10_path_158 : decode cX10_path 158 = .ok (.imul, 1) := by decide +kernel
theorem dX10_path_159 : decode cX10_path 159 = .ok (.iload 6, 2) := by decide +kernel
theorem dX10_path_161 : decode cX10_path 161 = .ok (.iadd, 1) := by decide +kernel
theorem dX10_path_162 : decode cX10_path 162 = .ok (.iload 9, 2) := by decide +kernel
theorem dX10_path_164 : decode cX10_path 164 = .ok (.iastore, 1) := by decide +kernel
theorem dX10_path_165 : decode cX10_path 165 = .ok (.aload_n 0, 1) := by decide +kernel
theorem dX10_path_166 : decode cX10_path 166 = .ok (.getfield 16, 3) := by decide +kernel
theorem dX10_path_169 : decode cX10_path 169 = .ok (.iload_n 1, 1) := by decide +kernel
theorem dX10_path_170 : decode cX10_path 170 = .ok (.iload 5, 2) := by decide +kernel
theorem dX10_path_172 : decode cX10_path 172 = .ok (.invokestatic 137, 3) := by decide +kernel
theorem dX10_path_175 : decode cX10_path 175 = .ok (.ifCond .eq 24, 3) := by decide +kernel
theorem dX10_path_178 : decode cX10_path 178 = .ok (.iload 6, 2) := by decide +kernel
theorem dX10_path_180 : decode cX10_path 180 = .ok (.aload_n 0, 1) := by decide +kernel
theorem dX10_path_181 : decode cX10_path 181 = .ok (.getfield 16, 3) := by decide +kernel
theorem dX10_path_184 : decode cX10_path 184 = .ok (.iload_n 1, 1) := by decide +kernel
theorem dX10_path_185 : decode cX10_path 185 = .ok (.iload 5, 2) := by decide +kernel
theorem dX10_path_187 : decode cX10_path 187 = .ok (.invokestatic 60, 3) := by decide +kernel
theorem dX10_path_190 : decode cX10_path 190 = .ok (.iconst 1, 1) := by decide +kernel
theorem dX10_path_191 : decode cX10_path 191 = .ok (.isub, 1) := by decide +kernel
theorem dX10_path_192 : decode cX10_path 192 = .ok (.if_icmp .ne 7, 3) := by decide +kernel
theorem dX10_path_195 : decode cX10_path 195 = .ok (.iconst 1, 1) := by decide +kernel
theorem dX10_path_196 : decode cX10_path 196 = .ok (.goto 4, 3) := by decide +kernel
theorem dX10_path_199 : decode cX10_path 199 = .ok (.iconst 0, 1) := by decide +kernel
theorem dX10_path_200 : decode cX10_path 200 = .ok (.istore 10, 2) := by decide +kernel
theorem dX10_path_202 : decode cX10_path 202 = .ok (.iload 10, 2) := by decide +kernel
theorem dX10_path_204 : decode cX10_path 204 = .ok (.ifCond .eq 29, 3) := by decide +kernel
theorem dX10_path_207 : decode cX10_path 207 = .ok (.iload_n 3, 1) := by decide +kernel
theorem dX10_path_208 : decode cX10_path 208 = .ok (.bipush (-9), 2) := by decide +kernel
theorem dX10_path_210 : decode cX10_path 210 = .ok (.if_icmp .eq 10, 3) := by decide +kernel
theorem dX10_path_213 : decode cX10_path 213 = .ok (.iload 9, 2) := by decide +kernel
theorem dX10_path_215 : decode cX10_path 215 = .ok (.iload 4, 2) := by decide +kernel
theorem dX10_path_217 : decode cX10_path 217 = .ok (.if_icmp .le 16, 3) := by decide +kernel
theorem dX10_path_220 : decode cX10_path 220 = .ok (.bipush 10, 2) := by decide +kernel
theorem dX10_path_222 : decode cX10_path 222 = .ok (.iload 5, 2) := by decide +kernel
theorem dX10_path_224 : decode cX10_path 224 = .ok (.imul, 1) := by decide +kernel
theorem dX10_path_225 : decode cX10_path 225 = .ok (.iload 6, 2) := by decide +kernel
theorem dX10_path_227 : decode cX10_path 227 = .ok (.iadd, 1) := by decide +kernel
theorem dX10_path_228 : decode cX10_path 228 = .ok (.istore_n 3, 1) := by decide +kernel
theorem dX10_path_229 : decode cX10_path 229 = .ok (.iload 9, 2) := by decide +kernel
theorem dX10_path_231 : decode cX10_path 231 = .ok (.istore 4, 2) := by decide +kernel
theorem dX10_path_233 : decode cX10_path 233 = .ok (.iinc 6 1, 3) := by decide +kernel
theorem dX10_path_236 : decode cX10_path 236 = .ok (.goto (-182), 3) := by decide +kernel
theorem dX10_path_239 : decode cX10_path 239 = .ok (.iinc 5 1, 3) := by decide +kernel
theorem dX10_path_242 : decode cX10_path 242 = .ok (.goto (-198), 3) := by decide +kernel
theorem dX10_path_245 : decode cX10_path 245 = .ok (.iload_n 3, 1) := by decide +kernel
theorem dX10_path_246 : decode cX10_path 246 = .ok (.bipush (-9), 2) := by decide +kernel
theorem dX10_path_248 : decode cX10_path 248 = .ok (.if_icmp .eq 8, 3) := by decide +kernel
theorem dX10_path_251 : decode cX10_path 251 = .ok (.iload_n 2, 1) := by decide +kernel
theorem dX10_path_252 : decode cX10_path 252 = .ok (.iconst 1, 1) := by decide +kernel
theorem dX10_path_253 : decode cX10_path 253 = .ok (.if_icmp .ne 7, 3) := by decide +kernel
theorem dX10_path_256 : decode cX10_path 256 = .ok (.iload_n 3, 1) := by decide +kernel
theorem dX10_path_257 : decode cX10_path 257 = .ok (.goto 5, 3) := by decide +kernel
theorem dX10_path_260 : decode cX10_path 260 = .ok (.iload 4, 2) := by decide +kernel
theorem dX10_path_262 : decode cX10_path 262 = .ok (.ireturn, 1) := by decide +kernel
set_option maxRecDepth 20000 in
theorem ggX10_ifInserted_X10_isTable : GoodIn wsX10_ifInserted wsX10_isTable := goodIn_r _ [7, 8, 9, 6, 10] (by decide +kernel) (by decide +kernel)
set_option maxRecDepth 20000 in
theorem gX10_ifInserted_X10_isTable : GoodIn wsX10_ifInserted (va_wsS RX10 64 yX10_isTable wsX10_isTable) := goodIn_app (goodIn_of _ (by decide +kernel)) ggX10_ifInserted_X10_isTable
set_option maxRecDepth 20000 in
theorem ggX10_ifInserted_X10_isNumber : GoodIn wsX10_ifInserted wsX10_isNumber := goodIn_r _ [13, 14, 8, 9, 6, 10] (by decide +kernel) (by decide +kernel)
set_option maxRecDepth 20000 in
theorem gX10_ifInserted_X10_isNumber : GoodIn wsX10_ifInserted (va_wsS RX10 156 yX10_isNumber wsX10_isNumber) := goodIn_app (goodIn_of _ (by decide +kernel)) ggX10_ifInserted_X10_isNumber
set_option maxRecDepth 20000 in
theorem ggX10_ifInserted_X10_refused : GoodIn wsX10_ifInserted wsX10_refused := goodIn_r _ [18, 19, 47, 48, 49, 50, 51, 52, 53, 54, 55, 56, 57, 58, 59, 60, 61] (by decide +kernel) (by decide +kernel)
set_option maxRecDepth 20000 in
theorem gX10_ifInserted_X10_refused : GoodIn wsX10_ifInserted (wsV RX10 102 RX10 yX10_refused wsX10_refused) := goodIn_app (goodIn_of _ (by decide +kernel)) ggX10_ifInserted_X10_refused
set_option maxRecDepth 20000 in
theorem ggX10_ifInserted_X10_gapRow : GoodIn wsX10_ifInserted wsX10_gapRow := goodIn_r _ [22, 23, 24, 6, 25, 26, 27, 28, 29, 8, 9, 10] (by decide +kernel) (by decide +kernel)
set_option maxRecDepth 20000 in
theorem gX10_ifInserted_X10_gapRow : GoodIn wsX10_ifInserted (va_wsS RX10 87 yX10_gapRow wsX10_gapRow) := goodIn_app (goodIn_of _ (by decide +kernel)) ggX10_ifInserted_X10_gapRow
set_option maxRecDepth 20000 in
theorem ggX10_ifInserted_X10_copy : GoodIn wsX10_ifInserted wsX10_copy := goodIn_r _ [32] (by decide +kernel) (by decide +kernel)
set_option maxRecDepth 20000 in
theorem gX10_ifInserted_X10_copy : GoodIn wsX10_ifInserted (va_wsS RX10 50 yX10_copy wsX10_copy) := goodIn_app (goodIn_of _ (by decide +kernel)) ggX10_ifInserted_X10_copy
set_option maxRecDepth 20000 in
theorem ggX10_ifInserted_X10_insertOn : GoodIn wsX10_ifInserted wsX10_insertOn := goodIn_r _ [36, 3, 20, 21, 6, 22, 23, 24, 25, 26, 27, 28, 29, 8, 9, 10, 37, 38, 39, 40, 41, 42, 43, 44, 45, 46, 47, 48, 49, 50, 51, 52, 53, 54, 55, 56, 57, 58, 59, 60, 61] (by decide +kernel) (by decide +kernel)
set_option maxRecDepth 20000 in
theorem gX10_ifInserted_X10_insertOn : GoodIn wsX10_ifInserted (wsV RX10 162 RX10 yX10_insertOn wsX10_insertOn) := goodIn_app (goodIn_of _ (by decide +kernel)) ggX10_ifInserted_X10_insertOn
theorem dX10_ifInserted_0 : decode cX10_ifInserted 0 = .ok (.aload_n 0, 1) := by decide +kernel
theorem dX10_ifInserted_1 : decode cX10_ifInserted 1 = .ok (.iload_n 1, 1) := by decide +kernel
theorem dX10_ifInserted_2 : decode cX10_ifInserted 2 = .ok (.invokestatic 64, 3) := by decide +kernel
theorem dX10_ifInserted_5 : decode cX10_ifInserted 5 = .ok (.ifCond .ne 7, 3) := by decide +kernel
theorem dX10_ifInserted_8 : decode cX10_ifInserted 8 = .ok (.iconst 1, 1) := by decide +kernel
theorem dX10_ifInserted_9 : decode cX10_ifInserted 9 = .ok (.goto 15, 3) := by decide +kernel
theorem dX10_ifInserted_12 : decode cX10_ifInserted 12 = .ok (.iload_n 2, 1) := by decide +kernel
theorem dX10_ifInserted_13 : decode cX10_ifInserted 13 = .ok (.invokestatic 156, 3) := by decide +kernel
theorem dX10_ifInserted_16 : decode cX10_ifInserted 16 = .ok (.ifCond .ne 7, 3) := by decide +kernel
theorem dX10_ifInserted_19 : decode cX10_ifInserted 19 = .ok (.iconst 2, 1) := by decide +kernel
theorem dX10_ifInserted_20 : decode cX10_ifInserted 20 = .ok (.goto 4, 3) := by decide +kernel
theorem dX10_ifInserted_23 : decode cX10_ifInserted 23 = .ok (.iconst 0, 1) := by decide +kernel
theorem dX10_ifInserted_24 : decode cX10_ifInserted 24 = .ok (.invokevirtual 102, 3) := by decide +kernel
theorem dX10_ifInserted_27 : decode cX10_ifInserted 27 = .ok (.ifCond .eq 5, 3) := by decide +kernel
theorem dX10_ifInserted_30 : decode cX10_ifInserted 30 = .ok (.iconst 0, 1) := by decide +kernel
theorem dX10_ifInserted_31 : decode cX10_ifInserted 31 = .ok (.ireturn, 1) := by decide +kernel
theorem dX10_ifInserted_32 : decode cX10_ifInserted 32 = .ok (.aload_n 0, 1) := by decide +kernel
theorem dX10_ifInserted_33 : decode cX10_ifInserted 33 = .ok (.getfield 16, 3) := by decide +kernel
theorem dX10_ifInserted_36 : decode cX10_ifInserted 36 = .ok (.iload_n 1, 1) := by decide +kernel
theorem dX10_ifInserted_37 : decode cX10_ifInserted 37 = .ok (.invokestatic 87, 3) := by decide +kernel
theorem dX10_ifInserted_40 : decode cX10_ifInserted 40 = .ok (.bipush (-9), 2) := by decide +kernel
theorem dX10_ifInserted_42 : decode cX10_ifInserted 42 = .ok (.if_icmp .ne 6, 3) := by decide +kernel
theorem dX10_ifInserted_45 : decode cX10_ifInserted 45 = .ok (.bipush (-9), 2) := by decide +kernel
theorem dX10_ifInserted_47 : decode cX10_ifInserted 47 = .ok (.ireturn, 1) := by decide +kernel
theorem dX10_ifInserted_48 : decode cX10_ifInserted 48 = .ok (.aload_n 0, 1) := by decide +kernel
theorem dX10_ifInserted_49 : decode cX10_ifInserted 49 = .ok (.getfield 16, 3) := by decide +kernel
theorem dX10_ifInserted_52 : decode cX10_ifInserted 52 = .ok (.iconst 0, 1) := by decide +kernel
theorem dX10_ifInserted_53 : decode cX10_ifInserted 53 = .ok (.aload_n 0, 1) := by decide +kernel
theorem dX10_ifInserted_54 : decode cX10_ifInserted 54 = .ok (.getfield 19, 3) := by decide +kernel
theorem dX10_ifInserted_57 : decode cX10_ifInserted 57 = .ok (.iconst 0, 1) := by decide +kernel
theorem dX10_ifInserted_58 : decode cX10_ifInserted 58 = .ok (.bipush 84, 2) := by decide +kernel
theorem dX10_ifInserted_60 : decode cX10_ifInserted 60 = .ok (.invokestatic 50, 3) := by decide +kernel
theorem dX10_ifInserted_63 : decode cX10_ifInserted 63 = .ok (.aload_n 0, 1) := by decide +kernel
theorem dX10_ifInserted_64 : decode cX10_ifInserted 64 = .ok (.aload_n 0, 1) := by decide +kernel
theorem dX10_ifInserted_65 : decode cX10_ifInserted 65 = .ok (.getfield 19, 3) := by decide +kernel
theorem dX10_ifInserted_68 : decode cX10_ifInserted 68 = .ok (.iload_n 1, 1) := by decide +kernel
theorem dX10_ifInserted_69 : decode cX10_ifInserted 69 = .ok (.iload_n 2, 1) := by decide +kernel
theorem dX10_ifInserted_70 : decode cX10_ifInserted 70 = .ok (.invokevirtual 162, 3) := by decide +kernel
theorem dX10_ifInserted_73 : decode cX10_ifInserted 73 = .ok (.istore 4, 2) := by decide +kernel
theorem dX10_ifInserted_75 : decode cX10_ifInserted 75 = .ok (.iload_n 3, 1) := by decide +kernel
theorem dX10_ifInserted_76 : decode cX10_ifInserted 76 = .ok (.ifCond .eq 10, 3) := by decide +kernel
theorem dX10_ifInserted_79 : decode cX10_ifInserted 79 = .ok (.aload_n 0, 1) := by decide +kernel
theorem dX10_ifInserted_80 : decode cX10_ifInserted 80 = .ok (.getfield 84, 3) := by decide +kernel
theorem dX10_ifInserted_83 : decode cX10_ifInserted 83 = .ok (.goto 5, 3) := by decide +kernel
theorem dX10_ifInserted_86 : decode cX10_ifInserted 86 = .ok (.iload 4, 2) := by decide +kernel
theorem dX10_ifInserted_88 : decode cX10_ifInserted 88 = .ok (.ireturn, 1) := by decide +kernel
set_option maxRecDepth 20000 in
theorem ggX10_ifRemoved_X10_have : GoodIn wsX10_ifRemoved wsX10_have := goodIn_r _ [7, 1, 8, 9, 6, 10, 11, 12, 13, 14, 15, 16, 17, 18, 19, 20, 38, 39, 40, 41, 42, 43, 44, 45, 46, 47, 48, 49, 50, 51, 52] (by decide +kernel) (by decide +kernel)
set_option maxRecDepth 20000 in
theorem gX10_ifRemoved_X10_have : GoodIn wsX10_ifRemoved (wsV RX10 150 RX10 yX10_have wsX10_have) := goodIn_app (goodIn_of _ (by decide +kernel)) ggX10_ifRemoved_X10_have
set_option maxRecDepth 20000 in
theorem ggX10_ifRemoved_X10_refused : GoodIn wsX10_ifRemoved wsX10_refused := goodIn_r _ [24, 25, 38, 39, 40, 41, 42, 43, 44, 45, 46, 47, 48, 49, 50, 51, 52] (by decide +kernel) (by decide +kernel)
set_option maxRecDepth 20000 in
theorem gX10_ifRemoved_X10_refused : GoodIn wsX10_ifRemoved (wsV RX10 102 RX10 yX10_refused wsX10_refused) := goodIn_app (goodIn_of _ (by decide +kernel)) ggX10_ifRemoved_X10_refused
set_option maxRecDepth 20000 in
theorem ggX10_ifRemoved_X10_copy : GoodIn wsX10_ifRemoved wsX10_copy := goodIn_r _ [28] (by decide +kernel) (by decide +kernel)
set_option maxRecDepth 20000 in
theorem gX10_ifRemoved_X10_copy : GoodIn wsX10_ifRemoved (va_wsS RX10 50 yX10_copy wsX10_copy) := goodIn_app (goodIn_of _ (by decide +kernel)) ggX10_ifRemoved_X10_copy
set_option maxRecDepth 20000 in
theorem ggX10_ifRemoved_X10_removeOn : GoodIn wsX10_ifRemoved wsX10_removeOn := goodIn_r _ [31, 14, 15, 6, 16, 17, 18, 19, 20, 11, 12, 13, 32, 33, 34, 35, 36, 37] (by decide +kernel) (by decide +kernel)
set_option maxRecDepth 20000 in
theorem gX10_ifRemoved_X10_removeOn : GoodIn wsX10_ifRemoved (va_wsS RX10 165 yX10_removeOn wsX10_removeOn) := goodIn_app (goodIn_of _ (by decide +kernel)) ggX10_ifRemoved_X10_removeOn
theorem dX10_ifRemoved_0 : decode cX10_ifRemoved 0 = .ok (.aload_n 0, 1) := by decide +kernel
theorem dX10_ifRemoved_1 : decode cX10_ifRemoved 1 = .ok (.aload_n 0, 1) := by decide +kernel
theorem dX10_ifRemoved_2 : decode cX10_ifRemoved 2 = .ok (.iload_n 1, 1) := by decide +kernel
theorem dX10_ifRemoved_3 : decode cX10_ifRemoved 3 = .ok (.iload_n 2, 1) := by decide +kernel
theorem dX10_ifRemoved_4 : decode cX10_ifRemoved 4 = .ok (.iload_n 3, 1) := by decide +kernel
theorem dX10_ifRemoved_5 : decode cX10_ifRemoved 5 = .ok (.invokevirtual 150, 3) := by decide +kernel
theorem dX10_ifRemoved_8 : decode cX10_ifRemoved 8 = .ok (.ifCond .eq 7, 3) := by decide +kernel
theorem dX10_ifRemoved_11 : decode cX10_ifRemoved 11 = .ok (.iconst 0, 1) := by decide +kernel
theorem dX10_ifRemoved_12 : decode cX10_ifRemoved 12 = .ok (.goto 4, 3) := by decide +kernel
theorem dX10_ifRemoved_15 : decode cX10_ifRemoved 15 = .ok (.iconst 1, 1) := by decide +kernel
theorem dX10_ifRemoved_16 : decode cX10_ifRemoved 16 = .ok (.invokevirtual 102, 3) := by decide +kernel
theorem dX10_ifRemoved_19 : decode cX10_ifRemoved 19 = .ok (.ifCond .eq 5, 3) := by decide +kernel
theorem dX10_ifRemoved_22 : decode cX10_ifRemoved 22 = .ok (.iconst 0, 1) := by decide +kernel
theorem dX10_ifRemoved_23 : decode cX10_ifRemoved 23 = .ok (.ireturn, 1) := by decide +kernel
theorem dX10_ifRemoved_24 : decode cX10_ifRemoved 24 = .ok (.aload_n 0, 1) := by decide +kernel
theorem dX10_ifRemoved_25 : decode cX10_ifRemoved 25 = .ok (.getfield 16, 3) := by decide +kernel
theorem dX10_ifRemoved_28 : decode cX10_ifRemoved 28 = .ok (.iconst 0, 1) := by decide +kernel
theorem dX10_ifRemoved_29 : decode cX10_ifRemoved 29 = .ok (.aload_n 0, 1) := by decide +kernel
theorem dX10_ifRemoved_30 : decode cX10_ifRemoved 30 = .ok (.getfield 19, 3) := by decide +kernel
theorem dX10_ifRemoved_33 : decode cX10_ifRemoved 33 = .ok (.iconst 0, 1) := by decide +kernel
theorem dX10_ifRemoved_34 : decode cX10_ifRemoved 34 = .ok (.bipush 84, 2) := by decide +kernel
theorem dX10_ifRemoved_36 : decode cX10_ifRemoved 36 = .ok (.invokestatic 50, 3) := by decide +kernel
theorem dX10_ifRemoved_39 : decode cX10_ifRemoved 39 = .ok (.aload_n 0, 1) := by decide +kernel
theorem dX10_ifRemoved_40 : decode cX10_ifRemoved 40 = .ok (.getfield 19, 3) := by decide +kernel
theorem dX10_ifRemoved_43 : decode cX10_ifRemoved 43 = .ok (.iload_n 1, 1) := by decide +kernel
theorem dX10_ifRemoved_44 : decode cX10_ifRemoved 44 = .ok (.iload_n 2, 1) := by decide +kernel
theorem dX10_ifRemoved_45 : decode cX10_ifRemoved 45 = .ok (.iload_n 3, 1) := by decide +kernel
theorem dX10_ifRemoved_46 : decode cX10_ifRemoved 46 = .ok (.invokestatic 165, 3) := by decide +kernel
theorem dX10_ifRemoved_49 : decode cX10_ifRemoved 49 = .ok (.ireturn, 1) := by decide +kernel
set_option maxRecDepth 20000 in
theorem ggX10_has_X10_upTo : GoodIn wsX10_has wsX10_upTo := goodIn_r _ [4, 5, 6, 3, 7, 8, 9, 10, 11, 12, 13, 14, 15, 16, 17] (by decide +kernel) (by decide +kernel)
set_option maxRecDepth 20000 in
theorem gX10_has_X10_upTo : GoodIn wsX10_has (va_wsS RX10 193 yX10_upTo wsX10_upTo) := goodIn_app (goodIn_of _ (by decide +kernel)) ggX10_has_X10_upTo
theorem dX10_has_0 : decode cX10_has 0 = .ok (.aload_n 0, 1) := by decide +kernel
theorem dX10_has_1 : decode cX10_has 1 = .ok (.iload_n 1, 1) := by decide +kernel
theorem dX10_has_2 : decode cX10_has 2 = .ok (.iload_n 2, 1) := by decide +kernel
theorem dX10_has_3 : decode cX10_has 3 = .ok (.invokestatic 193, 3) := by decide +kernel
theorem dX10_has_6 : decode cX10_has 6 = .ok (.aload_n 0, 1) := by decide +kernel
theorem dX10_has_7 : decode cX10_has 7 = .ok (.iload_n 1, 1) := by decide +kernel
theorem dX10_has_8 : decode cX10_has 8 = .ok (.iload_n 2, 1) := by decide +kernel
theorem dX10_has_9 : decode cX10_has 9 = .ok (.iconst 1, 1) := by decide +kernel
theorem dX10_has_10 : decode cX10_has 10 = .ok (.isub, 1) := by decide +kernel
theorem dX10_has_11 : decode cX10_has 11 = .ok (.invokestatic 193, 3) := by decide +kernel
theorem dX10_has_14 : decode cX10_has 14 = .ok (.if_icmp .le 7, 3) := by decide +kernel
theorem dX10_has_17 : decode cX10_has 17 = .ok (.iconst 1, 1) := by decide +kernel
theorem dX10_has_18 : decode cX10_has 18 = .ok (.goto 4, 3) := by decide +kernel
theorem dX10_has_21 : decode cX10_has 21 = .ok (.iconst 0, 1) := by decide +kernel
theorem dX10_has_22 : decode cX10_has 22 = .ok (.ireturn, 1) := by decide +kernel
set_option maxRecDepth 20000 in
theorem ggX10_command_X10_pairsOf : GoodIn wsX10_command wsX10_pairsOf := goodIn_r _ [5, 6, 7, 4, 8, 9, 10, 11, 12, 13, 14, 15, 16, 17, 18, 19, 20, 21] (by decide +kernel) (by decide +kernel)
set_option maxRecDepth 20000 in
theorem gX10_command_X10_pairsOf : GoodIn wsX10_command (va_wsS RX10 198 yX10_pairsOf wsX10_pairsOf) := goodIn_app (goodIn_of _ (by decide +kernel)) ggX10_command_X10_pairsOf
set_option maxRecDepth 20000 in
theorem ggX10_command_X10_isTable : GoodIn wsX10_command wsX10_isTable := goodIn_r _ [24, 10, 11, 4, 12] (by decide +kernel) (by decide +kernel)
set_option maxRecDepth 20000 in
theorem gX10_command_X10_isTable : GoodIn wsX10_command (va_wsS RX10 64 yX10_isTable wsX10_isTable) := goodIn_app (goodIn_of _ (by decide +kernel)) ggX10_command_X10_isTable
set_option maxRecDepth 20000 in
theorem ggX10_command_X10_gapRow : GoodIn wsX10_command wsX10_gapRow := goodIn_r _ [27, 28, 29, 4, 30, 6, 7, 8, 9, 10, 11, 12] (by decide +kernel) (by decide +kernel)
set_option maxRecDepth 20000 in
theorem gX10_command_X10_gapRow : GoodIn wsX10_command (va_wsS RX10 87 yX10_gapRow wsX10_gapRow) := goodIn_app (goodIn_of _ (by decide +kernel)) ggX10_command_X10_gapRow
set_option maxRecDepth 20000 in
theorem ggX10_command_X10_insertOn : GoodIn wsX10_command wsX10_insertOn := goodIn_r _ [34, 35, 25, 26, 4, 27, 28, 29, 30, 6, 7, 8, 9, 10, 11, 12, 36, 37, 38, 39, 40, 41, 42, 13, 14, 15, 69, 70, 71, 72, 73, 74, 75, 76, 77, 78, 79, 80, 81, 82, 83] (by decide +kernel) (by decide +kernel)
set_option maxRecDepth 20000 in
theorem gX10_command_X10_insertOn : GoodIn wsX10_command (wsV RX10 162 RX10 yX10_insertOn wsX10_insertOn) := goodIn_app (goodIn_of _ (by decide +kernel)) ggX10_command_X10_insertOn
set_option maxRecDepth 20000 in
theorem ggX10_command_X10_isCell : GoodIn wsX10_command wsX10_isCell := goodIn_r _ [45, 6, 7, 4, 8, 9, 10, 11, 12] (by decide +kernel) (by decide +kernel)
set_option maxRecDepth 20000 in
theorem gX10_command_X10_isCell : GoodIn wsX10_command (va_wsS RX10 68 yX10_isCell wsX10_isCell) := goodIn_app (goodIn_of _ (by decide +kernel)) ggX10_command_X10_isCell
set_option maxRecDepth 20000 in
theorem ggX10_command_X10_get : GoodIn wsX10_command wsX10_get := goodIn_r _ [15] (by decide +kernel) (by decide +kernel)
set_option maxRecDepth 20000 in
theorem gX10_command_X10_get : GoodIn wsX10_command (va_wsS RX10 76 yX10_get wsX10_get) := goodIn_app (goodIn_of _ (by decide +kernel)) ggX10_command_X10_get
set_option maxRecDepth 20000 in
theorem ggX10_command_X10_removeOn : GoodIn wsX10_command wsX10_removeOn := goodIn_r _ [48, 43, 44, 4, 45, 6, 7, 8, 9, 10, 11, 12, 13, 14, 15, 36, 37, 38] (by decide +kernel) (by decide +kernel)
set_option maxRecDepth 20000 in
theorem gX10_command_X10_removeOn : GoodIn wsX10_command (va_wsS RX10 165 yX10_removeOn wsX10_removeOn) := goodIn_app (goodIn_of _ (by decide +kernel)) ggX10_command_X10_removeOn
set_option maxRecDepth 20000 in
theorem ggX10_command_X10_transposeOn : GoodIn wsX10_command wsX10_transposeOn := goodIn_r _ [52, 53, 54, 55, 4, 56, 6, 7, 8, 9, 10, 11, 12, 13, 14, 15, 57, 58, 59, 69, 70, 71, 72, 73, 74, 75, 76, 77, 78, 79, 80, 81, 82, 83] (by decide +kernel) (by decide +kernel)
set_option maxRecDepth 20000 in
theorem gX10_command_X10_transposeOn : GoodIn wsX10_command (wsV RX10 171 RX10 yX10_transposeOn wsX10_transposeOn) := goodIn_app (goodIn_of _ (by decide +kernel)) ggX10_command_X10_transposeOn
set_option maxRecDepth 20000 in
theorem ggX10_command_X10_many : GoodIn wsX10_command wsX10_many := goodIn_r _ [62, 6, 7, 4, 8, 9, 10, 11, 12] (by decide +kernel) (by decide +kernel)
set_option maxRecDepth 20000 in
theorem gX10_command_X10_many : GoodIn wsX10_command (va_wsS RX10 128 yX10_many wsX10_many) := goodIn_app (goodIn_of _ (by decide +kernel)) ggX10_command_X10_many
set_option maxRecDepth 20000 in
theorem ggX10_command_X10_has : GoodIn wsX10_command wsX10_has := goodIn_r _ [65, 16, 17, 4, 18, 19, 20, 21, 6, 7, 8, 9, 10, 11, 12, 13, 14, 15] (by decide +kernel) (by decide +kernel)
set_option maxRecDepth 20000 in
theorem gX10_command_X10_has : GoodIn wsX10_command (va_wsS RX10 208 yX10_has wsX10_has) := goodIn_app (goodIn_of _ (by decide +kernel)) ggX10_command_X10_has
set_option maxRecDepth 20000 in
theorem ggX10_command_X10_extreme : GoodIn wsX10_command wsX10_extreme := goodIn_r _ [68, 6, 7, 4, 8, 9, 10, 11, 12, 13, 14, 15] (by decide +kernel) (by decide +kernel)
set_option maxRecDepth 20000 in
theorem gX10_command_X10_extreme : GoodIn wsX10_command (va_wsS RX10 143 yX10_extreme wsX10_extreme) := goodIn_app (goodIn_of _ (by decide +kernel)) ggX10_command_X10_extreme
theorem dX10_command_0 : decode cX10_command 0 = .ok (.iload_n 1, 1) := by decide +kernel
theorem dX10_command_1 : decode cX10_command 1 = .ok (.sipush 10000, 3) := by decide +kernel
theorem dX10_command_4 : decode cX10_command 4 = .ok (.idiv, 1) := by decide +kernel
theorem dX10_command_5 : decode cX10_command 5 = .ok (.istore_n 2, 1) := by decide +kernel
theorem dX10_command_6 : decode cX10_command 6 = .ok (.iload_n 1, 1) := by decide +kernel
theorem dX10_command_7 : decode cX10_command 7 = .ok (.sipush 1000, 3) := by decide +kernel
theorem dX10_command_10 : decode cX10_command 10 = .ok (.idiv, 1) := by decide +kernel
theorem dX10_command_11 : decode cX10_command 11 = .ok (.bipush 10, 2) := by decide +kernel
theorem dX10_command_13 : decode cX10_command 13 = .ok (.irem, 1) := by decide +kernel
theorem dX10_command_14 : decode cX10_command 14 = .ok (.istore_n 3, 1) := by decide +kernel
theorem dX10_command_15 : decode cX10_command 15 = .ok (.iload_n 1, 1) := by decide +kernel
theorem dX10_command_16 : decode cX10_command 16 = .ok (.bipush 100, 2) := by decide +kernel
theorem dX10_command_18 : decode cX10_command 18 = .ok (.idiv, 1) := by decide +kernel
theorem dX10_command_19 : decode cX10_command 19 = .ok (.bipush 10, 2) := by decide +kernel
theorem dX10_command_21 : decode cX10_command 21 = .ok (.irem, 1) := by decide +kernel
theorem dX10_command_22 : decode cX10_command 22 = .ok (.istore 4, 2) := by decide +kernel
theorem dX10_command_24 : decode cX10_command 24 = .ok (.iload_n 1, 1) := by decide +kernel
theorem dX10_command_25 : decode cX10_command 25 = .ok (.bipush 10, 2) := by decide +kernel
theorem dX10_command_27 : decode cX10_command 27 = .ok (.idiv, 1) := by decide +kernel
theorem dX10_command_28 : decode cX10_command 28 = .ok (.bipush 10, 2) := by decide +kernel
theorem dX10_command_30 : decode cX10_command 30 = .ok (.irem, 1) := by decide +kernel
theorem dX10_command_31 : decode cX10_command 31 = .ok (.istore 5, 2) := by decide +kernel
theorem dX10_command_33 : decode cX10_command 33 = .ok (.iload_n 1, 1) := by decide +kernel
theorem dX10_command_34 : decode cX10_command 34 = .ok (.bipush 10, 2) := by decide +kernel
theorem dX10_command_36 : decode cX10_command 36 = .ok (.irem, 1) := by decide +kernel
theorem dX10_command_37 : decode cX10_command 37 = .ok (.istore 6, 2) := by decide +kernel
theorem dX10_command_39 : decode cX10_command 39 = .ok (.iload_n 1, 1) := by decide +kernel
theorem dX10_command_40 : decode cX10_command 40 = .ok (.bipush 100, 2) := by decide +kernel
theorem dX10_command_42 : decode cX10_command 42 = .ok (.irem, 1) := by decide +kernel
theorem dX10_command_43 : decode cX10_command 43 = .ok (.istore 7, 2) := by decide +kernel
theorem dX10_command_45 : decode cX10_command 45 = .ok (.iload_n 2, 1) := by decide +kernel
theorem dX10_command_46 : decode cX10_command 46 = .ok (.bipush 8, 2) := by decide +kernel
theorem dX10_command_48 : decode cX10_command 48 = .ok (.if_icmp .ne 30, 3) := by decide +kernel
theorem dX10_command_51 : decode cX10_command 51 = .ok (.iload_n 3, 1) := by decide +kernel
theorem dX10_command_52 : decode cX10_command 52 = .ok (.ifCond .ne 24, 3) := by decide +kernel
theorem dX10_command_55 : decode cX10_command 55 = .ok (.aload_n 0, 1) := by decide +kernel
theorem dX10_command_56 : decode cX10_command 56 = .ok (.getfield 19, 3) := by decide +kernel
theorem dX10_command_59 : decode cX10_command 59 = .ok (.bipush 99, 2) := by decide +kernel
theorem dX10_command_61 : decode cX10_command 61 = .ok (.invokestatic 198, 3) := by decide +kernel
theorem dX10_command_64 : decode cX10_command 64 = .ok (.iload_n 1, 1) := by decide +kernel
theorem dX10_command_65 : decode cX10_command 65 = .ok (.sipush 1000, 3) := by decide +kernel
theorem dX10_command_68 : decode cX10_command 68 = .ok (.irem, 1) := by decide +kernel
theorem dX10_command_69 : decode cX10_command 69 = .ok (.if_icmp .ne 7, 3) := by decide +kernel
theorem dX10_command_72 : decode cX10_command 72 = .ok (.iconst 1, 1) := by decide +kernel
theorem dX10_command_73 : decode cX10_command 73 = .ok (.goto 4, 3) := by decide +kernel
theorem dX10_command_76 : decode cX10_command 76 = .ok (.iconst 0, 1) := by decide +kernel
theorem dX10_command_77 : decode cX10_command 77 = .ok (.ireturn, 1) := by decide +kernel
theorem dX10_command_78 : decode cX10_command 78 = .ok (.iload_n 3, 1) := by decide +kernel
theorem dX10_command_79 : decode cX10_command 79 = .ok (.invokestatic 64, 3) := by decide +kernel
theorem dX10_command_82 : decode cX10_command 82 = .ok (.ifCond .ne 5, 3) := by decide +kernel
theorem dX10_command_85 : decode cX10_command 85 = .ok (.iconst 0, 1) := by decide +kernel
theorem dX10_command_86 : decode cX10_command 86 = .ok (.ireturn, 1) := by decide +kernel
theorem dX10_command_87 : decode cX10_command 87 = .ok (.iload_n 2, 1) := by decide +kernel
theorem dX10_command_88 : decode cX10_command 88 = .ok (.tableswitch 273 1 7 #[44, 78, 78, 168, 189, 213, 237], 44) := by decide +kernel
theorem dX10_command_132 : decode cX10_command 132 = .ok (.iload 4, 2) := by decide +kernel
theorem dX10_command_134 : decode cX10_command 134 = .ok (.ifCond .ne 16, 3) := by decide +kernel
theorem dX10_command_137 : decode cX10_command 137 = .ok (.aload_n 0, 1) := by decide +kernel
theorem dX10_command_138 : decode cX10_command 138 = .ok (.getfield 19, 3) := by decide +kernel
theorem dX10_command_141 : decode cX10_command 141 = .ok (.iload_n 3, 1) := by decide +kernel
theorem dX10_command_142 : decode cX10_command 142 = .ok (.invokestatic 87, 3) := by decide +kernel
theorem dX10_command_145 : decode cX10_command 145 = .ok (.bipush (-9), 2) := by decide +kernel
theorem dX10_command_147 : decode cX10_command 147 = .ok (.if_icmp .ne 5, 3) := by decide +kernel
theorem dX10_command_150 : decode cX10_command 150 = .ok (.iconst 0, 1) := by decide +kernel
theorem dX10_command_151 : decode cX10_command 151 = .ok (.ireturn, 1) := by decide +kernel
theorem dX10_command_152 : decode cX10_command 152 = .ok (.aload_n 0, 1) := by decide +kernel
theorem dX10_command_153 : decode cX10_command 153 = .ok (.aload_n 0, 1) := by decide +kernel
theorem dX10_command_154 : decode cX10_command 154 = .ok (.getfield 19, 3) := by decide +kernel
theorem dX10_command_157 : decode cX10_command 157 = .ok (.iload_n 3, 1) := by decide +kernel
theorem dX10_command_158 : decode cX10_command 158 = .ok (.iload 7, 2) := by decide +kernel
theorem dX10_command_160 : decode cX10_command 160 = .ok (.invokevirtual 162, 3) := by decide +kernel
theorem dX10_command_163 : decode cX10_command 163 = .ok (.pop, 1) := by decide +kernel
theorem dX10_command_164 : decode cX10_command 164 = .ok (.iconst 1, 1) := by decide +kernel
theorem dX10_command_165 : decode cX10_command 165 = .ok (.ireturn, 1) := by decide +kernel
theorem dX10_command_166 : decode cX10_command 166 = .ok (.iload 6, 2) := by decide +kernel
theorem dX10_command_168 : decode cX10_command 168 = .ok (.ifCond .ne 38, 3) := by decide +kernel
theorem dX10_command_171 : decode cX10_command 171 = .ok (.aload_n 0, 1) := by decide +kernel
theorem dX10_command_172 : decode cX10_command 172 = .ok (.getfield 19, 3) := by decide +kernel
theorem dX10_command_175 : decode cX10_command 175 = .ok (.iload_n 3, 1) := by decide +kernel
theorem dX10_command_176 : decode cX10_command 176 = .ok (.iload 4, 2) := by decide +kernel
theorem dX10_command_178 : decode cX10_command 178 = .ok (.iload 5, 2) := by decide +kernel
theorem dX10_command_180 : decode cX10_command 180 = .ok (.invokestatic 68, 3) := by decide +kernel
theorem dX10_command_183 : decode cX10_command 183 = .ok (.ifCond .eq 23, 3) := by decide +kernel
theorem dX10_command_186 : decode cX10_command 186 = .ok (.iload_n 2, 1) := by decide +kernel
theorem dX10_command_187 : decode cX10_command 187 = .ok (.iconst 3, 1) := by decide +kernel
theorem dX10_command_188 : decode cX10_command 188 = .ok (.if_icmp .ne 20, 3) := by decide +kernel
theorem dX10_command_191 : decode cX10_command 191 = .ok (.aload_n 0, 1) := by decide +kernel
theorem dX10_command_192 : decode cX10_command 192 = .ok (.getfield 19, 3) := by decide +kernel
theorem dX10_command_195 : decode cX10_command 195 = .ok (.iconst 1, 1) := by decide +kernel
theorem dX10_command_196 : decode cX10_command 196 = .ok (.iload_n 3, 1) := by decide +kernel
theorem dX10_command_197 : decode cX10_command 197 = .ok (.isub, 1) := by decide +kernel
theorem dX10_command_198 : decode cX10_command 198 = .ok (.invokestatic 87, 3) := by decide +kernel
theorem dX10_command_201 : decode cX10_command 201 = .ok (.bipush (-9), 2) := by decide +kernel
theorem dX10_command_203 : decode cX10_command 203 = .ok (.if_icmp .ne 5, 3) := by decide +kernel
theorem dX10_command_206 : decode cX10_command 206 = .ok (.iconst 0, 1) := by decide +kernel
theorem dX10_command_207 : decode cX10_command 207 = .ok (.ireturn, 1) := by decide +kernel
theorem dX10_command_208 : decode cX10_command 208 = .ok (.aload_n 0, 1) := by decide +kernel
theorem dX10_command_209 : decode cX10_command 209 = .ok (.getfield 19, 3) := by decide +kernel
theorem dX10_command_212 : decode cX10_command 212 = .ok (.iload_n 3, 1) := by decide +kernel
theorem dX10_command_213 : decode cX10_command 213 = .ok (.iload 4, 2) := by decide +kernel
theorem dX10_command_215 : decode cX10_command 215 = .ok (.iload 5, 2) := by decide +kernel
theorem dX10_command_217 : decode cX10_command 217 = .ok (.invokestatic 76, 3) := by decide +kernel
theorem dX10_command_220 : decode cX10_command 220 = .ok (.istore 8, 2) := by decide +kernel
theorem dX10_command_222 : decode cX10_command 222 = .ok (.aload_n 0, 1) := by decide +kernel
theorem dX10_command_223 : decode cX10_command 223 = .ok (.getfield 19, 3) := by decide +kernel
theorem dX10_command_226 : decode cX10_command 226 = .ok (.iload_n 3, 1) := by decide +kernel
theorem dX10_command_227 : decode cX10_command 227 = .ok (.iload 4, 2) := by decide +kernel
theorem dX10_command_229 : decode cX10_command 229 = .ok (.iload 5, 2) := by decide +kernel
theorem dX10_command_231 : decode cX10_command 231 = .ok (.invokestatic 165, 3) := by decide +kernel
theorem dX10_command_234 : decode cX10_command 234 = .ok (.pop, 1) := by decide +kernel
theorem dX10_command_235 : decode cX10_command 235 = .ok (.iload_n 2, 1) := by decide +kernel
theorem dX10_command_236 : decode cX10_command 236 = .ok (.iconst 3, 1) := by decide +kernel
theorem dX10_command_237 : decode cX10_command 237 = .ok (.if_icmp .ne 17, 3) := by decide +kernel
theorem dX10_command_240 : decode cX10_command 240 = .ok (.aload_n 0, 1) := by decide +kernel
theorem dX10_command_241 : decode cX10_command 241 = .ok (.aload_n 0, 1) := by decide +kernel
theorem dX10_command_242 : decode cX10_command 242 = .ok (.getfield 19, 3) := by decide +kernel
theorem dX10_command_245 : decode cX10_command 245 = .ok (.iconst 1, 1) := by decide +kernel
theorem dX10_command_246 : decode cX10_command 246 = .ok (.iload_n 3, 1) := by decide +kernel
theorem dX10_command_247 : decode cX10_command 247 = .ok (.isub, 1) := by decide +kernel
theorem dX10_command_248 : decode cX10_command 248 = .ok (.iload 8, 2) := by decide +kernel
theorem dX10_command_250 : decode cX10_command 250 = .ok (.invokevirtual 162, 3) := by decide +kernel
theorem dX10_command_253 : decode cX10_command 253 = .ok (.pop, 1) := by decide +kernel
theorem dX10_command_254 : decode cX10_command 254 = .ok (.iconst 1, 1) := by decide +kernel
theorem dX10_command_255 : decode cX10_command 255 = .ok (.ireturn, 1) := by decide +kernel
theorem dX10_command_256 : decode cX10_command 256 = .ok (.iload_n 1, 1) := by decide +kernel
theorem dX10_command_257 : decode cX10_command 257 = .ok (.sipush 1000, 3) := by decide +kernel
theorem dX10_command_260 : decode cX10_command 260 = .ok (.irem, 1) := by decide +kernel
theorem dX10_command_261 : decode cX10_command 261 = .ok (.ifCond .eq 5, 3) := by decide +kernel
theorem dX10_command_264 : decode cX10_command 264 = .ok (.iconst 0, 1) := by decide +kernel
theorem dX10_command_265 : decode cX10_command 265 = .ok (.ireturn, 1) := by decide +kernel
theorem dX10_command_266 : decode cX10_command 266 = .ok (.aload_n 0, 1) := by decide +kernel
theorem dX10_command_267 : decode cX10_command 267 = .ok (.aload_n 0, 1) := by decide +kernel
theorem dX10_command_268 : decode cX10_command 268 = .ok (.getfield 19, 3) := by decide +kernel
theorem dX10_command_271 : decode cX10_command 271 = .ok (.iload_n 3, 1) := by decide +kernel
theorem dX10_command_272 : decode cX10_command 272 = .ok (.invokevirtual 171, 3) := by decide +kernel
theorem dX10_command_275 : decode cX10_command 275 = .ok (.iconst 1, 1) := by decide +kernel
theorem dX10_command_276 : decode cX10_command 276 = .ok (.ireturn, 1) := by decide +kernel
theorem dX10_command_277 : decode cX10_command 277 = .ok (.iload 4, 2) := by decide +kernel
theorem dX10_command_279 : decode cX10_command 279 = .ok (.ifCond .ne 20, 3) := by decide +kernel
theorem dX10_command_282 : decode cX10_command 282 = .ok (.aload_n 0, 1) := by decide +kernel
theorem dX10_command_283 : decode cX10_command 283 = .ok (.getfield 19, 3) := by decide +kernel
theorem dX10_command_286 : decode cX10_command 286 = .ok (.iload_n 3, 1) := by decide +kernel
theorem dX10_command_287 : decode cX10_command 287 = .ok (.invokestatic 128, 3) := by decide +kernel
theorem dX10_command_290 : decode cX10_command 290 = .ok (.iload 7, 2) := by decide +kernel
theorem dX10_command_292 : decode cX10_command 292 = .ok (.if_icmp .ne 7, 3) := by decide +kernel
theorem dX10_command_295 : decode cX10_command 295 = .ok (.iconst 1, 1) := by decide +kernel
theorem dX10_command_296 : decode cX10_command 296 = .ok (.goto 4, 3) := by decide +kernel
theorem dX10_command_299 : decode cX10_command 299 = .ok (.iconst 0, 1) := by decide +kernel
theorem dX10_command_300 : decode cX10_command 300 = .ok (.ireturn, 1) := by decide +kernel
theorem dX10_command_301 : decode cX10_command 301 = .ok (.iload 4, 2) := by decide +kernel
theorem dX10_command_303 : decode cX10_command 303 = .ok (.ifCond .ne 20, 3) := by decide +kernel
theorem dX10_command_306 : decode cX10_command 306 = .ok (.aload_n 0, 1) := by decide +kernel
theorem dX10_command_307 : decode cX10_command 307 = .ok (.getfield 19, 3) := by decide +kernel
theorem dX10_command_310 : decode cX10_command 310 = .ok (.iload_n 3, 1) := by decide +kernel
theorem dX10_command_311 : decode cX10_command 311 = .ok (.iload 7, 2) := by decide +kernel
theorem dX10_command_313 : decode cX10_command 313 = .ok (.invokestatic 208, 3) := by decide +kernel
theorem dX10_command_316 : decode cX10_command 316 = .ok (.ifCond .eq 7, 3) := by decide +kernel
theorem dX10_command_319 : decode cX10_command 319 = .ok (.iconst 1, 1) := by decide +kernel
theorem dX10_command_320 : decode cX10_command 320 = .ok (.goto 4, 3) := by decide +kernel
theorem dX10_command_323 : decode cX10_command 323 = .ok (.iconst 0, 1) := by decide +kernel
theorem dX10_command_324 : decode cX10_command 324 = .ok (.ireturn, 1) := by decide +kernel
theorem dX10_command_325 : decode cX10_command 325 = .ok (.iload 4, 2) := by decide +kernel
theorem dX10_command_327 : decode cX10_command 327 = .ok (.ifCond .ne 32, 3) := by decide +kernel
theorem dX10_command_330 : decode cX10_command 330 = .ok (.aload_n 0, 1) := by decide +kernel
theorem dX10_command_331 : decode cX10_command 331 = .ok (.getfield 19, 3) := by decide +kernel
theorem dX10_command_334 : decode cX10_command 334 = .ok (.iload_n 3, 1) := by decide +kernel
theorem dX10_command_335 : decode cX10_command 335 = .ok (.invokestatic 128, 3) := by decide +kernel
theorem dX10_command_338 : decode cX10_command 338 = .ok (.ifCond .le 21, 3) := by decide +kernel
theorem dX10_command_341 : decode cX10_command 341 = .ok (.aload_n 0, 1) := by decide +kernel
theorem dX10_command_342 : decode cX10_command 342 = .ok (.getfield 19, 3) := by decide +kernel
theorem dX10_command_345 : decode cX10_command 345 = .ok (.iload_n 3, 1) := by decide +kernel
theorem dX10_command_346 : decode cX10_command 346 = .ok (.iconst 1, 1) := by decide +kernel
theorem dX10_command_347 : decode cX10_command 347 = .ok (.invokestatic 143, 3) := by decide +kernel
theorem dX10_command_350 : decode cX10_command 350 = .ok (.iload 7, 2) := by decide +kernel
theorem dX10_command_352 : decode cX10_command 352 = .ok (.if_icmp .gt 7, 3) := by decide +kernel
theorem dX10_command_355 : decode cX10_command 355 = .ok (.iconst 1, 1) := by decide +kernel
theorem dX10_command_356 : decode cX10_command 356 = .ok (.goto 4, 3) := by decide +kernel
theorem dX10_command_359 : decode cX10_command 359 = .ok (.iconst 0, 1) := by decide +kernel
theorem dX10_command_360 : decode cX10_command 360 = .ok (.ireturn, 1) := by decide +kernel
theorem dX10_command_361 : decode cX10_command 361 = .ok (.iconst 0, 1) := by decide +kernel
theorem dX10_command_362 : decode cX10_command 362 = .ok (.ireturn, 1) := by decide +kernel
set_option maxRecDepth 20000 in
theorem ggX10_runScript_X10_in : GoodIn wsX10_runScript wsX10_in := goodIn_r _ [8] (by decide +kernel) (by decide +kernel)
set_option maxRecDepth 20000 in
theorem gX10_runScript_X10_in : GoodIn wsX10_runScript (va_wsS RX10 54 yX10_in wsX10_in) := goodIn_app (goodIn_of _ (by decide +kernel)) ggX10_runScript_X10_in
set_option maxRecDepth 20000 in
theorem ggX10_runScript_X10_tenTo : GoodIn wsX10_runScript wsX10_tenTo := goodIn_r _ [11, 12] (by decide +kernel) (by decide +kernel)
set_option maxRecDepth 20000 in
theorem gX10_runScript_X10_tenTo : GoodIn wsX10_runScript (va_wsS RX10 213 yX10_tenTo wsX10_tenTo) := goodIn_app (goodIn_of _ (by decide +kernel)) ggX10_runScript_X10_tenTo
set_option maxRecDepth 20000 in
theorem ggX10_runScript_X10_refused : GoodIn wsX10_runScript wsX10_refused := goodIn_r _ [16, 17, 85, 86, 87, 88, 89, 90, 91, 92, 93, 94, 95, 96, 97, 98, 99] (by decide +kernel) (by decide +kernel)
set_option maxRecDepth 20000 in
theorem gX10_runScript_X10_refused : GoodIn wsX10_runScript (wsV RX10 102 RX10 yX10_refused wsX10_refused) := goodIn_app (goodIn_of _ (by decide +kernel)) ggX10_runScript_X10_refused
set_option maxRecDepth 20000 in
theorem ggX10_runScript_X10_copy : GoodIn wsX10_runScript wsX10_copy := goodIn_r _ [20] (by decide +kernel) (by decide +kernel)
set_option maxRecDepth 20000 in
theorem gX10_runScript_X10_copy : GoodIn wsX10_runScript (va_wsS RX10 50 yX10_copy wsX10_copy) := goodIn_app (goodIn_of _ (by decide +kernel)) ggX10_runScript_X10_copy
set_option maxRecDepth 20000 in
theorem ggX10_runScript_X10_command : GoodIn wsX10_runScript wsX10_command := goodIn_r _ [24, 3, 25, 26, 7, 27, 28, 29, 30, 31, 5, 6, 8, 32, 33, 34, 35, 36, 37, 38, 39, 40, 41, 42, 43, 44, 45, 46, 47, 48, 49, 50, 51, 52, 53, 54, 55, 56, 57, 58, 59, 60, 61, 62, 63, 64, 65, 66, 67, 68, 69, 70, 71, 72, 73, 74, 75, 18, 19, 20, 76, 77, 78, 79, 80, 81, 82, 83, 84, 85, 86, 87, 88, 89, 90, 91, 92, 93, 94, 95, 96, 97, 98, 99] (by decide +kernel) (by decide +kernel)
set_option maxRecDepth 20000 in
theorem gX10_runScript_X10_command : GoodIn wsX10_runScript (wsV RX10 219 RX10 yX10_command wsX10_command) := goodIn_app (goodIn_of _ (by decide +kernel)) ggX10_runScript_X10_command
theorem dX10_runScript_0 : decode cX10_runScript 0 = .ok (.aload_n 0, 1) := by decide +kernel
theorem dX10_runScript_1 : decode cX10_runScript 1 = .ok (.iload_n 1, 1) := by decide +kernel
theorem dX10_runScript_2 : decode cX10_runScript 2 = .ok (.i2l, 1) := by decide +kernel
theorem dX10_runScript_3 : decode cX10_runScript 3 = .ok (.lconst 1, 1) := by decide +kernel
theorem dX10_runScript_4 : decode cX10_runScript 4 = .ok (.ldc2_w 211, 3) := by decide +kernel
theorem dX10_runScript_7 : decode cX10_runScript 7 = .ok (.invokestatic 54, 3) := by decide +kernel
theorem dX10_runScript_10 : decode cX10_runScript 10 = .ok (.ifCond .eq 23, 3) := by decide +kernel
theorem dX10_runScript_13 : decode cX10_runScript 13 = .ok (.lload_n 2, 1) := by decide +kernel
theorem dX10_runScript_14 : decode cX10_runScript 14 = .ok (.lconst 0, 1) := by decide +kernel
theorem dX10_runScript_15 : decode cX10_runScript 15 = .ok (.iconst 5, 1) := by decide +kernel
theorem dX10_runScript_16 : decode cX10_runScript 16 = .ok (.iload_n 1, 1) := by decide +kernel
theorem dX10_runScript_17 : decode cX10_runScript 17 = .ok (.imul, 1) := by decide +kernel
theorem dX10_runScript_18 : decode cX10_runScript 18 = .ok (.invokestatic 213, 3) := by decide +kernel
theorem dX10_runScript_21 : decode cX10_runScript 21 = .ok (.lconst 1, 1) := by decide +kernel
theorem dX10_runScript_22 : decode cX10_runScript 22 = .ok (.lsub, 1) := by decide +kernel
theorem dX10_runScript_23 : decode cX10_runScript 23 = .ok (.invokestatic 54, 3) := by decide +kernel
theorem dX10_runScript_26 : decode cX10_runScript 26 = .ok (.ifCond .eq 7, 3) := by decide +kernel
theorem dX10_runScript_29 : decode cX10_runScript 29 = .ok (.iconst 0, 1) := by decide +kernel
theorem dX10_runScript_30 : decode cX10_runScript 30 = .ok (.goto 4, 3) := by decide +kernel
theorem dX10_runScript_33 : decode cX10_runScript 33 = .ok (.iconst 1, 1) := by decide +kernel
theorem dX10_runScript_34 : decode cX10_runScript 34 = .ok (.invokevirtual 102, 3) := by decide +kernel
theorem dX10_runScript_37 : decode cX10_runScript 37 = .ok (.ifCond .eq 5, 3) := by decide +kernel
theorem dX10_runScript_40 : decode cX10_runScript 40 = .ok (.iconst 0, 1) := by decide +kernel
theorem dX10_runScript_41 : decode cX10_runScript 41 = .ok (.ireturn, 1) := by decide +kernel
theorem dX10_runScript_42 : decode cX10_runScript 42 = .ok (.aload_n 0, 1) := by decide +kernel
theorem dX10_runScript_43 : decode cX10_runScript 43 = .ok (.getfield 16, 3) := by decide +kernel
theorem dX10_runScript_46 : decode cX10_runScript 46 = .ok (.iconst 0, 1) := by decide +kernel
theorem dX10_runScript_47 : decode cX10_runScript 47 = .ok (.aload_n 0, 1) := by decide +kernel
theorem dX10_runScript_48 : decode cX10_runScript 48 = .ok (.getfield 19, 3) := by decide +kernel
theorem dX10_runScript_51 : decode cX10_runScript 51 = .ok (.iconst 0, 1) := by decide +kernel
theorem dX10_runScript_52 : decode cX10_runScript 52 = .ok (.bipush 84, 2) := by decide +kernel
theorem dX10_runScript_54 : decode cX10_runScript 54 = .ok (.invokestatic 50, 3) := by decide +kernel
theorem dX10_runScript_57 : decode cX10_runScript 57 = .ok (.iconst 0, 1) := by decide +kernel
theorem dX10_runScript_58 : decode cX10_runScript 58 = .ok (.istore 4, 2) := by decide +kernel
theorem dX10_runScript_60 : decode cX10_runScript 60 = .ok (.iload 4, 2) := by decide +kernel
theorem dX10_runScript_62 : decode cX10_runScript 62 = .ok (.iload_n 1, 1) := by decide +kernel
theorem dX10_runScript_63 : decode cX10_runScript 63 = .ok (.if_icmp .ge 37, 3) := by decide +kernel
theorem dX10_runScript_66 : decode cX10_runScript 66 = .ok (.aload_n 0, 1) := by decide +kernel
theorem dX10_runScript_67 : decode cX10_runScript 67 = .ok (.lload_n 2, 1) := by decide +kernel
theorem dX10_runScript_68 : decode cX10_runScript 68 = .ok (.iconst 5, 1) := by decide +kernel
theorem dX10_runScript_69 : decode cX10_runScript 69 = .ok (.iload_n 1, 1) := by decide +kernel
theorem dX10_runScript_70 : decode cX10_runScript 70 = .ok (.iconst 1, 1) := by decide +kernel
theorem dX10_runScript_71 : decode cX10_runScript 71 = .ok (.isub, 1) := by decide +kernel
theorem dX10_runScript_72 : decode cX10_runScript 72 = .ok (.iload 4, 2) := by decide +kernel
theorem dX10_runScript_74 : decode cX10_runScript 74 = .ok (.isub, 1) := by decide +kernel
theorem dX10_runScript_75 : decode cX10_runScript 75 = .ok (.imul, 1) := by decide +kernel
theorem dX10_runScript_76 : decode cX10_runScript 76 = .ok (.invokestatic 213, 3) := by decide +kernel
theorem dX10_runScript_79 : decode cX10_runScript 79 = .ok (.ldiv, 1) := by decide +kernel
theorem dX10_runScript_80 : decode cX10_runScript 80 = .ok (.ldc2_w 217, 3) := by decide +kernel
theorem dX10_runScript_83 : decode cX10_runScript 83 = .ok (.lrem, 1) := by decide +kernel
theorem dX10_runScript_84 : decode cX10_runScript 84 = .ok (.l2i, 1) := by decide +kernel
theorem dX10_runScript_85 : decode cX10_runScript 85 = .ok (.invokevirtual 219, 3) := by decide +kernel
theorem dX10_runScript_88 : decode cX10_runScript 88 = .ok (.ifCond .ne 6, 3) := by decide +kernel
theorem dX10_runScript_91 : decode cX10_runScript 91 = .ok (.iload 4, 2) := by decide +kernel
theorem dX10_runScript_93 : decode cX10_runScript 93 = .ok (.ireturn, 1) := by decide +kernel
theorem dX10_runScript_94 : decode cX10_runScript 94 = .ok (.iinc 4 1, 3) := by decide +kernel
theorem dX10_runScript_97 : decode cX10_runScript 97 = .ok (.goto (-37), 3) := by decide +kernel
theorem dX10_runScript_100 : decode cX10_runScript 100 = .ok (.bipush (-9), 2) := by decide +kernel
theorem dX10_runScript_102 : decode cX10_runScript 102 = .ok (.ireturn, 1) := by decide +kernel
set_option maxRecDepth 20000 in
theorem ggX10_simulate_X10_in : GoodIn wsX10_simulate wsX10_in := goodIn_r _ [9] (by decide +kernel) (by decide +kernel)
set_option maxRecDepth 20000 in
theorem gX10_simulate_X10_in : GoodIn wsX10_simulate (va_wsS RX10 54 yX10_in wsX10_in) := goodIn_app (goodIn_of _ (by decide +kernel)) ggX10_simulate_X10_in
set_option maxRecDepth 20000 in
theorem ggX10_simulate_X10_refused : GoodIn wsX10_simulate wsX10_refused := goodIn_r _ [13, 14, 61, 62, 63, 64, 65, 66, 67, 68, 69, 70, 71, 72, 73, 74, 75] (by decide +kernel) (by decide +kernel)
set_option maxRecDepth 20000 in
theorem gX10_simulate_X10_refused : GoodIn wsX10_simulate (wsV RX10 102 RX10 yX10_refused wsX10_refused) := goodIn_app (goodIn_of _ (by decide +kernel)) ggX10_simulate_X10_refused
set_option maxRecDepth 20000 in
theorem ggX10_simulate_X10_copy : GoodIn wsX10_simulate wsX10_copy := goodIn_r _ [17] (by decide +kernel) (by decide +kernel)
set_option maxRecDepth 20000 in
theorem gX10_simulate_X10_copy : GoodIn wsX10_simulate (va_wsS RX10 50 yX10_copy wsX10_copy) := goodIn_app (goodIn_of _ (by decide +kernel)) ggX10_simulate_X10_copy
set_option maxRecDepth 20000 in
theorem ggX10_simulate_X10_many : GoodIn wsX10_simulate wsX10_many := goodIn_r _ [20, 21, 22, 8, 23, 24, 6, 7, 9] (by decide +kernel) (by decide +kernel)
set_option maxRecDepth 20000 in
theorem gX10_simulate_X10_many : GoodIn wsX10_simulate (va_wsS RX10 128 yX10_many wsX10_many) := goodIn_app (goodIn_of _ (by decide +kernel)) ggX10_simulate_X10_many
set_option maxRecDepth 20000 in
theorem ggX10_simulate_X10_kthPlace : GoodIn wsX10_simulate wsX10_kthPlace := goodIn_r _ [27, 21, 22, 8, 23, 24, 6, 7, 9, 28, 29, 30, 31, 32, 33] (by decide +kernel) (by decide +kernel)
set_option maxRecDepth 20000 in
theorem gX10_simulate_X10_kthPlace : GoodIn wsX10_simulate (va_wsS RX10 184 yX10_kthPlace wsX10_kthPlace) := goodIn_app (goodIn_of _ (by decide +kernel)) ggX10_simulate_X10_kthPlace
set_option maxRecDepth 20000 in
theorem ggX10_simulate_X10_removeOn : GoodIn wsX10_simulate wsX10_removeOn := goodIn_r _ [36, 37, 38, 8, 39, 21, 22, 23, 24, 6, 7, 9, 31, 32, 33, 40, 41, 42] (by decide +kernel) (by decide +kernel)
set_option maxRecDepth 20000 in
theorem gX10_simulate_X10_removeOn : GoodIn wsX10_simulate (va_wsS RX10 165 yX10_removeOn wsX10_removeOn) := goodIn_app (goodIn_of _ (by decide +kernel)) ggX10_simulate_X10_removeOn
set_option maxRecDepth 20000 in
theorem ggX10_simulate_X10_gapRow : GoodIn wsX10_simulate wsX10_gapRow := goodIn_r _ [45, 46, 47, 8, 48, 21, 22, 23, 24, 6, 7, 9] (by decide +kernel) (by decide +kernel)
set_option maxRecDepth 20000 in
theorem gX10_simulate_X10_gapRow : GoodIn wsX10_simulate (va_wsS RX10 87 yX10_gapRow wsX10_gapRow) := goodIn_app (goodIn_of _ (by decide +kernel)) ggX10_simulate_X10_gapRow
set_option maxRecDepth 20000 in
theorem ggX10_simulate_X10_insertOn : GoodIn wsX10_simulate wsX10_insertOn := goodIn_r _ [52, 53, 43, 44, 8, 45, 46, 47, 48, 21, 22, 23, 24, 6, 7, 9, 40, 41, 42, 54, 55, 56, 57, 31, 32, 33, 61, 62, 63, 64, 65, 66, 67, 68, 69, 70, 71, 72, 73, 74, 75] (by decide +kernel) (by decide +kernel)
set_option maxRecDepth 20000 in
theorem gX10_simulate_X10_insertOn : GoodIn wsX10_simulate (wsV RX10 162 RX10 yX10_insertOn wsX10_insertOn) := goodIn_app (goodIn_of _ (by decide +kernel)) ggX10_simulate_X10_insertOn
set_option maxRecDepth 20000 in
theorem ggX10_simulate_X10_sumOf : GoodIn wsX10_simulate wsX10_sumOf := goodIn_r _ [60, 21, 22, 8, 23, 24, 6, 7, 9, 31, 32, 33] (by decide +kernel) (by decide +kernel)
set_option maxRecDepth 20000 in
theorem gX10_simulate_X10_sumOf : GoodIn wsX10_simulate (va_wsS RX10 147 yX10_sumOf wsX10_sumOf) := goodIn_app (goodIn_of _ (by decide +kernel)) ggX10_simulate_X10_sumOf
theorem dX10_simulate_0 : decode cX10_simulate 0 = .ok (.aload_n 0, 1) := by decide +kernel
theorem dX10_simulate_1 : decode cX10_simulate 1 = .ok (.iload_n 3, 1) := by decide +kernel
theorem dX10_simulate_2 : decode cX10_simulate 2 = .ok (.i2l, 1) := by decide +kernel
theorem dX10_simulate_3 : decode cX10_simulate 3 = .ok (.lconst 1, 1) := by decide +kernel
theorem dX10_simulate_4 : decode cX10_simulate 4 = .ok (.ldc2_w 222, 3) := by decide +kernel
theorem dX10_simulate_7 : decode cX10_simulate 7 = .ok (.invokestatic 54, 3) := by decide +kernel
theorem dX10_simulate_10 : decode cX10_simulate 10 = .ok (.ifCond .eq 7, 3) := by decide +kernel
theorem dX10_simulate_13 : decode cX10_simulate 13 = .ok (.iconst 0, 1) := by decide +kernel
theorem dX10_simulate_14 : decode cX10_simulate 14 = .ok (.goto 4, 3) := by decide +kernel
theorem dX10_simulate_17 : decode cX10_simulate 17 = .ok (.iconst 1, 1) := by decide +kernel
theorem dX10_simulate_18 : decode cX10_simulate 18 = .ok (.invokevirtual 102, 3) := by decide +kernel
theorem dX10_simulate_21 : decode cX10_simulate 21 = .ok (.ifCond .eq 5, 3) := by decide +kernel
theorem dX10_simulate_24 : decode cX10_simulate 24 = .ok (.iconst 0, 1) := by decide +kernel
theorem dX10_simulate_25 : decode cX10_simulate 25 = .ok (.ireturn, 1) := by decide +kernel
theorem dX10_simulate_26 : decode cX10_simulate 26 = .ok (.aload_n 0, 1) := by decide +kernel
theorem dX10_simulate_27 : decode cX10_simulate 27 = .ok (.getfield 16, 3) := by decide +kernel
theorem dX10_simulate_30 : decode cX10_simulate 30 = .ok (.iconst 0, 1) := by decide +kernel
theorem dX10_simulate_31 : decode cX10_simulate 31 = .ok (.aload_n 0, 1) := by decide +kernel
theorem dX10_simulate_32 : decode cX10_simulate 32 = .ok (.getfield 19, 3) := by decide +kernel
theorem dX10_simulate_35 : decode cX10_simulate 35 = .ok (.iconst 0, 1) := by decide +kernel
theorem dX10_simulate_36 : decode cX10_simulate 36 = .ok (.bipush 84, 2) := by decide +kernel
theorem dX10_simulate_38 : decode cX10_simulate 38 = .ok (.invokestatic 50, 3) := by decide +kernel
theorem dX10_simulate_41 : decode cX10_simulate 41 = .ok (.lload_n 1, 1) := by decide +kernel
theorem dX10_simulate_42 : decode cX10_simulate 42 = .ok (.lstore 4, 2) := by decide +kernel
theorem dX10_simulate_44 : decode cX10_simulate 44 = .ok (.iconst 0, 1) := by decide +kernel
theorem dX10_simulate_45 : decode cX10_simulate 45 = .ok (.istore 6, 2) := by decide +kernel
theorem dX10_simulate_47 : decode cX10_simulate 47 = .ok (.iload 6, 2) := by decide +kernel
theorem dX10_simulate_49 : decode cX10_simulate 49 = .ok (.iload_n 3, 1) := by decide +kernel
theorem dX10_simulate_50 : decode cX10_simulate 50 = .ok (.if_icmp .ge 138, 3) := by decide +kernel
theorem dX10_simulate_53 : decode cX10_simulate 53 = .ok (.lload 4, 2) := by decide +kernel
theorem dX10_simulate_55 : decode cX10_simulate 55 = .ok (.ldc2_w 224, 3) := by decide +kernel
theorem dX10_simulate_58 : decode cX10_simulate 58 = .ok (.lmul, 1) := by decide +kernel
theorem dX10_simulate_59 : decode cX10_simulate 59 = .ok (.ldc2_w 226, 3) := by decide +kernel
theorem dX10_simulate_62 : decode cX10_simulate 62 = .ok (.ladd, 1) := by decide +kernel
theorem dX10_simulate_63 : decode cX10_simulate 63 = .ok (.lstore 4, 2) := by decide +kernel
theorem dX10_simulate_65 : decode cX10_simulate 65 = .ok (.lload 4, 2) := by decide +kernel
theorem dX10_simulate_67 : decode cX10_simulate 67 = .ok (.bipush 33, 2) := by decide +kernel
theorem dX10_simulate_69 : decode cX10_simulate 69 = .ok (.lushr, 1) := by decide +kernel
theorem dX10_simulate_70 : decode cX10_simulate 70 = .ok (.l2i, 1) := by decide +kernel
theorem dX10_simulate_71 : decode cX10_simulate 71 = .ok (.istore 7, 2) := by decide +kernel
theorem dX10_simulate_73 : decode cX10_simulate 73 = .ok (.iload 7, 2) := by decide +kernel
theorem dX10_simulate_75 : decode cX10_simulate 75 = .ok (.iconst 2, 1) := by decide +kernel
theorem dX10_simulate_76 : decode cX10_simulate 76 = .ok (.irem, 1) := by decide +kernel
theorem dX10_simulate_77 : decode cX10_simulate 77 = .ok (.istore 8, 2) := by decide +kernel
theorem dX10_simulate_79 : decode cX10_simulate 79 = .ok (.iload 7, 2) := by decide +kernel
theorem dX10_simulate_81 : decode cX10_simulate 81 = .ok (.iconst 2, 1) := by decide +kernel
theorem dX10_simulate_82 : decode cX10_simulate 82 = .ok (.idiv, 1) := by decide +kernel
theorem dX10_simulate_83 : decode cX10_simulate 83 = .ok (.iconst 4, 1) := by decide +kernel
theorem dX10_simulate_84 : decode cX10_simulate 84 = .ok (.irem, 1) := by decide +kernel
theorem dX10_simulate_85 : decode cX10_simulate 85 = .ok (.ifCond .ne 64, 3) := by decide +kernel
theorem dX10_simulate_88 : decode cX10_simulate 88 = .ok (.aload_n 0, 1) := by decide +kernel
theorem dX10_simulate_89 : decode cX10_simulate 89 = .ok (.getfield 19, 3) := by decide +kernel
theorem dX10_simulate_92 : decode cX10_simulate 92 = .ok (.iload 8, 2) := by decide +kernel
theorem dX10_simulate_94 : decode cX10_simulate 94 = .ok (.invokestatic 128, 3) := by decide +kernel
theorem dX10_simulate_97 : decode cX10_simulate 97 = .ok (.ifCond .le 52, 3) := by decide +kernel
theorem dX10_simulate_100 : decode cX10_simulate 100 = .ok (.aload_n 0, 1) := by decide +kernel
theorem dX10_simulate_101 : decode cX10_simulate 101 = .ok (.getfield 19, 3) := by decide +kernel
theorem dX10_simulate_104 : decode cX10_simulate 104 = .ok (.iload 8, 2) := by decide +kernel
theorem dX10_simulate_106 : decode cX10_simulate 106 = .ok (.iload 7, 2) := by decide +kernel
theorem dX10_simulate_108 : decode cX10_simulate 108 = .ok (.bipush 8, 2) := by decide +kernel
theorem dX10_simulate_110 : decode cX10_simulate 110 = .ok (.idiv, 1) := by decide +kernel
theorem dX10_simulate_111 : decode cX10_simulate 111 = .ok (.aload_n 0, 1) := by decide +kernel
theorem dX10_simulate_112 : decode cX10_simulate 112 = .ok (.getfield 19, 3) := by decide +kernel
theorem dX10_simulate_115 : decode cX10_simulate 115 = .ok (.iload 8, 2) := by decide +kernel
theorem dX10_simulate_117 : decode cX10_simulate 117 = .ok (.invokestatic 128, 3) := by decide +kernel
theorem dX10_simulate_120 : decode cX10_simulate 120 = .ok (.irem, 1) := by decide +kernel
theorem dX10_simulate_121 : decode cX10_simulate 121 = .ok (.invokestatic 184, 3) := by decide +kernel
theorem dX10_simulate_124 : decode cX10_simulate 124 = .ok (.istore 9, 2) := by decide +kernel
theorem dX10_simulate_126 : decode cX10_simulate 126 = .ok (.aload_n 0, 1) := by decide +kernel
theorem dX10_simulate_127 : decode cX10_simulate 127 = .ok (.getfield 19, 3) := by decide +kernel
theorem dX10_simulate_130 : decode cX10_simulate 130 = .ok (.iload 8, 2) := by decide +kernel
theorem dX10_simulate_132 : decode cX10_simulate 132 = .ok (.iload 9, 2) := by decide +kernel
theorem dX10_simulate_134 : decode cX10_simulate 134 = .ok (.bipush 10, 2) := by decide +kernel
theorem dX10_simulate_136 : decode cX10_simulate 136 = .ok (.idiv, 1) := by decide +kernel
theorem dX10_simulate_137 : decode cX10_simulate 137 = .ok (.iload 9, 2) := by decide +kernel
theorem dX10_simulate_139 : decode cX10_simulate 139 = .ok (.bipush 10, 2) := by decide +kernel
theorem dX10_simulate_141 : decode cX10_simulate 141 = .ok (.irem, 1) := by decide +kernel
theorem dX10_simulate_142 : decode cX10_simulate 142 = .ok (.invokestatic 165, 3) := by decide +kernel
theorem dX10_simulate_145 : decode cX10_simulate 145 = .ok (.pop, 1) := by decide +kernel
theorem dX10_simulate_146 : decode cX10_simulate 146 = .ok (.goto 36, 3) := by decide +kernel
theorem dX10_simulate_149 : decode cX10_simulate 149 = .ok (.aload_n 0, 1) := by decide +kernel
theorem dX10_simulate_150 : decode cX10_simulate 150 = .ok (.getfield 19, 3) := by decide +kernel
theorem dX10_simulate_153 : decode cX10_simulate 153 = .ok (.iload 8, 2) := by decide +kernel
theorem dX10_simulate_155 : decode cX10_simulate 155 = .ok (.invokestatic 87, 3) := by decide +kernel
theorem dX10_simulate_158 : decode cX10_simulate 158 = .ok (.bipush (-9), 2) := by decide +kernel
theorem dX10_simulate_160 : decode cX10_simulate 160 = .ok (.if_icmp .eq 22, 3) := by decide +kernel
theorem dX10_simulate_163 : decode cX10_simulate 163 = .ok (.aload_n 0, 1) := by decide +kernel
theorem dX10_simulate_164 : decode cX10_simulate 164 = .ok (.aload_n 0, 1) := by decide +kernel
theorem dX10_simulate_165 : decode cX10_simulate 165 = .ok (.getfield 19, 3) := by decide +kernel
theorem dX10_simulate_168 : decode cX10_simulate 168 = .ok (.iload 8, 2) := by decide +kernel
theorem dX10_simulate_170 : decode cX10_simulate 170 = .ok (.iload 7, 2) := by decide +kernel
theorem dX10_simulate_172 : decode cX10_simulate 172 = .ok (.bipush 8, 2) := by decide +kernel
theorem dX10_simulate_174 : decode cX10_simulate 174 = .ok (.idiv, 1) := by decide +kernel
theorem dX10_simulate_175 : decode cX10_simulate 175 = .ok (.bipush 100, 2) := by decide +kernel
theorem dX10_simulate_177 : decode cX10_simulate 177 = .ok (.irem, 1) := by decide +kernel
theorem dX10_simulate_178 : decode cX10_simulate 178 = .ok (.invokevirtual 162, 3) := by decide +kernel
theorem dX10_simulate_181 : decode cX10_simulate 181 = .ok (.pop, 1) := by decide +kernel
theorem dX10_simulate_182 : decode cX10_simulate 182 = .ok (.iinc 6 1, 3) := by decide +kernel
theorem dX10_simulate_185 : decode cX10_simulate 185 = .ok (.goto (-138), 3) := by decide +kernel
theorem dX10_simulate_188 : decode cX10_simulate 188 = .ok (.aload_n 0, 1) := by decide +kernel
theorem dX10_simulate_189 : decode cX10_simulate 189 = .ok (.getfield 19, 3) := by decide +kernel
theorem dX10_simulate_192 : decode cX10_simulate 192 = .ok (.iconst 0, 1) := by decide +kernel
theorem dX10_simulate_193 : decode cX10_simulate 193 = .ok (.invokestatic 147, 3) := by decide +kernel
theorem dX10_simulate_196 : decode cX10_simulate 196 = .ok (.aload_n 0, 1) := by decide +kernel
theorem dX10_simulate_197 : decode cX10_simulate 197 = .ok (.getfield 19, 3) := by decide +kernel
theorem dX10_simulate_200 : decode cX10_simulate 200 = .ok (.iconst 1, 1) := by decide +kernel
theorem dX10_simulate_201 : decode cX10_simulate 201 = .ok (.invokestatic 147, 3) := by decide +kernel
theorem dX10_simulate_204 : decode cX10_simulate 204 = .ok (.iadd, 1) := by decide +kernel
theorem dX10_simulate_205 : decode cX10_simulate 205 = .ok (.ireturn, 1) := by decide +kernel
set_option maxRecDepth 20000 in
theorem ggX10_save_X10_in : GoodIn wsX10_save wsX10_in := goodIn_r _ [7] (by decide +kernel) (by decide +kernel)
set_option maxRecDepth 20000 in
theorem gX10_save_X10_in : GoodIn wsX10_save (va_wsS RX10 54 yX10_in wsX10_in) := goodIn_app (goodIn_of _ (by decide +kernel)) ggX10_save_X10_in
set_option maxRecDepth 20000 in
theorem ggX10_save_X10_refused : GoodIn wsX10_save wsX10_refused := goodIn_r _ [11, 12, 26, 27, 28, 29, 30, 31, 32, 33, 34, 35, 36, 37, 38, 39, 40] (by decide +kernel) (by decide +kernel)
set_option maxRecDepth 20000 in
theorem gX10_save_X10_refused : GoodIn wsX10_save (wsV RX10 102 RX10 yX10_refused wsX10_refused) := goodIn_app (goodIn_of _ (by decide +kernel)) ggX10_save_X10_refused
set_option maxRecDepth 20000 in
theorem ggX10_save_X10_copy : GoodIn wsX10_save wsX10_copy := goodIn_r _ [15] (by decide +kernel) (by decide +kernel)
set_option maxRecDepth 20000 in
theorem gX10_save_X10_copy : GoodIn wsX10_save (va_wsS RX10 50 yX10_copy wsX10_copy) := goodIn_app (goodIn_of _ (by decide +kernel)) ggX10_save_X10_copy
set_option maxRecDepth 20000 in
theorem ggX10_save_X10_both : GoodIn wsX10_save wsX10_both := goodIn_r _ [18, 19, 20, 6, 21, 22, 23, 24, 25, 4, 5, 7] (by decide +kernel) (by decide +kernel)
set_option maxRecDepth 20000 in
theorem gX10_save_X10_both : GoodIn wsX10_save (va_wsS RX10 131 yX10_both wsX10_both) := goodIn_app (goodIn_of _ (by decide +kernel)) ggX10_save_X10_both
theorem dX10_save_0 : decode cX10_save 0 = .ok (.aload_n 0, 1) := by decide +kernel
theorem dX10_save_1 : decode cX10_save 1 = .ok (.iload_n 1, 1) := by decide +kernel
theorem dX10_save_2 : decode cX10_save 2 = .ok (.i2l, 1) := by decide +kernel
theorem dX10_save_3 : decode cX10_save 3 = .ok (.lconst 0, 1) := by decide +kernel
theorem dX10_save_4 : decode cX10_save 4 = .ok (.lconst 1, 1) := by decide +kernel
theorem dX10_save_5 : decode cX10_save 5 = .ok (.invokestatic 54, 3) := by decide +kernel
theorem dX10_save_8 : decode cX10_save 8 = .ok (.ifCond .eq 7, 3) := by decide +kernel
theorem dX10_save_11 : decode cX10_save 11 = .ok (.iconst 0, 1) := by decide +kernel
theorem dX10_save_12 : decode cX10_save 12 = .ok (.goto 4, 3) := by decide +kernel
theorem dX10_save_15 : decode cX10_save 15 = .ok (.iconst 1, 1) := by decide +kernel
theorem dX10_save_16 : decode cX10_save 16 = .ok (.invokevirtual 102, 3) := by decide +kernel
theorem dX10_save_19 : decode cX10_save 19 = .ok (.ifCond .eq 5, 3) := by decide +kernel
theorem dX10_save_22 : decode cX10_save 22 = .ok (.iconst 0, 1) := by decide +kernel
theorem dX10_save_23 : decode cX10_save 23 = .ok (.ireturn, 1) := by decide +kernel
theorem dX10_save_24 : decode cX10_save 24 = .ok (.aload_n 0, 1) := by decide +kernel
theorem dX10_save_25 : decode cX10_save 25 = .ok (.getfield 28, 3) := by decide +kernel
theorem dX10_save_28 : decode cX10_save 28 = .ok (.iload_n 1, 1) := by decide +kernel
theorem dX10_save_29 : decode cX10_save 29 = .ok (.iconst 1, 1) := by decide +kernel
theorem dX10_save_30 : decode cX10_save 30 = .ok (.bastore, 1) := by decide +kernel
theorem dX10_save_31 : decode cX10_save 31 = .ok (.aload_n 0, 1) := by decide +kernel
theorem dX10_save_32 : decode cX10_save 32 = .ok (.getfield 16, 3) := by decide +kernel
theorem dX10_save_35 : decode cX10_save 35 = .ok (.iconst 0, 1) := by decide +kernel
theorem dX10_save_36 : decode cX10_save 36 = .ok (.aload_n 0, 1) := by decide +kernel
theorem dX10_save_37 : decode cX10_save 37 = .ok (.getfield 25, 3) := by decide +kernel
theorem dX10_save_40 : decode cX10_save 40 = .ok (.bipush 84, 2) := by decide +kernel
theorem dX10_save_42 : decode cX10_save 42 = .ok (.iload_n 1, 1) := by decide +kernel
theorem dX10_save_43 : decode cX10_save 43 = .ok (.imul, 1) := by decide +kernel
theorem dX10_save_44 : decode cX10_save 44 = .ok (.bipush 84, 2) := by decide +kernel
theorem dX10_save_46 : decode cX10_save 46 = .ok (.invokestatic 50, 3) := by decide +kernel
theorem dX10_save_49 : decode cX10_save 49 = .ok (.aload_n 0, 1) := by decide +kernel
theorem dX10_save_50 : decode cX10_save 50 = .ok (.getfield 16, 3) := by decide +kernel
theorem dX10_save_53 : decode cX10_save 53 = .ok (.invokestatic 131, 3) := by decide +kernel
theorem dX10_save_56 : decode cX10_save 56 = .ok (.ireturn, 1) := by decide +kernel
set_option maxRecDepth 20000 in
theorem ggX10_restore_X10_in : GoodIn wsX10_restore wsX10_in := goodIn_r _ [8] (by decide +kernel) (by decide +kernel)
set_option maxRecDepth 20000 in
theorem gX10_restore_X10_in : GoodIn wsX10_restore (va_wsS RX10 54 yX10_in wsX10_in) := goodIn_app (goodIn_of _ (by decide +kernel)) ggX10_restore_X10_in
set_option maxRecDepth 20000 in
theorem ggX10_restore_X10_refused : GoodIn wsX10_restore wsX10_refused := goodIn_r _ [12, 13, 27, 28, 29, 30, 31, 32, 33, 34, 35, 36, 37, 38, 39, 40, 41] (by decide +kernel) (by decide +kernel)
set_option maxRecDepth 20000 in
theorem gX10_restore_X10_refused : GoodIn wsX10_restore (wsV RX10 102 RX10 yX10_refused wsX10_refused) := goodIn_app (goodIn_of _ (by decide +kernel)) ggX10_restore_X10_refused
set_option maxRecDepth 20000 in
theorem ggX10_restore_X10_copy : GoodIn wsX10_restore wsX10_copy := goodIn_r _ [16] (by decide +kernel) (by decide +kernel)
set_option maxRecDepth 20000 in
theorem gX10_restore_X10_copy : GoodIn wsX10_restore (va_wsS RX10 50 yX10_copy wsX10_copy) := goodIn_app (goodIn_of _ (by decide +kernel)) ggX10_restore_X10_copy
set_option maxRecDepth 20000 in
theorem ggX10_restore_X10_both : GoodIn wsX10_restore wsX10_both := goodIn_r _ [19, 20, 21, 7, 22, 23, 24, 25, 26, 5, 6, 8] (by decide +kernel) (by decide +kernel)
set_option maxRecDepth 20000 in
theorem gX10_restore_X10_both : GoodIn wsX10_restore (va_wsS RX10 131 yX10_both wsX10_both) := goodIn_app (goodIn_of _ (by decide +kernel)) ggX10_restore_X10_both
theorem dX10_restore_0 : decode cX10_restore 0 = .ok (.aload_n 0, 1) := by decide +kernel
theorem dX10_restore_1 : decode cX10_restore 1 = .ok (.iload_n 1, 1) := by decide +kernel
theorem dX10_restore_2 : decode cX10_restore 2 = .ok (.i2l, 1) := by decide +kernel
theorem dX10_restore_3 : decode cX10_restore 3 = .ok (.lconst 0, 1) := by decide +kernel
theorem dX10_restore_4 : decode cX10_restore 4 = .ok (.lconst 1, 1) := by decide +kernel
theorem dX10_restore_5 : decode cX10_restore 5 = .ok (.invokestatic 54, 3) := by decide +kernel
theorem dX10_restore_8 : decode cX10_restore 8 = .ok (.ifCond .ne 7, 3) := by decide +kernel
theorem dX10_restore_11 : decode cX10_restore 11 = .ok (.iconst 1, 1) := by decide +kernel
theorem dX10_restore_12 : decode cX10_restore 12 = .ok (.goto 17, 3) := by decide +kernel
theorem dX10_restore_15 : decode cX10_restore 15 = .ok (.aload_n 0, 1) := by decide +kernel
theorem dX10_restore_16 : decode cX10_restore 16 = .ok (.getfield 28, 3) := by decide +kernel
theorem dX10_restore_19 : decode cX10_restore 19 = .ok (.iload_n 1, 1) := by decide +kernel
theorem dX10_restore_20 : decode cX10_restore 20 = .ok (.baload, 1) := by decide +kernel
theorem dX10_restore_21 : decode cX10_restore 21 = .ok (.ifCond .ne 7, 3) := by decide +kernel
theorem dX10_restore_24 : decode cX10_restore 24 = .ok (.iconst 2, 1) := by decide +kernel
theorem dX10_restore_25 : decode cX10_restore 25 = .ok (.goto 4, 3) := by decide +kernel
theorem dX10_restore_28 : decode cX10_restore 28 = .ok (.iconst 0, 1) := by decide +kernel
theorem dX10_restore_29 : decode cX10_restore 29 = .ok (.invokevirtual 102, 3) := by decide +kernel
theorem dX10_restore_32 : decode cX10_restore 32 = .ok (.ifCond .eq 5, 3) := by decide +kernel
theorem dX10_restore_35 : decode cX10_restore 35 = .ok (.iconst 0, 1) := by decide +kernel
theorem dX10_restore_36 : decode cX10_restore 36 = .ok (.ireturn, 1) := by decide +kernel
theorem dX10_restore_37 : decode cX10_restore 37 = .ok (.aload_n 0, 1) := by decide +kernel
theorem dX10_restore_38 : decode cX10_restore 38 = .ok (.getfield 25, 3) := by decide +kernel
theorem dX10_restore_41 : decode cX10_restore 41 = .ok (.bipush 84, 2) := by decide +kernel
theorem dX10_restore_43 : decode cX10_restore 43 = .ok (.iload_n 1, 1) := by decide +kernel
theorem dX10_restore_44 : decode cX10_restore 44 = .ok (.imul, 1) := by decide +kernel
theorem dX10_restore_45 : decode cX10_restore 45 = .ok (.aload_n 0, 1) := by decide +kernel
theorem dX10_restore_46 : decode cX10_restore 46 = .ok (.getfield 16, 3) := by decide +kernel
theorem dX10_restore_49 : decode cX10_restore 49 = .ok (.iconst 0, 1) := by decide +kernel
theorem dX10_restore_50 : decode cX10_restore 50 = .ok (.bipush 84, 2) := by decide +kernel
theorem dX10_restore_52 : decode cX10_restore 52 = .ok (.invokestatic 50, 3) := by decide +kernel
theorem dX10_restore_55 : decode cX10_restore 55 = .ok (.aload_n 0, 1) := by decide +kernel
theorem dX10_restore_56 : decode cX10_restore 56 = .ok (.iconst 0, 1) := by decide +kernel
theorem dX10_restore_57 : decode cX10_restore 57 = .ok (.putfield 47, 3) := by decide +kernel
theorem dX10_restore_60 : decode cX10_restore 60 = .ok (.aload_n 0, 1) := by decide +kernel
theorem dX10_restore_61 : decode cX10_restore 61 = .ok (.getfield 16, 3) := by decide +kernel
theorem dX10_restore_64 : decode cX10_restore 64 = .ok (.invokestatic 131, 3) := by decide +kernel
theorem dX10_restore_67 : decode cX10_restore 67 = .ok (.ireturn, 1) := by decide +kernel
