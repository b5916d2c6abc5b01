set_option maxRecDepth 20000 in
theorem ggX0_init_J7_fill_53178 : GoodIn wsX0_init wsJ7_fill_53178 := goodIn_r _ [12] (by decide +kernel) (by decide +kernel)
set_option maxRecDepth 20000 in
theorem gX0_init_J7_fill_53178 : GoodIn wsX0_init (va_wsS RX0 15 yJ7_fill_53178 wsJ7_fill_53178) := goodIn_app (goodIn_of _ (by decide +kernel)) ggX0_init_J7_fill_53178
theorem dX0_init_0 : decode cX0_init 0 = .ok (.aload_n 0, 1) := by decide +kernel
theorem dX0_init_1 : decode cX0_init 1 = .ok (.invokespecial 3, 3) := by decide +kernel
theorem dX0_init_4 : decode cX0_init 4 = .ok (.aload_n 0, 1) := by decide +kernel
theorem dX0_init_5 : decode cX0_init 5 = .ok (.bipush 8, 2) := by decide +kernel
theorem dX0_init_7 : decode cX0_init 7 = .ok (.newarray .int, 2) := by decide +kernel
theorem dX0_init_9 : decode cX0_init 9 = .ok (.putfield 9, 3) := by decide +kernel
theorem dX0_init_12 : decode cX0_init 12 = .ok (.aload_n 0, 1) := by decide +kernel
theorem dX0_init_13 : decode cX0_init 13 = .ok (.getfield 9, 3) := by decide +kernel
theorem dX0_init_16 : decode cX0_init 16 = .ok (.iconst (-1), 1) := by decide +kernel
theorem dX0_init_17 : decode cX0_init 17 = .ok (.invokestatic 15, 3) := by decide +kernel
theorem dX0_init_20 : decode cX0_init 20 = .ok (.aload_n 0, 1) := by decide +kernel
theorem dX0_init_21 : decode cX0_init 21 = .ok (.bipush 8, 2) := by decide +kernel
theorem dX0_init_23 : decode cX0_init 23 = .ok (.newarray .int, 2) := by decide +kernel
theorem dX0_init_25 : decode cX0_init 25 = .ok (.putfield 21, 3) := by decide +kernel
theorem dX0_init_28 : decode cX0_init 28 = .ok (.aload_n 0, 1) := by decide +kernel
theorem dX0_init_29 : decode cX0_init 29 = .ok (.sipush 9999, 3) := by decide +kernel
theorem dX0_init_32 : decode cX0_init 32 = .ok (.putfield 24, 3) := by decide +kernel
theorem dX0_init_35 : decode cX0_init 35 = .ok (.aload_n 0, 1) := by decide +kernel
theorem dX0_init_36 : decode cX0_init 36 = .ok (.iconst (-1), 1) := by decide +kernel
theorem dX0_init_37 : decode cX0_init 37 = .ok (.putfield 28, 3) := by decide +kernel
theorem dX0_init_40 : decode cX0_init 40 = .ok (.return_, 1) := by decide +kernel
set_option maxRecDepth 20000 in
theorem ggX0_costOf_X5_isWithin : GoodIn wsX0_costOf wsX5_isWithin := goodIn_r _ [4] (by decide +kernel) (by decide +kernel)
set_option maxRecDepth 20000 in
theorem gX0_costOf_X5_isWithin_n31 : GoodIn wsX0_costOf (wsX5_isWithin) := ggX0_costOf_X5_isWithin
theorem dX0_costOf_0 : decode cX0_costOf 0 = .ok (.iload_n 1, 1) := by decide +kernel
theorem dX0_costOf_1 : decode cX0_costOf 1 = .ok (.iconst 0, 1) := by decide +kernel
theorem dX0_costOf_2 : decode cX0_costOf 2 = .ok (.bipush 7, 2) := by decide +kernel
theorem dX0_costOf_4 : decode cX0_costOf 4 = .ok (.invokestatic 31, 3) := by decide +kernel
theorem dX0_costOf_7 : decode cX0_costOf 7 = .ok (.ifCond .eq 12, 3) := by decide +kernel
theorem dX0_costOf_10 : decode cX0_costOf 10 = .ok (.aload_n 0, 1) := by decide +kernel
theorem dX0_costOf_11 : decode cX0_costOf 11 = .ok (.getfield 9, 3) := by decide +kernel
theorem dX0_costOf_14 : decode cX0_costOf 14 = .ok (.iload_n 1, 1) := by decide +kernel
theorem dX0_costOf_15 : decode cX0_costOf 15 = .ok (.iaload, 1) := by decide +kernel
theorem dX0_costOf_16 : decode cX0_costOf 16 = .ok (.goto 4, 3) := by decide +kernel
theorem dX0_costOf_19 : decode cX0_costOf 19 = .ok (.iconst (-1), 1) := by decide +kernel
theorem dX0_costOf_20 : decode cX0_costOf 20 = .ok (.ireturn, 1) := by decide +kernel
set_option maxRecDepth 20000 in
theorem ggX0_setCost_X5_isWithin : GoodIn wsX0_setCost wsX5_isWithin := goodIn_r _ [4] (by decide +kernel) (by decide +kernel)
set_option maxRecDepth 20000 in
theorem gX0_setCost_X5_isWithin_n31 : GoodIn wsX0_setCost (wsX5_isWithin) := ggX0_setCost_X5_isWithin
theorem dX0_setCost_0 : decode cX0_setCost 0 = .ok (.iload_n 1, 1) := by decide +kernel
theorem dX0_setCost_1 : decode cX0_setCost 1 = .ok (.iconst 0, 1) := by decide +kernel
theorem dX0_setCost_2 : decode cX0_setCost 2 = .ok (.bipush 7, 2) := by decide +kernel
theorem dX0_setCost_4 : decode cX0_setCost 4 = .ok (.invokestatic 31, 3) := by decide +kernel
theorem dX0_setCost_7 : decode cX0_setCost 7 = .ok (.ifCond .eq 10, 3) := by decide +kernel
theorem dX0_setCost_10 : decode cX0_setCost 10 = .ok (.aload_n 0, 1) := by decide +kernel
theorem dX0_setCost_11 : decode cX0_setCost 11 = .ok (.getfield 9, 3) := by decide +kernel
theorem dX0_setCost_14 : decode cX0_setCost 14 = .ok (.iload_n 1, 1) := by decide +kernel
theorem dX0_setCost_15 : decode cX0_setCost 15 = .ok (.iload_n 2, 1) := by decide +kernel
theorem dX0_setCost_16 : decode cX0_setCost 16 = .ok (.iastore, 1) := by decide +kernel
theorem dX0_setCost_17 : decode cX0_setCost 17 = .ok (.return_, 1) := by decide +kernel
set_option maxRecDepth 20000 in
theorem ggX0_knowsAsBad_X5_isIn : GoodIn wsX0_knowsAsBad wsX5_isIn := goodIn_r _ [4, 5, 6, 3, 7] (by decide +kernel) (by decide +kernel)
set_option maxRecDepth 20000 in
theorem gX0_knowsAsBad_X5_isIn_n38 : GoodIn wsX0_knowsAsBad (wsX5_isIn) := ggX0_knowsAsBad_X5_isIn
theorem dX0_knowsAsBad_0 : decode cX0_knowsAsBad 0 = .ok (.aload_n 0, 1) := by decide +kernel
theorem dX0_knowsAsBad_1 : decode cX0_knowsAsBad 1 = .ok (.getfield 35, 3) := by decide +kernel
theorem dX0_knowsAsBad_4 : decode cX0_knowsAsBad 4 = .ok (.iload_n 1, 1) := by decide +kernel
theorem dX0_knowsAsBad_5 : decode cX0_knowsAsBad 5 = .ok (.invokestatic 38, 3) := by decide +kernel
theorem dX0_knowsAsBad_8 : decode cX0_knowsAsBad 8 = .ok (.ireturn, 1) := by decide +kernel
set_option maxRecDepth 20000 in
theorem ggX0_markBad_X5_isWithin : GoodIn wsX0_markBad wsX5_isWithin := goodIn_r _ [4] (by decide +kernel) (by decide +kernel)
set_option maxRecDepth 20000 in
theorem gX0_markBad_X5_isWithin_n31 : GoodIn wsX0_markBad (wsX5_isWithin) := ggX0_markBad_X5_isWithin
theorem dX0_markBad_0 : decode cX0_markBad 0 = .ok (.iload_n 1, 1) := by decide +kernel
theorem dX0_markBad_1 : decode cX0_markBad 1 = .ok (.iconst 0, 1) := by decide +kernel
theorem dX0_markBad_2 : decode cX0_markBad 2 = .ok (.bipush 7, 2) := by decide +kernel
theorem dX0_markBad_4 : decode cX0_markBad 4 = .ok (.invokestatic 31, 3) := by decide +kernel
theorem dX0_markBad_7 : decode cX0_markBad 7 = .ok (.ifCond .eq 15, 3) := by decide +kernel
theorem dX0_markBad_10 : decode cX0_markBad 10 = .ok (.aload_n 0, 1) := by decide +kernel
theorem dX0_markBad_11 : decode cX0_markBad 11 = .ok (.dup, 1) := by decide +kernel
theorem dX0_markBad_12 : decode cX0_markBad 12 = .ok (.getfield 35, 3) := by decide +kernel
theorem dX0_markBad_15 : decode cX0_markBad 15 = .ok (.iconst 1, 1) := by decide +kernel
theorem dX0_markBad_16 : decode cX0_markBad 16 = .ok (.iload_n 1, 1) := by decide +kernel
theorem dX0_markBad_17 : decode cX0_markBad 17 = .ok (.ishl, 1) := by decide +kernel
theorem dX0_markBad_18 : decode cX0_markBad 18 = .ok (.ior, 1) := by decide +kernel
theorem dX0_markBad_19 : decode cX0_markBad 19 = .ok (.putfield 35, 3) := by decide +kernel
theorem dX0_markBad_22 : decode cX0_markBad 22 = .ok (.return_, 1) := by decide +kernel
set_option maxRecDepth 20000 in
theorem ggX0_inLine_X5_isWithin : GoodIn wsX0_inLine wsX5_isWithin := goodIn_r _ [5] (by decide +kernel) (by decide +kernel)
set_option maxRecDepth 20000 in
theorem gX0_inLine_X5_isWithin_n31 : GoodIn wsX0_inLine (wsX5_isWithin) := ggX0_inLine_X5_isWithin
theorem dX0_inLine_0 : decode cX0_inLine 0 = .ok (.iload_n 1, 1) := by decide +kernel
theorem dX0_inLine_1 : decode cX0_inLine 1 = .ok (.iconst 0, 1) := by decide +kernel
theorem dX0_inLine_2 : decode cX0_inLine 2 = .ok (.aload_n 0, 1) := by decide +kernel
theorem dX0_inLine_3 : decode cX0_inLine 3 = .ok (.getfield 42, 3) := by decide +kernel
theorem dX0_inLine_6 : decode cX0_inLine 6 = .ok (.iconst 1, 1) := by decide +kernel
theorem dX0_inLine_7 : decode cX0_inLine 7 = .ok (.isub, 1) := by decide +kernel
theorem dX0_inLine_8 : decode cX0_inLine 8 = .ok (.invokestatic 31, 3) := by decide +kernel
theorem dX0_inLine_11 : decode cX0_inLine 11 = .ok (.ifCond .eq 12, 3) := by decide +kernel
theorem dX0_inLine_14 : decode cX0_inLine 14 = .ok (.aload_n 0, 1) := by decide +kernel
theorem dX0_inLine_15 : decode cX0_inLine 15 = .ok (.getfield 21, 3) := by decide +kernel
theorem dX0_inLine_18 : decode cX0_inLine 18 = .ok (.iload_n 1, 1) := by decide +kernel
theorem dX0_inLine_19 : decode cX0_inLine 19 = .ok (.iaload, 1) := by decide +kernel
theorem dX0_inLine_20 : decode cX0_inLine 20 = .ok (.goto 4, 3) := by decide +kernel
theorem dX0_inLine_23 : decode cX0_inLine 23 = .ok (.iconst (-1), 1) := by decide +kernel
theorem dX0_inLine_24 : decode cX0_inLine 24 = .ok (.ireturn, 1) := by decide +kernel
set_option maxRecDepth 20000 in
theorem ggX0_lineUp_X0_knowsAsBad : GoodIn wsX0_lineUp wsX0_knowsAsBad := goodIn_r _ [7, 8, 9, 10, 11, 12, 13, 14, 20, 21, 22, 23, 24, 25] (by decide +kernel) (by decide +kernel)
set_option maxRecDepth 20000 in
theorem gX0_lineUp_X0_knowsAsBad : GoodIn wsX0_lineUp (wsV RX0 45 RX0 yX0_knowsAsBad wsX0_knowsAsBad) := goodIn_app (goodIn_of _ (by decide +kernel)) ggX0_lineUp_X0_knowsAsBad
set_option maxRecDepth 20000 in
theorem ggX0_lineUp_X0_putInLine : GoodIn wsX0_lineUp wsX0_putInLine := goodIn_r _ [18, 1, 2, 19, 20, 21, 22, 23, 24, 25] (by decide +kernel) (by decide +kernel)
set_option maxRecDepth 20000 in
theorem gX0_lineUp_X0_putInLine : GoodIn wsX0_lineUp (wsV RX0 49 RX0 yX0_putInLine wsX0_putInLine) := goodIn_app (goodIn_of _ (by decide +kernel)) ggX0_lineUp_X0_putInLine
theorem dX0_lineUp_0 : decode cX0_lineUp 0 = .ok (.aload_n 0, 1) := by decide +kernel
theorem dX0_lineUp_1 : decode cX0_lineUp 1 = .ok (.iconst 0, 1) := by decide +kernel
theorem dX0_lineUp_2 : decode cX0_lineUp 2 = .ok (.putfield 42, 3) := by decide +kernel
theorem dX0_lineUp_5 : decode cX0_lineUp 5 = .ok (.iconst 0, 1) := by decide +kernel
theorem dX0_lineUp_6 : decode cX0_lineUp 6 = .ok (.istore_n 1, 1) := by decide +kernel
theorem dX0_lineUp_7 : decode cX0_lineUp 7 = .ok (.iload_n 1, 1) := by decide +kernel
theorem dX0_lineUp_8 : decode cX0_lineUp 8 = .ok (.bipush 8, 2) := by decide +kernel
theorem dX0_lineUp_10 : decode cX0_lineUp 10 = .ok (.if_icmp .ge 32, 3) := by decide +kernel
theorem dX0_lineUp_13 : decode cX0_lineUp 13 = .ok (.aload_n 0, 1) := by decide +kernel
theorem dX0_lineUp_14 : decode cX0_lineUp 14 = .ok (.getfield 9, 3) := by decide +kernel
theorem dX0_lineUp_17 : decode cX0_lineUp 17 = .ok (.iload_n 1, 1) := by decide +kernel
theorem dX0_lineUp_18 : decode cX0_lineUp 18 = .ok (.iaload, 1) := by decide +kernel
theorem dX0_lineUp_19 : decode cX0_lineUp 19 = .ok (.iconst (-1), 1) := by decide +kernel
theorem dX0_lineUp_20 : decode cX0_lineUp 20 = .ok (.if_icmp .eq 16, 3) := by decide +kernel
theorem dX0_lineUp_23 : decode cX0_lineUp 23 = .ok (.aload_n 0, 1) := by decide +kernel
theorem dX0_lineUp_24 : decode cX0_lineUp 24 = .ok (.iload_n 1, 1) := by decide +kernel
theorem dX0_lineUp_25 : decode cX0_lineUp 25 = .ok (.invokevirtual 45, 3) := by decide +kernel
theorem dX0_lineUp_28 : decode cX0_lineUp 28 = .ok (.ifCond .ne 8, 3) := by decide +kernel
theorem dX0_lineUp_31 : decode cX0_lineUp 31 = .ok (.aload_n 0, 1) := by decide +kernel
theorem dX0_lineUp_32 : decode cX0_lineUp 32 = .ok (.iload_n 1, 1) := by decide +kernel
theorem dX0_lineUp_33 : decode cX0_lineUp 33 = .ok (.invokevirtual 49, 3) := by decide +kernel
theorem dX0_lineUp_36 : decode cX0_lineUp 36 = .ok (.iinc 1 1, 3) := by decide +kernel
theorem dX0_lineUp_39 : decode cX0_lineUp 39 = .ok (.goto (-32), 3) := by decide +kernel
theorem dX0_lineUp_42 : decode cX0_lineUp 42 = .ok (.return_, 1) := by decide +kernel
theorem dX0_putInLine_0 : decode cX0_putInLine 0 = .ok (.aload_n 0, 1) := by decide +kernel
theorem dX0_putInLine_1 : decode cX0_putInLine 1 = .ok (.getfield 42, 3) := by decide +kernel
theorem dX0_putInLine_4 : decode cX0_putInLine 4 = .ok (.bipush 8, 2) := by decide +kernel
theorem dX0_putInLine_6 : decode cX0_putInLine 6 = .ok (.if_icmp .lt 4, 3) := by decide +kernel
theorem dX0_putInLine_9 : decode cX0_putInLine 9 = .ok (.return_, 1) := by decide +kernel
theorem dX0_putInLine_10 : decode cX0_putInLine 10 = .ok (.aload_n 0, 1) := by decide +kernel
theorem dX0_putInLine_11 : decode cX0_putInLine 11 = .ok (.getfield 42, 3) := by decide +kernel
theorem dX0_putInLine_14 : decode cX0_putInLine 14 = .ok (.istore_n 2, 1) := by decide +kernel
theorem dX0_putInLine_15 : decode cX0_putInLine 15 = .ok (.iload_n 2, 1) := by decide +kernel
theorem dX0_putInLine_16 : decode cX0_putInLine 16 = .ok (.ifCond .le 45, 3) := by decide +kernel
theorem dX0_putInLine_19 : decode cX0_putInLine 19 = .ok (.aload_n 0, 1) := by decide +kernel
theorem dX0_putInLine_20 : decode cX0_putInLine 20 = .ok (.getfield 9, 3) := by decide +kernel
theorem dX0_putInLine_23 : decode cX0_putInLine 23 = .ok (.aload_n 0, 1) := by decide +kernel
theorem dX0_putInLine_24 : decode cX0_putInLine 24 = .ok (.getfield 21, 3) := by decide +kernel
theorem dX0_putInLine_27 : decode cX0_putInLine 27 = .ok (.iload_n 2, 1) := by decide +kernel
theorem dX0_putInLine_28 : decode cX0_putInLine 28 = .ok (.iconst 1, 1) := by decide +kernel
theorem dX0_putInLine_29 : decode cX0_putInLine 29 = .ok (.isub, 1) := by decide +kernel
theorem dX0_putInLine_30 : decode cX0_putInLine 30 = .ok (.iaload, 1) := by decide +kernel
theorem dX0_putInLine_31 : decode cX0_putInLine 31 = .ok (.iaload, 1) := by decide +kernel
theorem dX0_putInLine_32 : decode cX0_putInLine 32 = .ok (.aload_n 0, 1) := by decide +kernel
theorem dX0_putInLine_33 : decode cX0_putInLine 33 = .ok (.getfield 9, 3) := by decide +kernel
theorem dX0_putInLine_36 : decode cX0_putInLine 36 = .ok (.iload_n 1, 1) := by decide +kernel
theorem dX0_putInLine_37 : decode cX0_putInLine 37 = .ok (.iaload, 1) := by decide +kernel
theorem dX0_putInLine_38 : decode cX0_putInLine 38 = .ok (.if_icmp .le 23, 3) := by decide +kernel
theorem dX0_putInLine_41 : decode cX0_putInLine 41 = .ok (.aload_n 0, 1) := by decide +kernel
theorem dX0_putInLine_42 : decode cX0_putInLine 42 = .ok (.getfield 21, 3) := by decide +kernel
theorem dX0_putInLine_45 : decode cX0_putInLine 45 = .ok (.iload_n 2, 1) := by decide +kernel
theorem dX0_putInLine_46 : decode cX0_putInLine 46 = .ok (.aload_n 0, 1) := by decide +kernel
theorem dX0_putInLine_47 : decode cX0_putInLine 47 = .ok (.getfield 21, 3) := by decide +kernel
theorem dX0_putInLine_50 : decode cX0_putInLine 50 = .ok (.iload_n 2, 1) := by decide +kernel
theorem dX0_putInLine_51 : decode cX0_putInLine 51 = .ok (.iconst 1, 1) := by decide +kernel
theorem dX0_putInLine_52 : decode cX0_putInLine 52 = .ok (.isub, 1) := by decide +kernel
theorem dX0_putInLine_53 : decode cX0_putInLine 53 = .ok (.iaload, 1) := by decide +kernel
theorem dX0_putInLine_54 : decode cX0_putInLine 54 = .ok (.iastore, 1) := by decide +kernel
theorem dX0_putInLine_55 : decode cX0_putInLine 55 = .ok (.iinc 2 (-1), 3) := by decide +kernel
theorem dX0_putInLine_58 : decode cX0_putInLine 58 = .ok (.goto (-43), 3) := by decide +kernel
theorem dX0_putInLine_61 : decode cX0_putInLine 61 = .ok (.aload_n 0, 1) := by decide +kernel
theorem dX0_putInLine_62 : decode cX0_putInLine 62 = .ok (.getfield 21, 3) := by decide +kernel
theorem dX0_putInLine_65 : decode cX0_putInLine 65 = .ok (.iload_n 2, 1) := by decide +kernel
theorem dX0_putInLine_66 : decode cX0_putInLine 66 = .ok (.iload_n 1, 1) := by decide +kernel
theorem dX0_putInLine_67 : decode cX0_putInLine 67 = .ok (.iastore, 1) := by decide +kernel
theorem dX0_putInLine_68 : decode cX0_putInLine 68 = .ok (.aload_n 0, 1) := by decide +kernel
theorem dX0_putInLine_69 : decode cX0_putInLine 69 = .ok (.dup, 1) := by decide +kernel
theorem dX0_putInLine_70 : decode cX0_putInLine 70 = .ok (.getfield 42, 3) := by decide +kernel
theorem dX0_putInLine_73 : decode cX0_putInLine 73 = .ok (.iconst 1, 1) := by decide +kernel
theorem dX0_putInLine_74 : decode cX0_putInLine 74 = .ok (.iadd, 1) := by decide +kernel
theorem dX0_putInLine_75 : decode cX0_putInLine 75 = .ok (.putfield 42, 3) := by decide +kernel
theorem dX0_putInLine_78 : decode cX0_putInLine 78 = .ok (.return_, 1) := by decide +kernel
theorem dX1_init_0 : decode cX1_init 0 = .ok (.aload_n 0, 1) := by decide +kernel
theorem dX1_init_1 : decode cX1_init 1 = .ok (.invokespecial 3, 3) := by decide +kernel
theorem dX1_init_4 : decode cX1_init 4 = .ok (.aload_n 0, 1) := by decide +kernel
theorem dX1_init_5 : decode cX1_init 5 = .ok (.bipush 12, 2) := by decide +kernel
theorem dX1_init_7 : decode cX1_init 7 = .ok (.newarray .int, 2) := by decide +kernel
theorem dX1_init_9 : decode cX1_init 9 = .ok (.putfield 9, 3) := by decide +kernel
theorem dX1_init_12 : decode cX1_init 12 = .ok (.aload_n 0, 1) := by decide +kernel
theorem dX1_init_13 : decode cX1_init 13 = .ok (.bipush 12, 2) := by decide +kernel
theorem dX1_init_15 : decode cX1_init 15 = .ok (.newarray .int, 2) := by decide +kernel
theorem dX1_init_17 : decode cX1_init 17 = .ok (.putfield 15, 3) := by decide +kernel
theorem dX1_init_20 : decode cX1_init 20 = .ok (.aload_n 0, 1) := by decide +kernel
theorem dX1_init_21 : decode cX1_init 21 = .ok (.bipush 12, 2) := by decide +kernel
theorem dX1_init_23 : decode cX1_init 23 = .ok (.newarray .int, 2) := by decide +kernel
theorem dX1_init_25 : decode cX1_init 25 = .ok (.putfield 18, 3) := by decide +kernel
theorem dX1_init_28 : decode cX1_init 28 = .ok (.return_, 1) := by decide +kernel
theorem dX1_begin_0 : decode cX1_begin 0 = .ok (.aload_n 0, 1) := by decide +kernel
theorem dX1_begin_1 : decode cX1_begin 1 = .ok (.iconst 1, 1) := by decide +kernel
theorem dX1_begin_2 : decode cX1_begin 2 = .ok (.putfield 21, 3) := by decide +kernel
theorem dX1_begin_5 : decode cX1_begin 5 = .ok (.aload_n 0, 1) := by decide +kernel
theorem dX1_begin_6 : decode cX1_begin 6 = .ok (.iconst (-1), 1) := by decide +kernel
theorem dX1_begin_7 : decode cX1_begin 7 = .ok (.putfield 25, 3) := by decide +kernel
theorem dX1_begin_10 : decode cX1_begin 10 = .ok (.aload_n 0, 1) := by decide +kernel
theorem dX1_begin_11 : decode cX1_begin 11 = .ok (.iconst 0, 1) := by decide +kernel
theorem dX1_begin_12 : decode cX1_begin 12 = .ok (.putfield 29, 3) := by decide +kernel
theorem dX1_begin_15 : decode cX1_begin 15 = .ok (.aload_n 0, 1) := by decide +kernel
theorem dX1_begin_16 : decode cX1_begin 16 = .ok (.iconst 0, 1) := by decide +kernel
theorem dX1_begin_17 : decode cX1_begin 17 = .ok (.putfield 32, 3) := by decide +kernel
theorem dX1_begin_20 : decode cX1_begin 20 = .ok (.aload_n 0, 1) := by decide +kernel
theorem dX1_begin_21 : decode cX1_begin 21 = .ok (.iconst 0, 1) := by decide +kernel
theorem dX1_begin_22 : decode cX1_begin 22 = .ok (.putfield 35, 3) := by decide +kernel
theorem dX1_begin_25 : decode cX1_begin 25 = .ok (.aload_n 0, 1) := by decide +kernel
theorem dX1_begin_26 : decode cX1_begin 26 = .ok (.iconst (-1), 1) := by decide +kernel
theorem dX1_begin_27 : decode cX1_begin 27 = .ok (.putfield 38, 3) := by decide +kernel
theorem dX1_begin_30 : decode cX1_begin 30 = .ok (.aload_n 0, 1) := by decide +kernel
theorem dX1_begin_31 : decode cX1_begin 31 = .ok (.iconst (-1), 1) := by decide +kernel
theorem dX1_begin_32 : decode cX1_begin 32 = .ok (.putfield 41, 3) := by decide +kernel
theorem dX1_begin_35 : decode cX1_begin 35 = .ok (.return_, 1) := by decide +kernel
theorem dX1_spend_0 : decode cX1_spend 0 = .ok (.aload_n 0, 1) := by decide +kernel
theorem dX1_spend_1 : decode cX1_spend 1 = .ok (.dup, 1) := by decide +kernel
theorem dX1_spend_2 : decode cX1_spend 2 = .ok (.getfield 29, 3) := by decide +kernel
theorem dX1_spend_5 : decode cX1_spend 5 = .ok (.iload_n 1, 1) := by decide +kernel
theorem dX1_spend_6 : decode cX1_spend 6 = .ok (.iadd, 1) := by decide +kernel
theorem dX1_spend_7 : decode cX1_spend 7 = .ok (.putfield 29, 3) := by decide +kernel
theorem dX1_spend_10 : decode cX1_spend 10 = .ok (.aload_n 0, 1) := by decide +kernel
theorem dX1_spend_11 : decode cX1_spend 11 = .ok (.dup, 1) := by decide +kernel
theorem dX1_spend_12 : decode cX1_spend 12 = .ok (.getfield 32, 3) := by decide +kernel
theorem dX1_spend_15 : decode cX1_spend 15 = .ok (.iconst 1, 1) := by decide +kernel
theorem dX1_spend_16 : decode cX1_spend 16 = .ok (.iadd, 1) := by decide +kernel
theorem dX1_spend_17 : decode cX1_spend 17 = .ok (.putfield 32, 3) := by decide +kernel
theorem dX1_spend_20 : decode cX1_spend 20 = .ok (.return_, 1) := by decide +kernel
theorem dX1_keepGot_0 : decode cX1_keepGot 0 = .ok (.aload_n 0, 1) := by decide +kernel
theorem dX1_keepGot_1 : decode cX1_keepGot 1 = .ok (.getfield 35, 3) := by decide +kernel
theorem dX1_keepGot_4 : decode cX1_keepGot 4 = .ok (.bipush 12, 2) := by decide +kernel
theorem dX1_keepGot_6 : decode cX1_keepGot 6 = .ok (.if_icmp .ge 43, 3) := by decide +kernel
theorem dX1_keepGot_9 : decode cX1_keepGot 9 = .ok (.aload_n 0, 1) := by decide +kernel
theorem dX1_keepGot_10 : decode cX1_keepGot 10 = .ok (.getfield 9, 3) := by decide +kernel
theorem dX1_keepGot_13 : decode cX1_keepGot 13 = .ok (.aload_n 0, 1) := by decide +kernel
theorem dX1_keepGot_14 : decode cX1_keepGot 14 = .ok (.getfield 35, 3) := by decide +kernel
theorem dX1_keepGot_17 : decode cX1_keepGot 17 = .ok (.iload_n 1, 1) := by decide +kernel
theorem dX1_keepGot_18 : decode cX1_keepGot 18 = .ok (.iastore, 1) := by decide +kernel
theorem dX1_keepGot_19 : decode cX1_keepGot 19 = .ok (.aload_n 0, 1) := by decide +kernel
theorem dX1_keepGot_20 : decode cX1_keepGot 20 = .ok (.getfield 15, 3) := by decide +kernel
theorem dX1_keepGot_23 : decode cX1_keepGot 23 = .ok (.aload_n 0, 1) := by decide +kernel
theorem dX1_keepGot_24 : decode cX1_keepGot 24 = .ok (.getfield 35, 3) := by decide +kernel
theorem dX1_keepGot_27 : decode cX1_keepGot 27 = .ok (.iload_n 2, 1) := by decide +kernel
theorem dX1_keepGot_28 : decode cX1_keepGot 28 = .ok (.iastore, 1) := by decide +kernel
theorem dX1_keepGot_29 : decode cX1_keepGot 29 = .ok (.aload_n 0, 1) := by decide +kernel
theorem dX1_keepGot_30 : decode cX1_keepGot 30 = .ok (.getfield 18, 3) := by decide +kernel
theorem dX1_keepGot_33 : decode cX1_keepGot 33 = .ok (.aload_n 0, 1) := by decide +kernel
theorem dX1_keepGot_34 : decode cX1_keepGot 34 = .ok (.getfield 35, 3) := by decide +kernel
theorem dX1_keepGot_37 : decode cX1_keepGot 37 = .ok (.iload_n 3, 1) := by decide +kernel
theorem dX1_keepGot_38 : decode cX1_keepGot 38 = .ok (.iastore, 1) := by decide +kernel
theorem dX1_keepGot_39 : decode cX1_keepGot 39 = .ok (.aload_n 0, 1) := by decide +kernel
theorem dX1_keepGot_40 : decode cX1_keepGot 40 = .ok (.dup, 1) := by decide +kernel
theorem dX1_keepGot_41 : decode cX1_keepGot 41 = .ok (.getfield 35, 3) := by decide +kernel
theorem dX1_keepGot_44 : decode cX1_keepGot 44 = .ok (.iconst 1, 1) := by decide +kernel
theorem dX1_keepGot_45 : decode cX1_keepGot 45 = .ok (.iadd, 1) := by decide +kernel
theorem dX1_keepGot_46 : decode cX1_keepGot 46 = .ok (.putfield 35, 3) := by decide +kernel
theorem dX1_keepGot_49 : decode cX1_keepGot 49 = .ok (.return_, 1) := by decide +kernel
set_option maxRecDepth 20000 in
theorem ggX1_gotten_X5_isWithin : GoodIn wsX1_gotten wsX5_isWithin := goodIn_r _ [7] (by decide +kernel) (by decide +kernel)
set_option maxRecDepth 20000 in
theorem gX1_gotten_X5_isWithin_n44 : GoodIn wsX1_gotten (wsX5_isWithin) := ggX1_gotten_X5_isWithin
theorem dX1_gotten_0 : decode cX1_gotten 0 = .ok (.iload_n 1, 1) := by decide +kernel
theorem dX1_gotten_1 : decode cX1_gotten 1 = .ok (.iconst 0, 1) := by decide +kernel
theorem dX1_gotten_2 : decode cX1_gotten 2 = .ok (.aload_n 0, 1) := by decide +kernel
theorem dX1_gotten_3 : decode cX1_gotten 3 = .ok (.getfield 35, 3) := by decide +kernel
theorem dX1_gotten_6 : decode cX1_gotten 6 = .ok (.iconst 1, 1) := by decide +kernel
theorem dX1_gotten_7 : decode cX1_gotten 7 = .ok (.isub, 1) := by decide +kernel
theorem dX1_gotten_8 : decode cX1_gotten 8 = .ok (.invokestatic 44, 3) := by decide +kernel
theorem dX1_gotten_11 : decode cX1_gotten 11 = .ok (.ifCond .ne 5, 3) := by decide +kernel
theorem dX1_gotten_14 : decode cX1_gotten 14 = .ok (.iconst (-1), 1) := by decide +kernel
theorem dX1_gotten_15 : decode cX1_gotten 15 = .ok (.ireturn, 1) := by decide +kernel
theorem dX1_gotten_16 : decode cX1_gotten 16 = .ok (.iload_n 2, 1) := by decide +kernel
theorem dX1_gotten_17 : decode cX1_gotten 17 = .ok (.tableswitch 48 0 2 #[27, 34, 41], 27) := by decide +kernel
theorem dX1_gotten_44 : decode cX1_gotten 44 = .ok (.aload_n 0, 1) := by decide +kernel
theorem dX1_gotten_45 : decode cX1_gotten 45 = .ok (.getfield 9, 3) := by decide +kernel
theorem dX1_gotten_48 : decode cX1_gotten 48 = .ok (.iload_n 1, 1) := by decide +kernel
theorem dX1_gotten_49 : decode cX1_gotten 49 = .ok (.iaload, 1) := by decide +kernel
theorem dX1_gotten_50 : decode cX1_gotten 50 = .ok (.ireturn, 1) := by decide +kernel
theorem dX1_gotten_51 : decode cX1_gotten 51 = .ok (.aload_n 0, 1) := by decide +kernel
theorem dX1_gotten_52 : decode cX1_gotten 52 = .ok (.getfield 15, 3) := by decide +kernel
theorem dX1_gotten_55 : decode cX1_gotten 55 = .ok (.iload_n 1, 1) := by decide +kernel
theorem dX1_gotten_56 : decode cX1_gotten 56 = .ok (.iaload, 1) := by decide +kernel
theorem dX1_gotten_57 : decode cX1_gotten 57 = .ok (.ireturn, 1) := by decide +kernel
theorem dX1_gotten_58 : decode cX1_gotten 58 = .ok (.aload_n 0, 1) := by decide +kernel
theorem dX1_gotten_59 : decode cX1_gotten 59 = .ok (.getfield 18, 3) := by decide +kernel
theorem dX1_gotten_62 : decode cX1_gotten 62 = .ok (.iload_n 1, 1) := by decide +kernel
theorem dX1_gotten_63 : decode cX1_gotten 63 = .ok (.iaload, 1) := by decide +kernel
theorem dX1_gotten_64 : decode cX1_gotten 64 = .ok (.ireturn, 1) := by decide +kernel
theorem dX1_gotten_65 : decode cX1_gotten 65 = .ok (.iconst (-1), 1) := by decide +kernel
theorem dX1_gotten_66 : decode cX1_gotten 66 = .ok (.ireturn, 1) := by decide +kernel
theorem dX2_init_0 : decode cX2_init 0 = .ok (.aload_n 0, 1) := by decide +kernel
theorem dX2_init_1 : decode cX2_init 1 = .ok (.invokespecial 3, 3) := by decide +kernel
theorem dX2_init_4 : decode cX2_init 4 = .ok (.aload_n 0, 1) := by decide +kernel
theorem dX2_init_5 : decode cX2_init 5 = .ok (.bipush 40, 2) := by decide +kernel
theorem dX2_init_7 : decode cX2_init 7 = .ok (.newarray .int, 2) := by decide +kernel
theorem dX2_init_9 : decode cX2_init 9 = .ok (.putfield 9, 3) := by decide +kernel
theorem dX2_init_12 : decode cX2_init 12 = .ok (.aload_n 0, 1) := by decide +kernel
theorem dX2_init_13 : decode cX2_init 13 = .ok (.bipush 40, 2) := by decide +kernel
theorem dX2_init_15 : decode cX2_init 15 = .ok (.newarray .int, 2) := by decide +kernel
theorem dX2_init_17 : decode cX2_init 17 = .ok (.putfield 15, 3) := by decide +kernel
theorem dX2_init_20 : decode cX2_init 20 = .ok (.aload_n 0, 1) := by decide +kernel
theorem dX2_init_21 : decode cX2_init 21 = .ok (.bipush 40, 2) := by decide +kernel
theorem dX2_init_23 : decode cX2_init 23 = .ok (.newarray .int, 2) := by decide +kernel
theorem dX2_init_25 : decode cX2_init 25 = .ok (.putfield 18, 3) := by decide +kernel
theorem dX2_init_28 : decode cX2_init 28 = .ok (.return_, 1) := by decide +kernel
theorem dX2_add_0 : decode cX2_add 0 = .ok (.aload_n 0, 1) := by decide +kernel
theorem dX2_add_1 : decode cX2_add 1 = .ok (.getfield 21, 3) := by decide +kernel
theorem dX2_add_4 : decode cX2_add 4 = .ok (.bipush 40, 2) := by decide +kernel
theorem dX2_add_6 : decode cX2_add 6 = .ok (.if_icmp .lt 5, 3) := by decide +kernel
theorem dX2_add_9 : decode cX2_add 9 = .ok (.iconst (-1), 1) := by decide +kernel
theorem dX2_add_10 : decode cX2_add 10 = .ok (.ireturn, 1) := by decide +kernel
theorem dX2_add_11 : decode cX2_add 11 = .ok (.aload_n 0, 1) := by decide +kernel
theorem dX2_add_12 : decode cX2_add 12 = .ok (.getfield 9, 3) := by decide +kernel
theorem dX2_add_15 : decode cX2_add 15 = .ok (.aload_n 0, 1) := by decide +kernel
theorem dX2_add_16 : decode cX2_add 16 = .ok (.getfield 21, 3) := by decide +kernel
theorem dX2_add_19 : decode cX2_add 19 = .ok (.iload_n 1, 1) := by decide +kernel
theorem dX2_add_20 : decode cX2_add 20 = .ok (.iastore, 1) := by decide +kernel
theorem dX2_add_21 : decode cX2_add 21 = .ok (.aload_n 0, 1) := by decide +kernel
theorem dX2_add_22 : decode cX2_add 22 = .ok (.getfield 15, 3) := by decide +kernel
theorem dX2_add_25 : decode cX2_add 25 = .ok (.aload_n 0, 1) := by decide +kernel
theorem dX2_add_26 : decode cX2_add 26 = .ok (.getfield 21, 3) := by decide +kernel
theorem dX2_add_29 : decode cX2_add 29 = .ok (.iload_n 2, 1) := by decide +kernel
theorem dX2_add_30 : decode cX2_add 30 = .ok (.iastore, 1) := by decide +kernel
theorem dX2_add_31 : decode cX2_add 31 = .ok (.aload_n 0, 1) := by decide +kernel
theorem dX2_add_32 : decode cX2_add 32 = .ok (.getfield 18, 3) := by decide +kernel
theorem dX2_add_35 : decode cX2_add 35 = .ok (.aload_n 0, 1) := by decide +kernel
theorem dX2_add_36 : decode cX2_add 36 = .ok (.getfield 21, 3) := by decide +kernel
theorem dX2_add_39 : decode cX2_add 39 = .ok (.iload_n 3, 1) := by decide +kernel
theorem dX2_add_40 : decode cX2_add 40 = .ok (.iastore, 1) := by decide +kernel
theorem dX2_add_41 : decode cX2_add 41 = .ok (.aload_n 0, 1) := by decide +kernel
theorem dX2_add_42 : decode cX2_add 42 = .ok (.dup, 1) := by decide +kernel
theorem dX2_add_43 : decode cX2_add 43 = .ok (.getfield 21, 3) := by decide +kernel
theorem dX2_add_46 : decode cX2_add 46 = .ok (.iconst 1, 1) := by decide +kernel
theorem dX2_add_47 : decode cX2_add 47 = .ok (.iadd, 1) := by decide +kernel
theorem dX2_add_48 : decode cX2_add 48 = .ok (.putfield 21, 3) := by decide +kernel
theorem dX2_add_51 : decode cX2_add 51 = .ok (.aload_n 0, 1) := by decide +kernel
theorem dX2_add_52 : decode cX2_add 52 = .ok (.getfield 21, 3) := by decide +kernel
theorem dX2_add_55 : decode cX2_add 55 = .ok (.ireturn, 1) := by decide +kernel
set_option maxRecDepth 20000 in
theorem ggX2_downAt_X5_isWithin : GoodIn wsX2_downAt wsX5_isWithin := goodIn_r _ [7] (by decide +kernel) (by decide +kernel)
set_option maxRecDepth 20000 in
theorem gX2_downAt_X5_isWithin_n25 : GoodIn wsX2_downAt (wsX5_isWithin) := ggX2_downAt_X5_isWithin
theorem dX2_downAt_0 : decode cX2_downAt 0 = .ok (.iconst 0, 1) := by decide +kernel
theorem dX2_downAt_1 : decode cX2_downAt 1 = .ok (.istore_n 2, 1) := by decide +kernel
theorem dX2_downAt_2 : decode cX2_downAt 2 = .ok (.iconst 0, 1) := by decide +kernel
theorem dX2_downAt_3 : decode cX2_downAt 3 = .ok (.istore_n 3, 1) := by decide +kernel
theorem dX2_downAt_4 : decode cX2_downAt 4 = .ok (.iload_n 3, 1) := by decide +kernel
theorem dX2_downAt_5 : decode cX2_downAt 5 = .ok (.aload_n 0, 1) := by decide +kernel
theorem dX2_downAt_6 : decode cX2_downAt 6 = .ok (.getfield 21, 3) := by decide +kernel
theorem dX2_downAt_9 : decode cX2_downAt 9 = .ok (.if_icmp .ge 39, 3) := by decide +kernel
theorem dX2_downAt_12 : decode cX2_downAt 12 = .ok (.iload_n 1, 1) := by decide +kernel
theorem dX2_downAt_13 : decode cX2_downAt 13 = .ok (.aload_n 0, 1) := by decide +kernel
theorem dX2_downAt_14 : decode cX2_downAt 14 = .ok (.getfield 15, 3) := by decide +kernel
theorem dX2_downAt_17 : decode cX2_downAt 17 = .ok (.iload_n 3, 1) := by decide +kernel
theorem dX2_downAt_18 : decode cX2_downAt 18 = .ok (.iaload, 1) := by decide +kernel
theorem dX2_downAt_19 : decode cX2_downAt 19 = .ok (.aload_n 0, 1) := by decide +kernel
theorem dX2_downAt_20 : decode cX2_downAt 20 = .ok (.getfield 18, 3) := by decide +kernel
theorem dX2_downAt_23 : decode cX2_downAt 23 = .ok (.iload_n 3, 1) := by decide +kernel
theorem dX2_downAt_24 : decode cX2_downAt 24 = .ok (.iaload, 1) := by decide +kernel
theorem dX2_downAt_25 : decode cX2_downAt 25 = .ok (.invokestatic 25, 3) := by decide +kernel
theorem dX2_downAt_28 : decode cX2_downAt 28 = .ok (.ifCond .eq 14, 3) := by decide +kernel
theorem dX2_downAt_31 : decode cX2_downAt 31 = .ok (.iload_n 2, 1) := by decide +kernel
theorem dX2_downAt_32 : decode cX2_downAt 32 = .ok (.iconst 1, 1) := by decide +kernel
theorem dX2_downAt_33 : decode cX2_downAt 33 = .ok (.aload_n 0, 1) := by decide +kernel
theorem dX2_downAt_34 : decode cX2_downAt 34 = .ok (.getfield 9, 3) := by decide +kernel
theorem dX2_downAt_37 : decode cX2_downAt 37 = .ok (.iload_n 3, 1) := by decide +kernel
theorem dX2_downAt_38 : decode cX2_downAt 38 = .ok (.iaload, 1) := by decide +kernel
theorem dX2_downAt_39 : decode cX2_downAt 39 = .ok (.ishl, 1) := by decide +kernel
theorem dX2_downAt_40 : decode cX2_downAt 40 = .ok (.ior, 1) := by decide +kernel
theorem dX2_downAt_41 : decode cX2_downAt 41 = .ok (.istore_n 2, 1) := by decide +kernel
theorem dX2_downAt_42 : decode cX2_downAt 42 = .ok (.iinc 3 1, 3) := by decide +kernel
theorem dX2_downAt_45 : decode cX2_downAt 45 = .ok (.goto (-41), 3) := by decide +kernel
theorem dX2_downAt_48 : decode cX2_downAt 48 = .ok (.iload_n 2, 1) := by decide +kernel
theorem dX2_downAt_49 : decode cX2_downAt 49 = .ok (.ireturn, 1) := by decide +kernel
set_option maxRecDepth 20000 in
theorem ggX3_init_J7_fill_53178 : GoodIn wsX3_init wsJ7_fill_53178 := goodIn_r _ [13] (by decide +kernel) (by decide +kernel)
set_option maxRecDepth 20000 in
theorem gX3_init_J7_fill_53178 : GoodIn wsX3_init (va_wsS RX3 25 yJ7_fill_53178 wsJ7_fill_53178) := goodIn_app (goodIn_of _ (by decide +kernel)) ggX3_init_J7_fill_53178
theorem dX3_init_0 : decode cX3_init 0 = .ok (.aload_n 0, 1) := by decide +kernel
theorem dX3_init_1 : decode cX3_init 1 = .ok (.invokespecial 3, 3) := by decide +kernel
theorem dX3_init_4 : decode cX3_init 4 = .ok (.aload_n 0, 1) := by decide +kernel
theorem dX3_init_5 : decode cX3_init 5 = .ok (.iload_n 1, 1) := by decide +kernel
theorem dX3_init_6 : decode cX3_init 6 = .ok (.putfield 9, 3) := by decide +kernel
theorem dX3_init_9 : decode cX3_init 9 = .ok (.aload_n 0, 1) := by decide +kernel
theorem dX3_init_10 : decode cX3_init 10 = .ok (.iload_n 2, 1) := by decide +kernel
theorem dX3_init_11 : decode cX3_init 11 = .ok (.putfield 15, 3) := by decide +kernel
theorem dX3_init_14 : decode cX3_init 14 = .ok (.aload_n 0, 1) := by decide +kernel
theorem dX3_init_15 : decode cX3_init 15 = .ok (.iload_n 3, 1) := by decide +kernel
theorem dX3_init_16 : decode cX3_init 16 = .ok (.putfield 18, 3) := by decide +kernel
theorem dX3_init_19 : decode cX3_init 19 = .ok (.aload_n 0, 1) := by decide +kernel
theorem dX3_init_20 : decode cX3_init 20 = .ok (.iconst 3, 1) := by decide +kernel
theorem dX3_init_21 : decode cX3_init 21 = .ok (.newarray .int, 2) := by decide +kernel
theorem dX3_init_23 : decode cX3_init 23 = .ok (.putfield 21, 3) := by decide +kernel
theorem dX3_init_26 : decode cX3_init 26 = .ok (.aload_n 0, 1) := by decide +kernel
theorem dX3_init_27 : decode cX3_init 27 = .ok (.getfield 21, 3) := by decide +kernel
theorem dX3_init_30 : decode cX3_init 30 = .ok (.iconst (-1), 1) := by decide +kernel
theorem dX3_init_31 : decode cX3_init 31 = .ok (.invokestatic 25, 3) := by decide +kernel
theorem dX3_init_34 : decode cX3_init 34 = .ok (.aload_n 0, 1) := by decide +kernel
theorem dX3_init_35 : decode cX3_init 35 = .ok (.iconst (-1), 1) := by decide +kernel
theorem dX3_init_36 : decode cX3_init 36 = .ok (.putfield 31, 3) := by decide +kernel
theorem dX3_init_39 : decode cX3_init 39 = .ok (.return_, 1) := by decide +kernel
set_option maxRecDepth 20000 in
theorem ggX3_holds_X5_bitOf : GoodIn wsX3_holds wsX5_bitOf := goodIn_r _ [4, 5, 6, 3, 7] (by decide +kernel) (by decide +kernel)
set_option maxRecDepth 20000 in
theorem gX3_holds_X5_bitOf_n38 : GoodIn wsX3_holds (wsX5_bitOf) := ggX3_holds_X5_bitOf
theorem dX3_holds_0 : decode cX3_holds 0 = .ok (.aload_n 0, 1) := by decide +kernel
theorem dX3_holds_1 : decode cX3_holds 1 = .ok (.getfield 34, 3) := by decide +kernel
theorem dX3_holds_4 : decode cX3_holds 4 = .ok (.iload_n 1, 1) := by decide +kernel
theorem dX3_holds_5 : decode cX3_holds 5 = .ok (.invokestatic 38, 3) := by decide +kernel
theorem dX3_holds_8 : decode cX3_holds 8 = .ok (.land, 1) := by decide +kernel
theorem dX3_holds_9 : decode cX3_holds 9 = .ok (.lconst 0, 1) := by decide +kernel
theorem dX3_holds_10 : decode cX3_holds 10 = .ok (.lcmp, 1) := by decide +kernel
theorem dX3_holds_11 : decode cX3_holds 11 = .ok (.ifCond .eq 7, 3) := by decide +kernel
theorem dX3_holds_14 : decode cX3_holds 14 = .ok (.iconst 1, 1) := by decide +kernel
theorem dX3_holds_15 : decode cX3_holds 15 = .ok (.goto 4, 3) := by decide +kernel
theorem dX3_holds_18 : decode cX3_holds 18 = .ok (.iconst 0, 1) := by decide +kernel
theorem dX3_holds_19 : decode cX3_holds 19 = .ok (.ireturn, 1) := by decide +kernel
set_option maxRecDepth 20000 in
theorem ggX3_missing_X4_filesOf : GoodIn wsX3_missing wsX4_filesOf := goodIn_r _ [7, 8, 9, 10, 11, 5, 12, 13, 24, 25, 26, 27, 28, 29, 30, 31] (by decide +kernel) (by decide +kernel)
set_option maxRecDepth 20000 in
theorem gX3_missing_X4_filesOf_n42 : GoodIn wsX3_missing (wsX4_filesOf) := ggX3_missing_X4_filesOf
theorem dX3_missing_0 : decode cX3_missing 0 = .ok (.aload_n 1, 1) := by decide +kernel
theorem dX3_missing_1 : decode cX3_missing 1 = .ok (.aload_n 0, 1) := by decide +kernel
theorem dX3_missing_2 : decode cX3_missing 2 = .ok (.getfield 31, 3) := by decide +kernel
theorem dX3_missing_5 : decode cX3_missing 5 = .ok (.invokevirtual 42, 3) := by decide +kernel
theorem dX3_missing_8 : decode cX3_missing 8 = .ok (.aload_n 0, 1) := by decide +kernel
theorem dX3_missing_9 : decode cX3_missing 9 = .ok (.getfield 34, 3) := by decide +kernel
theorem dX3_missing_12 : decode cX3_missing 12 = .ok (.ldc2_w 47, 3) := by decide +kernel
theorem dX3_missing_15 : decode cX3_missing 15 = .ok (.lxor, 1) := by decide +kernel
theorem dX3_missing_16 : decode cX3_missing 16 = .ok (.land, 1) := by decide +kernel
theorem dX3_missing_17 : decode cX3_missing 17 = .ok (.lreturn, 1) := by decide +kernel
set_option maxRecDepth 20000 in
theorem ggX3_bytesWanted_X3_missing : GoodIn wsX3_bytesWanted wsX3_missing := goodIn_r _ [7, 1, 8, 9, 10, 11, 12, 13, 14, 15, 16, 17, 18, 19, 31, 32, 33, 34, 35, 36, 37, 38, 39, 40, 41, 42, 43, 44, 45, 46, 47, 48] (by decide +kernel) (by decide +kernel)
set_option maxRecDepth 20000 in
theorem gX3_bytesWanted_X3_missing : GoodIn wsX3_bytesWanted (wsV RX3 49 RX3 yX3_missing wsX3_missing) := goodIn_app (goodIn_of _ (by decide +kernel)) ggX3_bytesWanted_X3_missing
set_option maxRecDepth 20000 in
theorem ggX3_bytesWanted_X4_bytesOf : GoodIn wsX3_bytesWanted wsX4_bytesOf := goodIn_r _ [22, 23, 24, 25, 26, 27, 28, 29, 30, 41, 42, 43, 44, 45, 46, 47, 48] (by decide +kernel) (by decide +kernel)
set_option maxRecDepth 20000 in
theorem gX3_bytesWanted_X4_bytesOf_n53 : GoodIn wsX3_bytesWanted (wsX4_bytesOf) := ggX3_bytesWanted_X4_bytesOf
theorem dX3_bytesWanted_0 : decode cX3_bytesWanted 0 = .ok (.aload_n 0, 1) := by decide +kernel
theorem dX3_bytesWanted_1 : decode cX3_bytesWanted 1 = .ok (.getfield 31, 3) := by decide +kernel
theorem dX3_bytesWanted_4 : decode cX3_bytesWanted 4 = .ok (.iconst (-1), 1) := by decide +kernel
theorem dX3_bytesWanted_5 : decode cX3_bytesWanted 5 = .ok (.if_icmp .ne 7, 3) := by decide +kernel
theorem dX3_bytesWanted_8 : decode cX3_bytesWanted 8 = .ok (.iconst (-1), 1) := by decide +kernel
theorem dX3_bytesWanted_9 : decode cX3_bytesWanted 9 = .ok (.goto 17, 3) := by decide +kernel
theorem dX3_bytesWanted_12 : decode cX3_bytesWanted 12 = .ok (.aload_n 1, 1) := by decide +kernel
theorem dX3_bytesWanted_13 : decode cX3_bytesWanted 13 = .ok (.aload_n 0, 1) := by decide +kernel
theorem dX3_bytesWanted_14 : decode cX3_bytesWanted 14 = .ok (.aload_n 1, 1) := by decide +kernel
theorem dX3_bytesWanted_15 : decode cX3_bytesWanted 15 = .ok (.invokevirtual 49, 3) := by decide +kernel
theorem dX3_bytesWanted_18 : decode cX3_bytesWanted 18 = .ok (.invokevirtual 53, 3) := by decide +kernel
theorem dX3_bytesWanted_21 : decode cX3_bytesWanted 21 = .ok (.aload_n 0, 1) := by decide +kernel
theorem dX3_bytesWanted_22 : decode cX3_bytesWanted 22 = .ok (.getfield 57, 3) := by decide +kernel
theorem dX3_bytesWanted_25 : decode cX3_bytesWanted 25 = .ok (.isub, 1) := by decide +kernel
theorem dX3_bytesWanted_26 : decode cX3_bytesWanted 26 = .ok (.ireturn, 1) := by decide +kernel
set_option maxRecDepth 20000 in
theorem ggX3_step_X3_copyFiles : GoodIn wsX3_step wsX3_copyFiles := goodIn_r _ [7, 8, 1, 9, 10, 11, 12, 6, 13, 14, 15, 16, 17, 18, 19, 20, 21, 22, 23, 24, 25, 26, 27, 28, 29, 30, 31, 32, 33, 34, 35, 36, 37, 38, 39, 40, 41, 42, 43, 44, 45, 46, 47, 48, 49, 50, 51, 52, 53, 54, 55, 56, 57, 58, 69, 70, 71, 72, 73, 74, 75, 76, 77, 78, 79, 80, 81, 82, 83, 84, 85, 86] (by decide +kernel) (by decide +kernel)
set_option maxRecDepth 20000 in
theorem gX3_step_X3_copyFiles : GoodIn wsX3_step (wsV RX3 63 RX3 yX3_copyFiles wsX3_copyFiles) := goodIn_app (goodIn_of _ (by decide +kernel)) ggX3_step_X3_copyFiles
set_option maxRecDepth 20000 in
theorem ggX3_step_X3_missing : GoodIn wsX3_step wsX3_missing := goodIn_r _ [13, 1, 14, 15, 16, 17, 18, 19, 20, 21, 22, 23, 24, 25, 69, 70, 71, 72, 73, 74, 75, 76, 77, 78, 79, 80, 81, 82, 83, 84, 85, 86] (by decide +kernel) (by decide +kernel)
set_option maxRecDepth 20000 in
theorem gX3_step_X3_missing : GoodIn wsX3_step (wsV RX3 49 RX3 yX3_missing wsX3_missing) := goodIn_app (goodIn_of _ (by decide +kernel)) ggX3_step_X3_missing
set_option maxRecDepth 20000 in
theorem ggX3_step_X3_takeIndex : GoodIn wsX3_step wsX3_takeIndex := goodIn_r _ [62, 63, 2, 1, 69, 70, 71, 72, 73, 74, 75, 76, 77, 78] (by decide +kernel) (by decide +kernel)
set_option maxRecDepth 20000 in
theorem gX3_step_X3_takeIndex : GoodIn wsX3_step (wsV RX3 67 RX3 yX3_takeIndex wsX3_takeIndex) := goodIn_app (goodIn_of _ (by decide +kernel)) ggX3_step_X3_takeIndex
set_option maxRecDepth 20000 in
theorem ggX3_step_X3_dropOld : GoodIn wsX3_step wsX3_dropOld := goodIn_r _ [67, 2, 68, 63, 14, 16, 17, 18, 19, 20, 21, 22, 23, 24, 25, 69, 70, 71, 72, 73, 74, 75, 76, 77, 78, 79, 80, 81, 82, 83, 84, 85, 86] (by decide +kernel) (by decide +kernel)
set_option maxRecDepth 20000 in
theorem gX3_step_X3_dropOld : GoodIn wsX3_step (wsV RX3 70 RX3 yX3_dropOld wsX3_dropOld) := goodIn_app (goodIn_of _ (by decide +kernel)) ggX3_step_X3_dropOld
theorem dX3_step_0 : decode cX3_step 0 = .ok (.aload_n 0, 1) := by decide +kernel
theorem dX3_step_1 : decode cX3_step 1 = .ok (.getfield 31, 3) := by decide +kernel
theorem dX3_step_4 : decode cX3_step 4 = .ok (.iconst (-1), 1) := by decide +kernel
theorem dX3_step_5 : decode cX3_step 5 = .ok (.if_icmp .ne 16, 3) := by decide +kernel
theorem dX3_step_8 : decode cX3_step 8 = .ok (.iload_n 2, 1) := by decide +kernel
theorem dX3_step_9 : decode cX3_step 9 = .ok (.aload_n 0, 1) := by decide +kernel
theorem dX3_step_10 : decode cX3_step 10 = .ok (.getfield 60, 3) := by decide +kernel
theorem dX3_step_13 : decode cX3_step 13 = .ok (.if_icmp .le 8, 3) := by decide +kernel
theorem dX3_step_16 : decode cX3_step 16 = .ok (.aload_n 0, 1) := by decide +kernel
theorem dX3_step_17 : decode cX3_step 17 = .ok (.iload_n 2, 1) := by decide +kernel
theorem dX3_step_18 : decode cX3_step 18 = .ok (.putfield 31, 3) := by decide +kernel
theorem dX3_step_21 : decode cX3_step 21 = .ok (.aload_n 0, 1) := by decide +kernel
theorem dX3_step_22 : decode cX3_step 22 = .ok (.getfield 31, 3) := by decide +kernel
theorem dX3_step_25 : decode cX3_step 25 = .ok (.iconst (-1), 1) := by decide +kernel
theorem dX3_step_26 : decode cX3_step 26 = .ok (.if_icmp .ne 4, 3) := by decide +kernel
theorem dX3_step_29 : decode cX3_step 29 = .ok (.return_, 1) := by decide +kernel
theorem dX3_step_30 : decode cX3_step 30 = .ok (.aload_n 0, 1) := by decide +kernel
theorem dX3_step_31 : decode cX3_step 31 = .ok (.aload_n 1, 1) := by decide +kernel
theorem dX3_step_32 : decode cX3_step 32 = .ok (.lload_n 3, 1) := by decide +kernel
theorem dX3_step_33 : decode cX3_step 33 = .ok (.invokevirtual 63, 3) := by decide +kernel
theorem dX3_step_36 : decode cX3_step 36 = .ok (.aload_n 0, 1) := by decide +kernel
theorem dX3_step_37 : decode cX3_step 37 = .ok (.getfield 31, 3) := by decide +kernel
theorem dX3_step_40 : decode cX3_step 40 = .ok (.iconst (-1), 1) := by decide +kernel
theorem dX3_step_41 : decode cX3_step 41 = .ok (.if_icmp .eq 22, 3) := by decide +kernel
theorem dX3_step_44 : decode cX3_step 44 = .ok (.aload_n 0, 1) := by decide +kernel
theorem dX3_step_45 : decode cX3_step 45 = .ok (.aload_n 1, 1) := by decide +kernel
theorem dX3_step_46 : decode cX3_step 46 = .ok (.invokevirtual 49, 3) := by decide +kernel
theorem dX3_step_49 : decode cX3_step 49 = .ok (.lconst 0, 1) := by decide +kernel
theorem dX3_step_50 : decode cX3_step 50 = .ok (.lcmp, 1) := by decide +kernel
theorem dX3_step_51 : decode cX3_step 51 = .ok (.ifCond .ne 12, 3) := by decide +kernel
theorem dX3_step_54 : decode cX3_step 54 = .ok (.aload_n 0, 1) := by decide +kernel
theorem dX3_step_55 : decode cX3_step 55 = .ok (.invokevirtual 67, 3) := by decide +kernel
theorem dX3_step_58 : decode cX3_step 58 = .ok (.aload_n 0, 1) := by decide +kernel
theorem dX3_step_59 : decode cX3_step 59 = .ok (.aload_n 1, 1) := by decide +kernel
theorem dX3_step_60 : decode cX3_step 60 = .ok (.invokevirtual 70, 3) := by decide +kernel
theorem dX3_step_63 : decode cX3_step 63 = .ok (.return_, 1) := by decide +kernel
set_option maxRecDepth 20000 in
theorem ggX3_copyFiles_X3_missing : GoodIn wsX3_copyFiles wsX3_missing := goodIn_r _ [8, 2, 9, 10, 11, 12, 13, 14, 15, 16, 17, 18, 19, 20, 54, 55, 56, 57, 58, 59, 60, 61, 62, 63, 64, 65, 66, 67, 68, 69, 70, 71] (by decide +kernel) (by decide +kernel)
set_option maxRecDepth 20000 in
theorem gX3_copyFiles_X3_missing : GoodIn wsX3_copyFiles (wsV RX3 49 RX3 yX3_missing wsX3_missing) := goodIn_app (goodIn_of _ (by decide +kernel)) ggX3_copyFiles_X3_missing
set_option maxRecDepth 20000 in
theorem ggX3_copyFiles_X5_leastOf : GoodIn wsX3_copyFiles wsX5_leastOf := goodIn_r _ [23, 24, 25, 26, 27, 28, 29, 30] (by decide +kernel) (by decide +kernel)
set_option maxRecDepth 20000 in
theorem gX3_copyFiles_X5_leastOf_n74 : GoodIn wsX3_copyFiles (wsX5_leastOf) := ggX3_copyFiles_X5_leastOf
set_option maxRecDepth 20000 in
theorem ggX3_copyFiles_X5_bitOf : GoodIn wsX3_copyFiles wsX5_bitOf := goodIn_r _ [32, 33, 34, 22, 35] (by decide +kernel) (by decide +kernel)
set_option maxRecDepth 20000 in
theorem gX3_copyFiles_X5_bitOf_n38 : GoodIn wsX3_copyFiles (wsX5_bitOf) := ggX3_copyFiles_X5_bitOf
set_option maxRecDepth 20000 in
theorem ggX3_copyFiles_X4_sizeOf : GoodIn wsX3_copyFiles wsX4_sizeOf := goodIn_r _ [38, 39, 40, 41, 42, 12, 43, 44, 64, 65, 66, 67, 68, 69, 70, 71] (by decide +kernel) (by decide +kernel)
set_option maxRecDepth 20000 in
theorem gX3_copyFiles_X4_sizeOf_n77 : GoodIn wsX3_copyFiles (wsX4_sizeOf) := ggX3_copyFiles_X4_sizeOf
set_option maxRecDepth 20000 in
theorem ggX3_copyFiles_X3_takeBytes : GoodIn wsX3_copyFiles wsX3_takeBytes := goodIn_r _ [48, 3, 49, 50, 51, 52, 53, 9, 31, 22, 32, 33, 34, 35, 54, 55, 56, 57, 58, 59, 60, 61, 62, 63] (by decide +kernel) (by decide +kernel)
set_option maxRecDepth 20000 in
theorem gX3_copyFiles_X3_takeBytes : GoodIn wsX3_copyFiles (wsV RX3 81 RX3 yX3_takeBytes wsX3_takeBytes) := goodIn_app (goodIn_of _ (by decide +kernel)) ggX3_copyFiles_X3_takeBytes
theorem dX3_copyFiles_0 : decode cX3_copyFiles 0 = .ok (.aload_n 0, 1) := by decide +kernel
theorem dX3_copyFiles_1 : decode cX3_copyFiles 1 = .ok (.getfield 15, 3) := by decide +kernel
theorem dX3_copyFiles_4 : decode cX3_copyFiles 4 = .ok (.istore 4, 2) := by decide +kernel
theorem dX3_copyFiles_6 : decode cX3_copyFiles 6 = .ok (.iconst 0, 1) := by decide +kernel
theorem dX3_copyFiles_7 : decode cX3_copyFiles 7 = .ok (.istore 5, 2) := by decide +kernel
theorem dX3_copyFiles_9 : decode cX3_copyFiles 9 = .ok (.iload 5, 2) := by decide +kernel
theorem dX3_copyFiles_11 : decode cX3_copyFiles 11 = .ok (.bipush 60, 2) := by decide +kernel
theorem dX3_copyFiles_13 : decode cX3_copyFiles 13 = .ok (.if_icmp .ge 78, 3) := by decide +kernel
theorem dX3_copyFiles_16 : decode cX3_copyFiles 16 = .ok (.iload 4, 2) := by decide +kernel
theorem dX3_copyFiles_18 : decode cX3_copyFiles 18 = .ok (.ifCond .le 73, 3) := by decide +kernel
theorem dX3_copyFiles_21 : decode cX3_copyFiles 21 = .ok (.aload_n 0, 1) := by decide +kernel
theorem dX3_copyFiles_22 : decode cX3_copyFiles 22 = .ok (.aload_n 1, 1) := by decide +kernel
theorem dX3_copyFiles_23 : decode cX3_copyFiles 23 = .ok (.invokevirtual 49, 3) := by decide +kernel
theorem dX3_copyFiles_26 : decode cX3_copyFiles 26 = .ok (.lstore 6, 2) := by decide +kernel
theorem dX3_copyFiles_28 : decode cX3_copyFiles 28 = .ok (.lload 6, 2) := by decide +kernel
theorem dX3_copyFiles_30 : decode cX3_copyFiles 30 = .ok (.lconst 0, 1) := by decide +kernel
theorem dX3_copyFiles_31 : decode cX3_copyFiles 31 = .ok (.lcmp, 1) := by decide +kernel
theorem dX3_copyFiles_32 : decode cX3_copyFiles 32 = .ok (.ifCond .ne 4, 3) := by decide +kernel
theorem dX3_copyFiles_35 : decode cX3_copyFiles 35 = .ok (.return_, 1) := by decide +kernel
theorem dX3_copyFiles_36 : decode cX3_copyFiles 36 = .ok (.lload 6, 2) := by decide +kernel
theorem dX3_copyFiles_38 : decode cX3_copyFiles 38 = .ok (.invokestatic 74, 3) := by decide +kernel
theorem dX3_copyFiles_41 : decode cX3_copyFiles 41 = .ok (.istore 8, 2) := by decide +kernel
theorem dX3_copyFiles_43 : decode cX3_copyFiles 43 = .ok (.lload_n 2, 1) := by decide +kernel
theorem dX3_copyFiles_44 : decode cX3_copyFiles 44 = .ok (.iload 8, 2) := by decide +kernel
theorem dX3_copyFiles_46 : decode cX3_copyFiles 46 = .ok (.invokestatic 38, 3) := by decide +kernel
theorem dX3_copyFiles_49 : decode cX3_copyFiles 49 = .ok (.land, 1) := by decide +kernel
theorem dX3_copyFiles_50 : decode cX3_copyFiles 50 = .ok (.lconst 0, 1) := by decide +kernel
theorem dX3_copyFiles_51 : decode cX3_copyFiles 51 = .ok (.lcmp, 1) := by decide +kernel
theorem dX3_copyFiles_52 : decode cX3_copyFiles 52 = .ok (.ifCond .ne 14, 3) := by decide +kernel
theorem dX3_copyFiles_55 : decode cX3_copyFiles 55 = .ok (.aload_n 0, 1) := by decide +kernel
theorem dX3_copyFiles_56 : decode cX3_copyFiles 56 = .ok (.iconst (-1), 1) := by decide +kernel
theorem dX3_copyFiles_57 : decode cX3_copyFiles 57 = .ok (.putfield 31, 3) := by decide +kernel
theorem dX3_copyFiles_60 : decode cX3_copyFiles 60 = .ok (.aload_n 0, 1) := by decide +kernel
theorem dX3_copyFiles_61 : decode cX3_copyFiles 61 = .ok (.iconst 0, 1) := by decide +kernel
theorem dX3_copyFiles_62 : decode cX3_copyFiles 62 = .ok (.putfield 57, 3) := by decide +kernel
theorem dX3_copyFiles_65 : decode cX3_copyFiles 65 = .ok (.return_, 1) := by decide +kernel
theorem dX3_copyFiles_66 : decode cX3_copyFiles 66 = .ok (.iload 4, 2) := by decide +kernel
theorem dX3_copyFiles_68 : decode cX3_copyFiles 68 = .ok (.aload_n 0, 1) := by decide +kernel
theorem dX3_copyFiles_69 : decode cX3_copyFiles 69 = .ok (.iload 8, 2) := by decide +kernel
theorem dX3_copyFiles_71 : decode cX3_copyFiles 71 = .ok (.aload_n 1, 1) := by decide +kernel
theorem dX3_copyFiles_72 : decode cX3_copyFiles 72 = .ok (.iload 8, 2) := by decide +kernel
theorem dX3_copyFiles_74 : decode cX3_copyFiles 74 = .ok (.invokevirtual 77, 3) := by decide +kernel
theorem dX3_copyFiles_77 : decode cX3_copyFiles 77 = .ok (.iload 4, 2) := by decide +kernel
theorem dX3_copyFiles_79 : decode cX3_copyFiles 79 = .ok (.invokevirtual 81, 3) := by decide +kernel
theorem dX3_copyFiles_82 : decode cX3_copyFiles 82 = .ok (.isub, 1) := by decide +kernel
theorem dX3_copyFiles_83 : decode cX3_copyFiles 83 = .ok (.istore 4, 2) := by decide +kernel
theorem dX3_copyFiles_85 : decode cX3_copyFiles 85 = .ok (.iinc 5 1, 3) := by decide +kernel
theorem dX3_copyFiles_88 : decode cX3_copyFiles 88 = .ok (.goto (-79), 3) := by decide +kernel
theorem dX3_copyFiles_91 : decode cX3_copyFiles 91 = .ok (.return_, 1) := by decide +kernel
set_option maxRecDepth 20000 in
theorem ggX3_takeBytes_X5_bitOf : GoodIn wsX3_takeBytes wsX5_bitOf := goodIn_r _ [10, 11, 12, 9, 13] (by decide +kernel) (by decide +kernel)
set_option maxRecDepth 20000 in
theorem gX3_takeBytes_X5_bitOf_n38 : GoodIn wsX3_takeBytes (wsX5_bitOf) := ggX3_takeBytes_X5_bitOf
theorem dX3_takeBytes_0 : decode cX3_takeBytes 0 = .ok (.iload_n 3, 1) := by decide +kernel
theorem dX3_takeBytes_1 : decode cX3_takeBytes 1 = .ok (.iload_n 2, 1) := by decide +kernel
theorem dX3_takeBytes_2 : decode cX3_takeBytes 2 = .ok (.aload_n 0, 1) := by decide +kernel
theorem dX3_takeBytes_3 : decode cX3_takeBytes 3 = .ok (.getfield 57, 3) := by decide +kernel
theorem dX3_takeBytes_6 : decode cX3_takeBytes 6 = .ok (.isub, 1) := by decide +kernel
theorem dX3_takeBytes_7 : decode cX3_takeBytes 7 = .ok (.invokestatic 85, 3) := by decide +kernel
theorem dX3_takeBytes_10 : decode cX3_takeBytes 10 = .ok (.istore 4, 2) := by decide +kernel
theorem dX3_takeBytes_12 : decode cX3_takeBytes 12 = .ok (.aload_n 0, 1) := by decide +kernel
theorem dX3_takeBytes_13 : decode cX3_takeBytes 13 = .ok (.dup, 1) := by decide +kernel
theorem dX3_takeBytes_14 : decode cX3_takeBytes 14 = .ok (.getfield 91, 3) := by decide +kernel
theorem dX3_takeBytes_17 : decode cX3_takeBytes 17 = .ok (.iload 4, 2) := by decide +kernel
theorem dX3_takeBytes_19 : decode cX3_takeBytes 19 = .ok (.iadd, 1) := by decide +kernel
theorem dX3_takeBytes_20 : decode cX3_takeBytes 20 = .ok (.putfield 91, 3) := by decide +kernel
theorem dX3_takeBytes_23 : decode cX3_takeBytes 23 = .ok (.aload_n 0, 1) := by decide +kernel
theorem dX3_takeBytes_24 : decode cX3_takeBytes 24 = .ok (.dup, 1) := by decide +kernel
theorem dX3_takeBytes_25 : decode cX3_takeBytes 25 = .ok (.getfield 57, 3) := by decide +kernel
theorem dX3_takeBytes_28 : decode cX3_takeBytes 28 = .ok (.iload 4, 2) := by decide +kernel
theorem dX3_takeBytes_30 : decode cX3_takeBytes 30 = .ok (.iadd, 1) := by decide +kernel
theorem dX3_takeBytes_31 : decode cX3_takeBytes 31 = .ok (.putfield 57, 3) := by decide +kernel
theorem dX3_takeBytes_34 : decode cX3_takeBytes 34 = .ok (.aload_n 0, 1) := by decide +kernel
theorem dX3_takeBytes_35 : decode cX3_takeBytes 35 = .ok (.getfield 57, 3) := by decide +kernel
theorem dX3_takeBytes_38 : decode cX3_takeBytes 38 = .ok (.iload_n 2, 1) := by decide +kernel
theorem dX3_takeBytes_39 : decode cX3_takeBytes 39 = .ok (.if_icmp .lt 21, 3) := by decide +kernel
theorem dX3_takeBytes_42 : decode cX3_takeBytes 42 = .ok (.aload_n 0, 1) := by decide +kernel
theorem dX3_takeBytes_43 : decode cX3_takeBytes 43 = .ok (.dup, 1) := by decide +kernel
theorem dX3_takeBytes_44 : decode cX3_takeBytes 44 = .ok (.getfield 34, 3) := by decide +kernel
theorem dX3_takeBytes_47 : decode cX3_takeBytes 47 = .ok (.iload_n 1, 1) := by decide +kernel
theorem dX3_takeBytes_48 : decode cX3_takeBytes 48 = .ok (.invokestatic 38, 3) := by decide +kernel
theorem dX3_takeBytes_51 : decode cX3_takeBytes 51 = .ok (.lor, 1) := by decide +kernel
theorem dX3_takeBytes_52 : decode cX3_takeBytes 52 = .ok (.putfield 34, 3) := by decide +kernel
theorem dX3_takeBytes_55 : decode cX3_takeBytes 55 = .ok (.aload_n 0, 1) := by decide +kernel
theorem dX3_takeBytes_56 : decode cX3_takeBytes 56 = .ok (.iconst 0, 1) := by decide +kernel
theorem dX3_takeBytes_57 : decode cX3_takeBytes 57 = .ok (.putfield 57, 3) := by decide +kernel
theorem dX3_takeBytes_60 : decode cX3_takeBytes 60 = .ok (.iload 4, 2) := by decide +kernel
theorem dX3_takeBytes_62 : decode cX3_takeBytes 62 = .ok (.ireturn, 1) := by decide +kernel
theorem dX3_takeIndex_0 : decode cX3_takeIndex 0 = .ok (.iconst 2, 1) := by decide +kernel
theorem dX3_takeIndex_1 : decode cX3_takeIndex 1 = .ok (.istore_n 1, 1) := by decide +kernel
theorem dX3_takeIndex_2 : decode cX3_takeIndex 2 = .ok (.iload_n 1, 1) := by decide +kernel
theorem dX3_takeIndex_3 : decode cX3_takeIndex 3 = .ok (.ifCond .le 23, 3) := by decide +kernel
theorem dX3_takeIndex_6 : decode cX3_takeIndex 6 = .ok (.aload_n 0, 1) := by decide +kernel
theorem dX3_takeIndex_7 : decode cX3_takeIndex 7 = .ok (.getfield 21, 3) := by decide +kernel
theorem dX3_takeIndex_10 : decode cX3_takeIndex 10 = .ok (.iload_n 1, 1) := by decide +kernel
theorem dX3_takeIndex_11 : decode cX3_takeIndex 11 = .ok (.aload_n 0, 1) := by decide +kernel
theorem dX3_takeIndex_12 : decode cX3_takeIndex 12 = .ok (.getfield 21, 3) := by decide +kernel
theorem dX3_takeIndex_15 : decode cX3_takeIndex 15 = .ok (.iload_n 1, 1) := by decide +kernel
theorem dX3_takeIndex_16 : decode cX3_takeIndex 16 = .ok (.iconst 1, 1) := by decide +kernel
theorem dX3_takeIndex_17 : decode cX3_takeIndex 17 = .ok (.isub, 1) := by decide +kernel
theorem dX3_takeIndex_18 : decode cX3_takeIndex 18 = .ok (.iaload, 1) := by decide +kernel
theorem dX3_takeIndex_19 : decode cX3_takeIndex 19 = .ok (.iastore, 1) := by decide +kernel
theorem dX3_takeIndex_20 : decode cX3_takeIndex 20 = .ok (.iinc 1 (-1), 3) := by decide +kernel
theorem dX3_takeIndex_23 : decode cX3_takeIndex 23 = .ok (.goto (-21), 3) := by decide +kernel
theorem dX3_takeIndex_26 : decode cX3_takeIndex 26 = .ok (.aload_n 0, 1) := by decide +kernel
theorem dX3_takeIndex_27 : decode cX3_takeIndex 27 = .ok (.getfield 21, 3) := by decide +kernel
theorem dX3_takeIndex_30 : decode cX3_takeIndex 30 = .ok (.iconst 0, 1) := by decide +kernel
theorem dX3_takeIndex_31 : decode cX3_takeIndex 31 = .ok (.aload_n 0, 1) := by decide +kernel
theorem dX3_takeIndex_32 : decode cX3_takeIndex 32 = .ok (.getfield 60, 3) := by decide +kernel
theorem dX3_takeIndex_35 : decode cX3_takeIndex 35 = .ok (.iastore, 1) := by decide +kernel
theorem dX3_takeIndex_36 : decode cX3_takeIndex 36 = .ok (.aload_n 0, 1) := by decide +kernel
theorem dX3_takeIndex_37 : decode cX3_takeIndex 37 = .ok (.aload_n 0, 1) := by decide +kernel
theorem dX3_takeIndex_38 : decode cX3_takeIndex 38 = .ok (.getfield 31, 3) := by decide +kernel
theorem dX3_takeIndex_41 : decode cX3_takeIndex 41 = .ok (.putfield 60, 3) := by decide +kernel
theorem dX3_takeIndex_44 : decode cX3_takeIndex 44 = .ok (.aload_n 0, 1) := by decide +kernel
theorem dX3_takeIndex_45 : decode cX3_takeIndex 45 = .ok (.iconst (-1), 1) := by decide +kernel
theorem dX3_takeIndex_46 : decode cX3_takeIndex 46 = .ok (.putfield 31, 3) := by decide +kernel
theorem dX3_takeIndex_49 : decode cX3_takeIndex 49 = .ok (.return_, 1) := by decide +kernel
set_option maxRecDepth 20000 in
theorem ggX3_dropOld_X4_filesOf : GoodIn wsX3_dropOld wsX4_filesOf := goodIn_r _ [8, 9, 10, 11, 12, 6, 13, 14, 25, 26, 27, 28, 29, 30, 31, 32] (by decide +kernel) (by decide +kernel)
set_option maxRecDepth 20000 in
theorem gX3_dropOld_X4_filesOf_n42 : GoodIn wsX3_dropOld (wsX4_filesOf) := ggX3_dropOld_X4_filesOf
theorem dX3_dropOld_0 : decode cX3_dropOld 0 = .ok (.aload_n 1, 1) := by decide +kernel
theorem dX3_dropOld_1 : decode cX3_dropOld 1 = .ok (.aload_n 0, 1) := by decide +kernel
theorem dX3_dropOld_2 : decode cX3_dropOld 2 = .ok (.getfield 60, 3) := by decide +kernel
theorem dX3_dropOld_5 : decode cX3_dropOld 5 = .ok (.invokevirtual 42, 3) := by decide +kernel
theorem dX3_dropOld_8 : decode cX3_dropOld 8 = .ok (.lstore_n 2, 1) := by decide +kernel
theorem dX3_dropOld_9 : decode cX3_dropOld 9 = .ok (.iconst 0, 1) := by decide +kernel
theorem dX3_dropOld_10 : decode cX3_dropOld 10 = .ok (.istore 4, 2) := by decide +kernel
theorem dX3_dropOld_12 : decode cX3_dropOld 12 = .ok (.iload 4, 2) := by decide +kernel
theorem dX3_dropOld_14 : decode cX3_dropOld 14 = .ok (.aload_n 0, 1) := by decide +kernel
theorem dX3_dropOld_15 : decode cX3_dropOld 15 = .ok (.getfield 18, 3) := by decide +kernel
theorem dX3_dropOld_18 : decode cX3_dropOld 18 = .ok (.if_icmp .ge 29, 3) := by decide +kernel
theorem dX3_dropOld_21 : decode cX3_dropOld 21 = .ok (.iload 4, 2) := by decide +kernel
theorem dX3_dropOld_23 : decode cX3_dropOld 23 = .ok (.iconst 3, 1) := by decide +kernel
theorem dX3_dropOld_24 : decode cX3_dropOld 24 = .ok (.if_icmp .ge 23, 3) := by decide +kernel
theorem dX3_dropOld_27 : decode cX3_dropOld 27 = .ok (.lload_n 2, 1) := by decide +kernel
theorem dX3_dropOld_28 : decode cX3_dropOld 28 = .ok (.aload_n 1, 1) := by decide +kernel
theorem dX3_dropOld_29 : decode cX3_dropOld 29 = .ok (.aload_n 0, 1) := by decide +kernel
theorem dX3_dropOld_30 : decode cX3_dropOld 30 = .ok (.getfield 21, 3) := by decide +kernel
theorem dX3_dropOld_33 : decode cX3_dropOld 33 = .ok (.iload 4, 2) := by decide +kernel
theorem dX3_dropOld_35 : decode cX3_dropOld 35 = .ok (.iaload, 1) := by decide +kernel
theorem dX3_dropOld_36 : decode cX3_dropOld 36 = .ok (.invokevirtual 42, 3) := by decide +kernel
theorem dX3_dropOld_39 : decode cX3_dropOld 39 = .ok (.lor, 1) := by decide +kernel
theorem dX3_dropOld_40 : decode cX3_dropOld 40 = .ok (.lstore_n 2, 1) := by decide +kernel
theorem dX3_dropOld_41 : decode cX3_dropOld 41 = .ok (.iinc 4 1, 3) := by decide +kernel
theorem dX3_dropOld_44 : decode cX3_dropOld 44 = .ok (.goto (-32), 3) := by decide +kernel
theorem dX3_dropOld_47 : decode cX3_dropOld 47 = .ok (.aload_n 0, 1) := by decide +kernel
theorem dX3_dropOld_48 : decode cX3_dropOld 48 = .ok (.dup, 1) := by decide +kernel
theorem dX3_dropOld_49 : decode cX3_dropOld 49 = .ok (.getfield 34, 3) := by decide +kernel
theorem dX3_dropOld_52 : decode cX3_dropOld 52 = .ok (.lload_n 2, 1) := by decide +kernel
theorem dX3_dropOld_53 : decode cX3_dropOld 53 = .ok (.land, 1) := by decide +kernel
theorem dX3_dropOld_54 : decode cX3_dropOld 54 = .ok (.putfield 34, 3) := by decide +kernel
theorem dX3_dropOld_57 : decode cX3_dropOld 57 = .ok (.return_, 1) := by decide +kernel
set_option maxRecDepth 20000 in
theorem ggX4_init_J7_fill_53178 : GoodIn wsX4_init wsJ7_fill_53178 := goodIn_r _ [15] (by decide +kernel) (by decide +kernel)
set_option maxRecDepth 20000 in
theorem gX4_init_J7_fill_53178 : GoodIn wsX4_init (va_wsS RX4 28 yJ7_fill_53178 wsJ7_fill_53178) := goodIn_app (goodIn_of _ (by decide +kernel)) ggX4_init_J7_fill_53178
theorem dX4_init_0 : decode cX4_init 0 = .ok (.aload_n 0, 1) := by decide +kernel
theorem dX4_init_1 : decode cX4_init 1 = .ok (.invokespecial 3, 3) := by decide +kernel
theorem dX4_init_4 : decode cX4_init 4 = .ok (.aload_n 0, 1) := by decide +kernel
theorem dX4_init_5 : decode cX4_init 5 = .ok (.bipush 60, 2) := by decide +kernel
theorem dX4_init_7 : decode cX4_init 7 = .ok (.newarray .int, 2) := by decide +kernel
theorem dX4_init_9 : decode cX4_init 9 = .ok (.putfield 9, 3) := by decide +kernel
theorem dX4_init_12 : decode cX4_init 12 = .ok (.aload_n 0, 1) := by decide +kernel
theorem dX4_init_13 : decode cX4_init 13 = .ok (.bipush 60, 2) := by decide +kernel
theorem dX4_init_15 : decode cX4_init 15 = .ok (.newarray .int, 2) := by decide +kernel
theorem dX4_init_17 : decode cX4_init 17 = .ok (.putfield 15, 3) := by decide +kernel
theorem dX4_init_20 : decode cX4_init 20 = .ok (.aload_n 0, 1) := by decide +kernel
theorem dX4_init_21 : decode cX4_init 21 = .ok (.bipush 60, 2) := by decide +kernel
theorem dX4_init_23 : decode cX4_init 23 = .ok (.newarray .int, 2) := by decide +kernel
theorem dX4_init_25 : decode cX4_init 25 = .ok (.putfield 18, 3) := by decide +kernel
theorem dX4_init_28 : decode cX4_init 28 = .ok (.aload_n 0, 1) := by decide +kernel
theorem dX4_init_29 : decode cX4_init 29 = .ok (.bipush 60, 2) := by decide +kernel
theorem dX4_init_31 : decode cX4_init 31 = .ok (.newarray .long, 2) := by decide +kernel
theorem dX4_init_33 : decode cX4_init 33 = .ok (.putfield 21, 3) := by decide +kernel
theorem dX4_init_36 : decode cX4_init 36 = .ok (.aload_n 0, 1) := by decide +kernel
theorem dX4_init_37 : decode cX4_init 37 = .ok (.sipush 720, 3) := by decide +kernel
theorem dX4_init_40 : decode cX4_init 40 = .ok (.newarray .int, 2) := by decide +kernel
theorem dX4_init_42 : decode cX4_init 42 = .ok (.putfield 25, 3) := by decide +kernel
theorem dX4_init_45 : decode cX4_init 45 = .ok (.aload_n 0, 1) := by decide +kernel
theorem dX4_init_46 : decode cX4_init 46 = .ok (.getfield 25, 3) := by decide +kernel
theorem dX4_init_49 : decode cX4_init 49 = .ok (.iconst (-1), 1) := by decide +kernel
theorem dX4_init_50 : decode cX4_init 50 = .ok (.invokestatic 28, 3) := by decide +kernel
theorem dX4_init_53 : decode cX4_init 53 = .ok (.aload_n 0, 1) := by decide +kernel
theorem dX4_init_54 : decode cX4_init 54 = .ok (.iconst 1, 1) := by decide +kernel
theorem dX4_init_55 : decode cX4_init 55 = .ok (.putfield 34, 3) := by decide +kernel
theorem dX4_init_58 : decode cX4_init 58 = .ok (.return_, 1) := by decide +kernel
theorem dX4_hasFile_0 : decode cX4_hasFile 0 = .ok (.iload_n 1, 1) := by decide +kernel
theorem dX4_hasFile_1 : decode cX4_hasFile 1 = .ok (.ifCond .lt 15, 3) := by decide +kernel
theorem dX4_hasFile_4 : decode cX4_hasFile 4 = .ok (.iload_n 1, 1) := by decide +kernel
theorem dX4_hasFile_5 : decode cX4_hasFile 5 = .ok (.aload_n 0, 1) := by decide +kernel
theorem dX4_hasFile_6 : decode cX4_hasFile 6 = .ok (.getfield 38, 3) := by decide +kernel
theorem dX4_hasFile_9 : decode cX4_hasFile 9 = .ok (.if_icmp .ge 7, 3) := by decide +kernel
theorem dX4_hasFile_12 : decode cX4_hasFile 12 = .ok (.iconst 1, 1) := by decide +kernel
theorem dX4_hasFile_13 : decode cX4_hasFile 13 = .ok (.goto 4, 3) := by decide +kernel
theorem dX4_hasFile_16 : decode cX4_hasFile 16 = .ok (.iconst 0, 1) := by decide +kernel
theorem dX4_hasFile_17 : decode cX4_hasFile 17 = .ok (.ireturn, 1) := by decide +kernel
theorem dX4_hasState_0 : decode cX4_hasState 0 = .ok (.iload_n 1, 1) := by decide +kernel
theorem dX4_hasState_1 : decode cX4_hasState 1 = .ok (.ifCond .lt 15, 3) := by decide +kernel
theorem dX4_hasState_4 : decode cX4_hasState 4 = .ok (.iload_n 1, 1) := by decide +kernel
theorem dX4_hasState_5 : decode cX4_hasState 5 = .ok (.aload_n 0, 1) := by decide +kernel
theorem dX4_hasState_6 : decode cX4_hasState 6 = .ok (.getfield 34, 3) := by decide +kernel
theorem dX4_hasState_9 : decode cX4_hasState 9 = .ok (.if_icmp .ge 7, 3) := by decide +kernel
theorem dX4_hasState_12 : decode cX4_hasState 12 = .ok (.iconst 1, 1) := by decide +kernel
theorem dX4_hasState_13 : decode cX4_hasState 13 = .ok (.goto 4, 3) := by decide +kernel
theorem dX4_hasState_16 : decode cX4_hasState 16 = .ok (.iconst 0, 1) := by decide +kernel
theorem dX4_hasState_17 : decode cX4_hasState 17 = .ok (.ireturn, 1) := by decide +kernel
theorem dX4_latestState_0 : decode cX4_latestState 0 = .ok (.aload_n 0, 1) := by decide +kernel
theorem dX4_latestState_1 : decode cX4_latestState 1 = .ok (.getfield 34, 3) := by decide +kernel
theorem dX4_latestState_4 : decode cX4_latestState 4 = .ok (.iconst 1, 1) := by decide +kernel
theorem dX4_latestState_5 : decode cX4_latestState 5 = .ok (.isub, 1) := by decide +kernel
theorem dX4_latestState_6 : decode cX4_latestState 6 = .ok (.ireturn, 1) := by decide +kernel
theorem dX4_allFiles_0 : decode cX4_allFiles 0 = .ok (.lconst 1, 1) := by decide +kernel
theorem dX4_allFiles_1 : decode cX4_allFiles 1 = .ok (.aload_n 0, 1) := by decide +kernel
theorem dX4_allFiles_2 : decode cX4_allFiles 2 = .ok (.getfield 38, 3) := by decide +kernel
theorem dX4_allFiles_5 : decode cX4_allFiles 5 = .ok (.lshl, 1) := by decide +kernel
theorem dX4_allFiles_6 : decode cX4_allFiles 6 = .ok (.lconst 1, 1) := by decide +kernel
theorem dX4_allFiles_7 : decode cX4_allFiles 7 = .ok (.lsub, 1) := by decide +kernel
theorem dX4_allFiles_8 : decode cX4_allFiles 8 = .ok (.lreturn, 1) := by decide +kernel
theorem dX4_addFile_0 : decode cX4_addFile 0 = .ok (.aload_n 0, 1) := by decide +kernel
theorem dX4_addFile_1 : decode cX4_addFile 1 = .ok (.getfield 38, 3) := by decide +kernel
theorem dX4_addFile_4 : decode cX4_addFile 4 = .ok (.bipush 60, 2) := by decide +kernel
theorem dX4_addFile_6 : decode cX4_addFile 6 = .ok (.if_icmp .lt 5, 3) := by decide +kernel
theorem dX4_addFile_9 : decode cX4_addFile 9 = .ok (.iconst (-1), 1) := by decide +kernel
theorem dX4_addFile_10 : decode cX4_addFile 10 = .ok (.ireturn, 1) := by decide +kernel
theorem dX4_addFile_11 : decode cX4_addFile 11 = .ok (.aload_n 0, 1) := by decide +kernel
theorem dX4_addFile_12 : decode cX4_addFile 12 = .ok (.getfield 9, 3) := by decide +kernel
theorem dX4_addFile_15 : decode cX4_addFile 15 = .ok (.aload_n 0, 1) := by decide +kernel
theorem dX4_addFile_16 : decode cX4_addFile 16 = .ok (.getfield 38, 3) := by decide +kernel
theorem dX4_addFile_19 : decode cX4_addFile 19 = .ok (.iload_n 1, 1) := by decide +kernel
theorem dX4_addFile_20 : decode cX4_addFile 20 = .ok (.iastore, 1) := by decide +kernel
theorem dX4_addFile_21 : decode cX4_addFile 21 = .ok (.aload_n 0, 1) := by decide +kernel
theorem dX4_addFile_22 : decode cX4_addFile 22 = .ok (.dup, 1) := by decide +kernel
theorem dX4_addFile_23 : decode cX4_addFile 23 = .ok (.getfield 38, 3) := by decide +kernel
theorem dX4_addFile_26 : decode cX4_addFile 26 = .ok (.iconst 1, 1) := by decide +kernel
theorem dX4_addFile_27 : decode cX4_addFile 27 = .ok (.iadd, 1) := by decide +kernel
theorem dX4_addFile_28 : decode cX4_addFile 28 = .ok (.putfield 38, 3) := by decide +kernel
theorem dX4_addFile_31 : decode cX4_addFile 31 = .ok (.aload_n 0, 1) := by decide +kernel
theorem dX4_addFile_32 : decode cX4_addFile 32 = .ok (.getfield 38, 3) := by decide +kernel
theorem dX4_addFile_35 : decode cX4_addFile 35 = .ok (.iconst 1, 1) := by decide +kernel
theorem dX4_addFile_36 : decode cX4_addFile 36 = .ok (.isub, 1) := by decide +kernel
theorem dX4_addFile_37 : decode cX4_addFile 37 = .ok (.ireturn, 1) := by decide +kernel
set_option maxRecDepth 20000 in
theorem ggX4_addPut_X5_isWithin : GoodIn wsX4_addPut wsX5_isWithin := goodIn_r _ [4] (by decide +kernel) (by decide +kernel)
set_option maxRecDepth 20000 in
theorem gX4_addPut_X5_isWithin_n41 : GoodIn wsX4_addPut (wsX5_isWithin) := ggX4_addPut_X5_isWithin
set_option maxRecDepth 20000 in
theorem ggX4_addPut_X4_mayChange : GoodIn wsX4_addPut wsX4_mayChange := goodIn_r _ [9, 10, 11, 12, 13, 14, 8, 15, 16, 17, 3, 18, 19, 2, 4, 46, 47, 48, 49, 50, 51, 52, 53] (by decide +kernel) (by decide +kernel)
set_option maxRecDepth 20000 in
theorem gX4_addPut_X4_mayChange : GoodIn wsX4_addPut (wsV RX4 45 RX4 yX4_mayChange wsX4_mayChange) := goodIn_app (goodIn_of _ (by decide +kernel)) ggX4_addPut_X4_mayChange
set_option maxRecDepth 20000 in
theorem ggX4_addPut_X4_latestState : GoodIn wsX4_addPut wsX4_latestState := goodIn_r _ [23, 10, 46, 47, 48, 49, 50, 51, 52, 53] (by decide +kernel) (by decide +kernel)
set_option maxRecDepth 20000 in
theorem gX4_addPut_X4_latestState : GoodIn wsX4_addPut (wsV RX4 49 RX4 yX4_latestState wsX4_latestState) := goodIn_app (goodIn_of _ (by decide +kernel)) ggX4_addPut_X4_latestState
set_option maxRecDepth 20000 in
theorem ggX4_addPut_X4_namedBy : GoodIn wsX4_addPut wsX4_namedBy := goodIn_r _ [27, 1, 28, 29, 30, 8, 31, 10, 2, 3, 4, 46, 47, 48, 49, 50, 51, 52, 53] (by decide +kernel) (by decide +kernel)
set_option maxRecDepth 20000 in
theorem gX4_addPut_X4_namedBy : GoodIn wsX4_addPut (wsV RX4 53 RX4 yX4_namedBy wsX4_namedBy) := goodIn_app (goodIn_of _ (by decide +kernel)) ggX4_addPut_X4_namedBy
set_option maxRecDepth 20000 in
theorem ggX4_addPut_X4_addState : GoodIn wsX4_addPut wsX4_addState := goodIn_r _ [35, 10, 1, 36, 37, 38, 39, 40, 46, 47, 48, 49, 50, 51, 52, 53] (by decide +kernel) (by decide +kernel)
set_option maxRecDepth 20000 in
theorem gX4_addPut_X4_addState : GoodIn wsX4_addPut (wsV RX4 57 RX4 yX4_addState wsX4_addState) := goodIn_app (goodIn_of _ (by decide +kernel)) ggX4_addPut_X4_addState
set_option maxRecDepth 20000 in
theorem ggX4_addPut_X4_gatherFiles : GoodIn wsX4_addPut wsX4_gatherFiles := goodIn_r _ [44, 45, 24, 25, 26, 8, 27, 1, 28, 29, 30, 31, 10, 2, 3, 4, 17, 18, 19, 46, 47, 48, 49, 50, 51, 52, 53] (by decide +kernel) (by decide +kernel)
set_option maxRecDepth 20000 in
theorem gX4_addPut_X4_gatherFiles : GoodIn wsX4_addPut (wsV RX4 61 RX4 yX4_gatherFiles wsX4_gatherFiles) := goodIn_app (goodIn_of _ (by decide +kernel)) ggX4_addPut_X4_gatherFiles
theorem dX4_addPut_0 : decode cX4_addPut 0 = .ok (.iload_n 1, 1) := by decide +kernel
theorem dX4_addPut_1 : decode cX4_addPut 1 = .ok (.iconst 0, 1) := by decide +kernel
theorem dX4_addPut_2 : decode cX4_addPut 2 = .ok (.bipush 11, 2) := by decide +kernel
theorem dX4_addPut_4 : decode cX4_addPut 4 = .ok (.invokestatic 41, 3) := by decide +kernel
theorem dX4_addPut_7 : decode cX4_addPut 7 = .ok (.ifCond .eq 24, 3) := by decide +kernel
theorem dX4_addPut_10 : decode cX4_addPut 10 = .ok (.aload_n 0, 1) := by decide +kernel
theorem dX4_addPut_11 : decode cX4_addPut 11 = .ok (.iload_n 2, 1) := by decide +kernel
theorem dX4_addPut_12 : decode cX4_addPut 12 = .ok (.invokevirtual 45, 3) := by decide +kernel
theorem dX4_addPut_15 : decode cX4_addPut 15 = .ok (.ifCond .eq 16, 3) := by decide +kernel
theorem dX4_addPut_18 : decode cX4_addPut 18 = .ok (.aload_n 0, 1) := by decide +kernel
theorem dX4_addPut_19 : decode cX4_addPut 19 = .ok (.aload_n 0, 1) := by decide +kernel
theorem dX4_addPut_20 : decode cX4_addPut 20 = .ok (.invokevirtual 49, 3) := by decide +kernel
theorem dX4_addPut_23 : decode cX4_addPut 23 = .ok (.iload_n 1, 1) := by decide +kernel
theorem dX4_addPut_24 : decode cX4_addPut 24 = .ok (.invokevirtual 53, 3) := by decide +kernel
theorem dX4_addPut_27 : decode cX4_addPut 27 = .ok (.iload_n 2, 1) := by decide +kernel
theorem dX4_addPut_28 : decode cX4_addPut 28 = .ok (.if_icmp .ne 5, 3) := by decide +kernel
theorem dX4_addPut_31 : decode cX4_addPut 31 = .ok (.iconst (-1), 1) := by decide +kernel
theorem dX4_addPut_32 : decode cX4_addPut 32 = .ok (.ireturn, 1) := by decide +kernel
theorem dX4_addPut_33 : decode cX4_addPut 33 = .ok (.aload_n 0, 1) := by decide +kernel
theorem dX4_addPut_34 : decode cX4_addPut 34 = .ok (.iload_n 3, 1) := by decide +kernel
theorem dX4_addPut_35 : decode cX4_addPut 35 = .ok (.invokevirtual 57, 3) := by decide +kernel
theorem dX4_addPut_38 : decode cX4_addPut 38 = .ok (.istore 4, 2) := by decide +kernel
theorem dX4_addPut_40 : decode cX4_addPut 40 = .ok (.aload_n 0, 1) := by decide +kernel
theorem dX4_addPut_41 : decode cX4_addPut 41 = .ok (.getfield 25, 3) := by decide +kernel
theorem dX4_addPut_44 : decode cX4_addPut 44 = .ok (.iload 4, 2) := by decide +kernel
theorem dX4_addPut_46 : decode cX4_addPut 46 = .ok (.bipush 12, 2) := by decide +kernel
theorem dX4_addPut_48 : decode cX4_addPut 48 = .ok (.imul, 1) := by decide +kernel
theorem dX4_addPut_49 : decode cX4_addPut 49 = .ok (.iload_n 1, 1) := by decide +kernel
theorem dX4_addPut_50 : decode cX4_addPut 50 = .ok (.iadd, 1) := by decide +kernel
theorem dX4_addPut_51 : decode cX4_addPut 51 = .ok (.iload_n 2, 1) := by decide +kernel
theorem dX4_addPut_52 : decode cX4_addPut 52 = .ok (.iastore, 1) := by decide +kernel
theorem dX4_addPut_53 : decode cX4_addPut 53 = .ok (.aload_n 0, 1) := by decide +kernel
theorem dX4_addPut_54 : decode cX4_addPut 54 = .ok (.iload 4, 2) := by decide +kernel
theorem dX4_addPut_56 : decode cX4_addPut 56 = .ok (.invokevirtual 61, 3) := by decide +kernel
theorem dX4_addPut_59 : decode cX4_addPut 59 = .ok (.iload 4, 2) := by decide +kernel
theorem dX4_addPut_61 : decode cX4_addPut 61 = .ok (.ireturn, 1) := by decide +kernel
set_option maxRecDepth 20000 in
theorem ggX4_addYank_X4_mayChange : GoodIn wsX4_addYank wsX4_mayChange := goodIn_r _ [8, 9, 1, 10, 11, 12, 7, 13, 14, 15, 16, 17, 18, 19, 20, 43, 44, 45, 46, 47, 48, 49, 50] (by decide +kernel) (by decide +kernel)
set_option maxRecDepth 20000 in
theorem gX4_addYank_X4_mayChange : GoodIn wsX4_addYank (wsV RX4 45 RX4 yX4_mayChange wsX4_mayChange) := goodIn_app (goodIn_of _ (by decide +kernel)) ggX4_addYank_X4_mayChange
set_option maxRecDepth 20000 in
theorem ggX4_addYank_X5_bitOf : GoodIn wsX4_addYank wsX5_bitOf := goodIn_r _ [17, 18, 19, 16, 20] (by decide +kernel) (by decide +kernel)
set_option maxRecDepth 20000 in
theorem gX4_addYank_X5_bitOf_n69 : GoodIn wsX4_addYank (wsX5_bitOf) := ggX4_addYank_X5_bitOf
set_option maxRecDepth 20000 in
theorem ggX4_addYank_X4_addState : GoodIn wsX4_addYank wsX4_addState := goodIn_r _ [24, 9, 3, 25, 26, 27, 28, 29, 43, 44, 45, 46, 47, 48, 49, 50] (by decide +kernel) (by decide +kernel)
set_option maxRecDepth 20000 in
theorem gX4_addYank_X4_addState : GoodIn wsX4_addYank (wsV RX4 57 RX4 yX4_addState wsX4_addState) := goodIn_app (goodIn_of _ (by decide +kernel)) ggX4_addYank_X4_addState
set_option maxRecDepth 20000 in
theorem ggX4_addYank_X4_gatherFiles : GoodIn wsX4_addYank wsX4_gatherFiles := goodIn_r _ [33, 34, 35, 36, 37, 7, 38, 3, 39, 40, 41, 42, 9, 19, 16, 20, 15, 17, 18, 43, 44, 45, 46, 47, 48, 49, 50] (by decide +kernel) (by decide +kernel)
set_option maxRecDepth 20000 in
theorem gX4_addYank_X4_gatherFiles : GoodIn wsX4_addYank (wsV RX4 61 RX4 yX4_gatherFiles wsX4_gatherFiles) := goodIn_app (goodIn_of _ (by decide +kernel)) ggX4_addYank_X4_gatherFiles
theorem dX4_addYank_0 : decode cX4_addYank 0 = .ok (.aload_n 0, 1) := by decide +kernel
theorem dX4_addYank_1 : decode cX4_addYank 1 = .ok (.iload_n 1, 1) := by decide +kernel
theorem dX4_addYank_2 : decode cX4_addYank 2 = .ok (.invokevirtual 45, 3) := by decide +kernel
theorem dX4_addYank_5 : decode cX4_addYank 5 = .ok (.ifCond .ne 5, 3) := by decide +kernel
theorem dX4_addYank_8 : decode cX4_addYank 8 = .ok (.iconst (-1), 1) := by decide +kernel
theorem dX4_addYank_9 : decode cX4_addYank 9 = .ok (.ireturn, 1) := by decide +kernel
theorem dX4_addYank_10 : decode cX4_addYank 10 = .ok (.aload_n 0, 1) := by decide +kernel
theorem dX4_addYank_11 : decode cX4_addYank 11 = .ok (.dup, 1) := by decide +kernel
theorem dX4_addYank_12 : decode cX4_addYank 12 = .ok (.getfield 65, 3) := by decide +kernel
theorem dX4_addYank_15 : decode cX4_addYank 15 = .ok (.iload_n 1, 1) := by decide +kernel
theorem dX4_addYank_16 : decode cX4_addYank 16 = .ok (.invokestatic 69, 3) := by decide +kernel
theorem dX4_addYank_19 : decode cX4_addYank 19 = .ok (.lor, 1) := by decide +kernel
theorem dX4_addYank_20 : decode cX4_addYank 20 = .ok (.putfield 65, 3) := by decide +kernel
theorem dX4_addYank_23 : decode cX4_addYank 23 = .ok (.aload_n 0, 1) := by decide +kernel
theorem dX4_addYank_24 : decode cX4_addYank 24 = .ok (.getfield 15, 3) := by decide +kernel
theorem dX4_addYank_27 : decode cX4_addYank 27 = .ok (.iload_n 1, 1) := by decide +kernel
theorem dX4_addYank_28 : decode cX4_addYank 28 = .ok (.iload_n 2, 1) := by decide +kernel
theorem dX4_addYank_29 : decode cX4_addYank 29 = .ok (.iastore, 1) := by decide +kernel
theorem dX4_addYank_30 : decode cX4_addYank 30 = .ok (.aload_n 0, 1) := by decide +kernel
theorem dX4_addYank_31 : decode cX4_addYank 31 = .ok (.iload_n 2, 1) := by decide +kernel
theorem dX4_addYank_32 : decode cX4_addYank 32 = .ok (.invokevirtual 57, 3) := by decide +kernel
theorem dX4_addYank_35 : decode cX4_addYank 35 = .ok (.istore_n 3, 1) := by decide +kernel
theorem dX4_addYank_36 : decode cX4_addYank 36 = .ok (.iload_n 3, 1) := by decide +kernel
theorem dX4_addYank_37 : decode cX4_addYank 37 = .ok (.bipush 12, 2) := by decide +kernel
theorem dX4_addYank_39 : decode cX4_addYank 39 = .ok (.imul, 1) := by decide +kernel
theorem dX4_addYank_40 : decode cX4_addYank 40 = .ok (.istore 4, 2) := by decide +kernel
theorem dX4_addYank_42 : decode cX4_addYank 42 = .ok (.iload 4, 2) := by decide +kernel
theorem dX4_addYank_44 : decode cX4_addYank 44 = .ok (.iload_n 3, 1) := by decide +kernel
theorem dX4_addYank_45 : decode cX4_addYank 45 = .ok (.iconst 1, 1) := by decide +kernel
theorem dX4_addYank_46 : decode cX4_addYank 46 = .ok (.iadd, 1) := by decide +kernel
theorem dX4_addYank_47 : decode cX4_addYank 47 = .ok (.bipush 12, 2) := by decide +kernel
theorem dX4_addYank_49 : decode cX4_addYank 49 = .ok (.imul, 1) := by decide +kernel
theorem dX4_addYank_50 : decode cX4_addYank 50 = .ok (.if_icmp .ge 28, 3) := by decide +kernel
theorem dX4_addYank_53 : decode cX4_addYank 53 = .ok (.aload_n 0, 1) := by decide +kernel
theorem dX4_addYank_54 : decode cX4_addYank 54 = .ok (.getfield 25, 3) := by decide +kernel
theorem dX4_addYank_57 : decode cX4_addYank 57 = .ok (.iload 4, 2) := by decide +kernel
theorem dX4_addYank_59 : decode cX4_addYank 59 = .ok (.iaload, 1) := by decide +kernel
theorem dX4_addYank_60 : decode cX4_addYank 60 = .ok (.iload_n 1, 1) := by decide +kernel
theorem dX4_addYank_61 : decode cX4_addYank 61 = .ok (.if_icmp .ne 11, 3) := by decide +kernel
theorem dX4_addYank_64 : decode cX4_addYank 64 = .ok (.aload_n 0, 1) := by decide +kernel
theorem dX4_addYank_65 : decode cX4_addYank 65 = .ok (.getfield 25, 3) := by decide +kernel
theorem dX4_addYank_68 : decode cX4_addYank 68 = .ok (.iload 4, 2) := by decide +kernel
theorem dX4_addYank_70 : decode cX4_addYank 70 = .ok (.iconst (-1), 1) := by decide +kernel
theorem dX4_addYank_71 : decode cX4_addYank 71 = .ok (.iastore, 1) := by decide +kernel
theorem dX4_addYank_72 : decode cX4_addYank 72 = .ok (.iinc 4 1, 3) := by decide +kernel
theorem dX4_addYank_75 : decode cX4_addYank 75 = .ok (.goto (-33), 3) := by decide +kernel
theorem dX4_addYank_78 : decode cX4_addYank 78 = .ok (.aload_n 0, 1) := by decide +kernel
theorem dX4_addYank_79 : decode cX4_addYank 79 = .ok (.iload_n 3, 1) := by decide +kernel
theorem dX4_addYank_80 : decode cX4_addYank 80 = .ok (.invokevirtual 61, 3) := by decide +kernel
theorem dX4_addYank_83 : decode cX4_addYank 83 = .ok (.iload_n 3, 1) := by decide +kernel
theorem dX4_addYank_84 : decode cX4_addYank 84 = .ok (.ireturn, 1) := by decide +kernel
set_option maxRecDepth 20000 in
theorem ggX4_mayChange_X4_hasFile : GoodIn wsX4_mayChange wsX4_hasFile := goodIn_r _ [7, 8, 15, 16, 17, 18, 19, 20, 21, 22] (by decide +kernel) (by decide +kernel)
set_option maxRecDepth 20000 in
theorem gX4_mayChange_X4_hasFile : GoodIn wsX4_mayChange (wsV RX4 73 RX4 yX4_hasFile wsX4_hasFile) := goodIn_app (goodIn_of _ (by decide +kernel)) ggX4_mayChange_X4_hasFile
set_option maxRecDepth 20000 in
theorem ggX4_mayChange_X5_bitOf : GoodIn wsX4_mayChange wsX5_bitOf := goodIn_r _ [11, 12, 13, 10, 14] (by decide +kernel) (by decide +kernel)
set_option maxRecDepth 20000 in
theorem gX4_mayChange_X5_bitOf_n69 : GoodIn wsX4_mayChange (wsX5_bitOf) := ggX4_mayChange_X5_bitOf
theorem dX4_mayChange_0 : decode cX4_mayChange 0 = .ok (.aload_n 0, 1) := by decide +kernel
theorem dX4_mayChange_1 : decode cX4_mayChange 1 = .ok (.getfield 34, 3) := by decide +kernel
theorem dX4_mayChange_4 : decode cX4_mayChange 4 = .ok (.bipush 60, 2) := by decide +kernel
theorem dX4_mayChange_6 : decode cX4_mayChange 6 = .ok (.if_icmp .ge 29, 3) := by decide +kernel
theorem dX4_mayChange_9 : decode cX4_mayChange 9 = .ok (.aload_n 0, 1) := by decide +kernel
theorem dX4_mayChange_10 : decode cX4_mayChange 10 = .ok (.iload_n 1, 1) := by decide +kernel
theorem dX4_mayChange_11 : decode cX4_mayChange 11 = .ok (.invokevirtual 73, 3) := by decide +kernel
theorem dX4_mayChange_14 : decode cX4_mayChange 14 = .ok (.ifCond .eq 21, 3) := by decide +kernel
theorem dX4_mayChange_17 : decode cX4_mayChange 17 = .ok (.aload_n 0, 1) := by decide +kernel
theorem dX4_mayChange_18 : decode cX4_mayChange 18 = .ok (.getfield 65, 3) := by decide +kernel
theorem dX4_mayChange_21 : decode cX4_mayChange 21 = .ok (.iload_n 1, 1) := by decide +kernel
theorem dX4_mayChange_22 : decode cX4_mayChange 22 = .ok (.invokestatic 69, 3) := by decide +kernel
theorem dX4_mayChange_25 : decode cX4_mayChange 25 = .ok (.land, 1) := by decide +kernel
theorem dX4_mayChange_26 : decode cX4_mayChange 26 = .ok (.lconst 0, 1) := by decide +kernel
theorem dX4_mayChange_27 : decode cX4_mayChange 27 = .ok (.lcmp, 1) := by decide +kernel
theorem dX4_mayChange_28 : decode cX4_mayChange 28 = .ok (.ifCond .ne 7, 3) := by decide +kernel
theorem dX4_mayChange_31 : decode cX4_mayChange 31 = .ok (.iconst 1, 1) := by decide +kernel
theorem dX4_mayChange_32 : decode cX4_mayChange 32 = .ok (.goto 4, 3) := by decide +kernel
theorem dX4_mayChange_35 : decode cX4_mayChange 35 = .ok (.iconst 0, 1) := by decide +kernel
theorem dX4_mayChange_36 : decode cX4_mayChange 36 = .ok (.ireturn, 1) := by decide +kernel
theorem dX4_addState_0 : decode cX4_addState 0 = .ok (.aload_n 0, 1) := by decide +kernel
theorem dX4_addState_1 : decode cX4_addState 1 = .ok (.getfield 34, 3) := by decide +kernel
theorem dX4_addState_4 : decode cX4_addState 4 = .ok (.istore_n 2, 1) := by decide +kernel
theorem dX4_addState_5 : decode cX4_addState 5 = .ok (.aload_n 0, 1) := by decide +kernel
theorem dX4_addState_6 : decode cX4_addState 6 = .ok (.getfield 25, 3) := by decide +kernel
theorem dX4_addState_9 : decode cX4_addState 9 = .ok (.iload_n 2, 1) := by decide +kernel
theorem dX4_addState_10 : decode cX4_addState 10 = .ok (.iconst 1, 1) := by decide +kernel
theorem dX4_addState_11 : decode cX4_addState 11 = .ok (.isub, 1) := by decide +kernel
theorem dX4_addState_12 : decode cX4_addState 12 = .ok (.bipush 12, 2) := by decide +kernel
theorem dX4_addState_14 : decode cX4_addState 14 = .ok (.imul, 1) := by decide +kernel
theorem dX4_addState_15 : decode cX4_addState 15 = .ok (.aload_n 0, 1) := by decide +kernel
theorem dX4_addState_16 : decode cX4_addState 16 = .ok (.getfield 25, 3) := by decide +kernel
theorem dX4_addState_19 : decode cX4_addState 19 = .ok (.iload_n 2, 1) := by decide +kernel
theorem dX4_addState_20 : decode cX4_addState 20 = .ok (.bipush 12, 2) := by decide +kernel
theorem dX4_addState_22 : decode cX4_addState 22 = .ok (.imul, 1) := by decide +kernel
theorem dX4_addState_23 : decode cX4_addState 23 = .ok (.bipush 12, 2) := by decide +kernel
theorem dX4_addState_25 : decode cX4_addState 25 = .ok (.invokestatic 76, 3) := by decide +kernel
theorem dX4_addState_28 : decode cX4_addState 28 = .ok (.aload_n 0, 1) := by decide +kernel
theorem dX4_addState_29 : decode cX4_addState 29 = .ok (.getfield 18, 3) := by decide +kernel
theorem dX4_addState_32 : decode cX4_addState 32 = .ok (.iload_n 2, 1) := by decide +kernel
theorem dX4_addState_33 : decode cX4_addState 33 = .ok (.iload_n 1, 1) := by decide +kernel
theorem dX4_addState_34 : decode cX4_addState 34 = .ok (.iastore, 1) := by decide +kernel
theorem dX4_addState_35 : decode cX4_addState 35 = .ok (.aload_n 0, 1) := by decide +kernel
theorem dX4_addState_36 : decode cX4_addState 36 = .ok (.dup, 1) := by decide +kernel
theorem dX4_addState_37 : decode cX4_addState 37 = .ok (.getfield 34, 3) := by decide +kernel
theorem dX4_addState_40 : decode cX4_addState 40 = .ok (.iconst 1, 1) := by decide +kernel
theorem dX4_addState_41 : decode cX4_addState 41 = .ok (.iadd, 1) := by decide +kernel
theorem dX4_addState_42 : decode cX4_addState 42 = .ok (.putfield 34, 3) := by decide +kernel
theorem dX4_addState_45 : decode cX4_addState 45 = .ok (.iload_n 2, 1) := by decide +kernel
theorem dX4_addState_46 : decode cX4_addState 46 = .ok (.ireturn, 1) := by decide +kernel
set_option maxRecDepth 20000 in
theorem ggX4_gatherFiles_X4_namedBy : GoodIn wsX4_gatherFiles wsX4_namedBy := goodIn_r _ [6, 7, 8, 9, 10, 5, 11, 12, 13, 14, 15, 19, 20, 21, 22, 23, 24, 25, 26] (by decide +kernel) (by decide +kernel)
set_option maxRecDepth 20000 in
theorem gX4_gatherFiles_X4_namedBy : GoodIn wsX4_gatherFiles (wsV RX4 53 RX4 yX4_namedBy wsX4_namedBy) := goodIn_app (goodIn_of _ (by decide +kernel)) ggX4_gatherFiles_X4_namedBy
set_option maxRecDepth 20000 in
theorem ggX4_gatherFiles_X5_bitOf : GoodIn wsX4_gatherFiles wsX5_bitOf := goodIn_r _ [17, 18, 13, 14, 15] (by decide +kernel) (by decide +kernel)
set_option maxRecDepth 20000 in
theorem gX4_gatherFiles_X5_bitOf_n69 : GoodIn wsX4_gatherFiles (wsX5_bitOf) := ggX4_gatherFiles_X5_bitOf
theorem dX4_gatherFiles_0 : decode cX4_gatherFiles 0 = .ok (.lconst 0, 1) := by decide +kernel
theorem dX4_gatherFiles_1 : decode cX4_gatherFiles 1 = .ok (.lstore_n 2, 1) := by decide +kernel
theorem dX4_gatherFiles_2 : decode cX4_gatherFiles 2 = .ok (.iconst 0, 1) := by decide +kernel
theorem dX4_gatherFiles_3 : decode cX4_gatherFiles 3 = .ok (.istore 4, 2) := by decide +kernel
theorem dX4_gatherFiles_5 : decode cX4_gatherFiles 5 = .ok (.iload 4, 2) := by decide +kernel
theorem dX4_gatherFiles_7 : decode cX4_gatherFiles 7 = .ok (.bipush 12, 2) := by decide +kernel
theorem dX4_gatherFiles_9 : decode cX4_gatherFiles 9 = .ok (.if_icmp .ge 22, 3) := by decide +kernel
theorem dX4_gatherFiles_12 : decode cX4_gatherFiles 12 = .ok (.lload_n 2, 1) := by decide +kernel
theorem dX4_gatherFiles_13 : decode cX4_gatherFiles 13 = .ok (.aload_n 0, 1) := by decide +kernel
theorem dX4_gatherFiles_14 : decode cX4_gatherFiles 14 = .ok (.iload_n 1, 1) := by decide +kernel
theorem dX4_gatherFiles_15 : decode cX4_gatherFiles 15 = .ok (.iload 4, 2) := by decide +kernel
theorem dX4_gatherFiles_17 : decode cX4_gatherFiles 17 = .ok (.invokevirtual 53, 3) := by decide +kernel
theorem dX4_gatherFiles_20 : decode cX4_gatherFiles 20 = .ok (.invokestatic 69, 3) := by decide +kernel
theorem dX4_gatherFiles_23 : decode cX4_gatherFiles 23 = .ok (.lor, 1) := by decide +kernel
theorem dX4_gatherFiles_24 : decode cX4_gatherFiles 24 = .ok (.lstore_n 2, 1) := by decide +kernel
theorem dX4_gatherFiles_25 : decode cX4_gatherFiles 25 = .ok (.iinc 4 1, 3) := by decide +kernel
theorem dX4_gatherFiles_28 : decode cX4_gatherFiles 28 = .ok (.goto (-23), 3) := by decide +kernel
theorem dX4_gatherFiles_31 : decode cX4_gatherFiles 31 = .ok (.aload_n 0, 1) := by decide +kernel
theorem dX4_gatherFiles_32 : decode cX4_gatherFiles 32 = .ok (.getfield 21, 3) := by decide +kernel
theorem dX4_gatherFiles_35 : decode cX4_gatherFiles 35 = .ok (.iload_n 1, 1) := by decide +kernel
theorem dX4_gatherFiles_36 : decode cX4_gatherFiles 36 = .ok (.lload_n 2, 1) := by decide +kernel
theorem dX4_gatherFiles_37 : decode cX4_gatherFiles 37 = .ok (.lastore, 1) := by decide +kernel
theorem dX4_gatherFiles_38 : decode cX4_gatherFiles 38 = .ok (.return_, 1) := by decide +kernel
set_option maxRecDepth 20000 in
theorem ggX4_namedBy_X4_hasState : GoodIn wsX4_namedBy wsX4_hasState := goodIn_r _ [6, 7, 11, 12, 13, 14, 15, 16, 17, 18] (by decide +kernel) (by decide +kernel)
set_option maxRecDepth 20000 in
theorem gX4_namedBy_X4_hasState : GoodIn wsX4_namedBy (wsV RX4 82 RX4 yX4_hasState wsX4_hasState) := goodIn_app (goodIn_of _ (by decide +kernel)) ggX4_namedBy_X4_hasState
set_option maxRecDepth 20000 in
theorem ggX4_namedBy_X5_isWithin : GoodIn wsX4_namedBy wsX5_isWithin := goodIn_r _ [10] (by decide +kernel) (by decide +kernel)
set_option maxRecDepth 20000 in
theorem gX4_namedBy_X5_isWithin_n41 : GoodIn wsX4_namedBy (wsX5_isWithin) := ggX4_namedBy_X5_isWithin
theorem dX4_namedBy_0 : decode cX4_namedBy 0 = .ok (.aload_n 0, 1) := by decide +kernel
theorem dX4_namedBy_1 : decode cX4_namedBy 1 = .ok (.iload_n 1, 1) := by decide +kernel
theorem dX4_namedBy_2 : decode cX4_namedBy 2 = .ok (.invokevirtual 82, 3) := by decide +kernel
theorem dX4_namedBy_5 : decode cX4_namedBy 5 = .ok (.ifCond .eq 13, 3) := by decide +kernel
theorem dX4_namedBy_8 : decode cX4_namedBy 8 = .ok (.iload_n 2, 1) := by decide +kernel
theorem dX4_namedBy_9 : decode cX4_namedBy 9 = .ok (.iconst 0, 1) := by decide +kernel
theorem dX4_namedBy_10 : decode cX4_namedBy 10 = .ok (.bipush 11, 2) := by decide +kernel
theorem dX4_namedBy_12 : decode cX4_namedBy 12 = .ok (.invokestatic 41, 3) := by decide +kernel
theorem dX4_namedBy_15 : decode cX4_namedBy 15 = .ok (.ifCond .ne 5, 3) := by decide +kernel
theorem dX4_namedBy_18 : decode cX4_namedBy 18 = .ok (.iconst (-1), 1) := by decide +kernel
theorem dX4_namedBy_19 : decode cX4_namedBy 19 = .ok (.ireturn, 1) := by decide +kernel
theorem dX4_namedBy_20 : decode cX4_namedBy 20 = .ok (.aload_n 0, 1) := by decide +kernel
theorem dX4_namedBy_21 : decode cX4_namedBy 21 = .ok (.getfield 25, 3) := by decide +kernel
theorem dX4_namedBy_24 : decode cX4_namedBy 24 = .ok (.iload_n 1, 1) := by decide +kernel
theorem dX4_namedBy_25 : decode cX4_namedBy 25 = .ok (.bipush 12, 2) := by decide +kernel
theorem dX4_namedBy_27 : decode cX4_namedBy 27 = .ok (.imul, 1) := by decide +kernel
theorem dX4_namedBy_28 : decode cX4_namedBy 28 = .ok (.iload_n 2, 1) := by decide +kernel
theorem dX4_namedBy_29 : decode cX4_namedBy 29 = .ok (.iadd, 1) := by decide +kernel
theorem dX4_namedBy_30 : decode cX4_namedBy 30 = .ok (.iaload, 1) := by decide +kernel
theorem dX4_namedBy_31 : decode cX4_namedBy 31 = .ok (.ireturn, 1) := by decide +kernel
set_option maxRecDepth 20000 in
theorem ggX4_namesAlike_X5_isIn : GoodIn wsX4_namesAlike wsX5_isIn := goodIn_r _ [3, 4, 5, 2, 6] (by decide +kernel) (by decide +kernel)
set_option maxRecDepth 20000 in
theorem gX4_namesAlike_X5_isIn_n85 : GoodIn wsX4_namesAlike (wsX5_isIn) := ggX4_namesAlike_X5_isIn
set_option maxRecDepth 20000 in
theorem ggX4_namesAlike_X4_namedBy : GoodIn wsX4_namesAlike wsX4_namedBy := goodIn_r _ [11, 12, 13, 14, 15, 10, 16, 17, 5, 2, 6, 18, 19, 20, 21, 22, 23, 24, 25] (by decide +kernel) (by decide +kernel)
set_option maxRecDepth 20000 in
theorem gX4_namesAlike_X4_namedBy : GoodIn wsX4_namesAlike (wsV RX4 53 RX4 yX4_namedBy wsX4_namedBy) := goodIn_app (goodIn_of _ (by decide +kernel)) ggX4_namesAlike_X4_namedBy
theorem dX4_namesAlike_0 : decode cX4_namesAlike 0 = .ok (.iconst 0, 1) := by decide +kernel
theorem dX4_namesAlike_1 : decode cX4_namesAlike 1 = .ok (.istore 4, 2) := by decide +kernel
theorem dX4_namesAlike_3 : decode cX4_namesAlike 3 = .ok (.iload 4, 2) := by decide +kernel
theorem dX4_namesAlike_5 : decode cX4_namesAlike 5 = .ok (.bipush 12, 2) := by decide +kernel
theorem dX4_namesAlike_7 : decode cX4_namesAlike 7 = .ok (.if_icmp .ge 37, 3) := by decide +kernel
theorem dX4_namesAlike_10 : decode cX4_namesAlike 10 = .ok (.iload_n 3, 1) := by decide +kernel
theorem dX4_namesAlike_11 : decode cX4_namesAlike 11 = .ok (.iload 4, 2) := by decide +kernel
theorem dX4_namesAlike_13 : decode cX4_namesAlike 13 = .ok (.invokestatic 85, 3) := by decide +kernel
theorem dX4_namesAlike_16 : decode cX4_namesAlike 16 = .ok (.ifCond .eq 22, 3) := by decide +kernel
theorem dX4_namesAlike_19 : decode cX4_namesAlike 19 = .ok (.aload_n 0, 1) := by decide +kernel
theorem dX4_namesAlike_20 : decode cX4_namesAlike 20 = .ok (.iload_n 1, 1) := by decide +kernel
theorem dX4_namesAlike_21 : decode cX4_namesAlike 21 = .ok (.iload 4, 2) := by decide +kernel
theorem dX4_namesAlike_23 : decode cX4_namesAlike 23 = .ok (.invokevirtual 53, 3) := by decide +kernel
theorem dX4_namesAlike_26 : decode cX4_namesAlike 26 = .ok (.aload_n 0, 1) := by decide +kernel
theorem dX4_namesAlike_27 : decode cX4_namesAlike 27 = .ok (.iload_n 2, 1) := by decide +kernel
theorem dX4_namesAlike_28 : decode cX4_namesAlike 28 = .ok (.iload 4, 2) := by decide +kernel
theorem dX4_namesAlike_30 : decode cX4_namesAlike 30 = .ok (.invokevirtual 53, 3) := by decide +kernel
theorem dX4_namesAlike_33 : decode cX4_namesAlike 33 = .ok (.if_icmp .eq 5, 3) := by decide +kernel
theorem dX4_namesAlike_36 : decode cX4_namesAlike 36 = .ok (.iconst 0, 1) := by decide +kernel
theorem dX4_namesAlike_37 : decode cX4_namesAlike 37 = .ok (.ireturn, 1) := by decide +kernel
theorem dX4_namesAlike_38 : decode cX4_namesAlike 38 = .ok (.iinc 4 1, 3) := by decide +kernel
theorem dX4_namesAlike_41 : decode cX4_namesAlike 41 = .ok (.goto (-38), 3) := by decide +kernel
theorem dX4_namesAlike_44 : decode cX4_namesAlike 44 = .ok (.iconst 1, 1) := by decide +kernel
theorem dX4_namesAlike_45 : decode cX4_namesAlike 45 = .ok (.ireturn, 1) := by decide +kernel
set_option maxRecDepth 20000 in
theorem ggX4_namesLongYanked_X4_filesOf : GoodIn wsX4_namesLongYanked wsX4_filesOf := goodIn_r _ [8, 9, 10, 11, 12, 7, 13, 14, 21, 22, 23, 24, 25, 26, 27, 28] (by decide +kernel) (by decide +kernel)
set_option maxRecDepth 20000 in
theorem gX4_namesLongYanked_X4_filesOf : GoodIn wsX4_namesLongYanked (wsV RX4 89 RX4 yX4_filesOf wsX4_filesOf) := goodIn_app (goodIn_of _ (by decide +kernel)) ggX4_namesLongYanked_X4_filesOf
set_option maxRecDepth 20000 in
theorem ggX4_namesLongYanked_X5_bitOf : GoodIn wsX4_namesLongYanked wsX5_bitOf := goodIn_r _ [17, 18, 19, 16, 20] (by decide +kernel) (by decide +kernel)
set_option maxRecDepth 20000 in
theorem gX4_namesLongYanked_X5_bitOf_n69 : GoodIn wsX4_namesLongYanked (wsX5_bitOf) := ggX4_namesLongYanked_X5_bitOf
theorem dX4_namesLongYanked_0 : decode cX4_namesLongYanked 0 = .ok (.aload_n 0, 1) := by decide +kernel
theorem dX4_namesLongYanked_1 : decode cX4_namesLongYanked 1 = .ok (.iload_n 1, 1) := by decide +kernel
theorem dX4_namesLongYanked_2 : decode cX4_namesLongYanked 2 = .ok (.invokevirtual 89, 3) := by decide +kernel
theorem dX4_namesLongYanked_5 : decode cX4_namesLongYanked 5 = .ok (.aload_n 0, 1) := by decide +kernel
theorem dX4_namesLongYanked_6 : decode cX4_namesLongYanked 6 = .ok (.getfield 65, 3) := by decide +kernel
theorem dX4_namesLongYanked_9 : decode cX4_namesLongYanked 9 = .ok (.land, 1) := by decide +kernel
theorem dX4_namesLongYanked_10 : decode cX4_namesLongYanked 10 = .ok (.lstore 4, 2) := by decide +kernel
theorem dX4_namesLongYanked_12 : decode cX4_namesLongYanked 12 = .ok (.iconst 0, 1) := by decide +kernel
theorem dX4_namesLongYanked_13 : decode cX4_namesLongYanked 13 = .ok (.istore 6, 2) := by decide +kernel
theorem dX4_namesLongYanked_15 : decode cX4_namesLongYanked 15 = .ok (.iload 6, 2) := by decide +kernel
theorem dX4_namesLongYanked_17 : decode cX4_namesLongYanked 17 = .ok (.aload_n 0, 1) := by decide +kernel
theorem dX4_namesLongYanked_18 : decode cX4_namesLongYanked 18 = .ok (.getfield 38, 3) := by decide +kernel
theorem dX4_namesLongYanked_21 : decode cX4_namesLongYanked 21 = .ok (.if_icmp .ge 44, 3) := by decide +kernel
theorem dX4_namesLongYanked_24 : decode cX4_namesLongYanked 24 = .ok (.lload 4, 2) := by decide +kernel
theorem dX4_namesLongYanked_26 : decode cX4_namesLongYanked 26 = .ok (.lconst 0, 1) := by decide +kernel
theorem dX4_namesLongYanked_27 : decode cX4_namesLongYanked 27 = .ok (.lcmp, 1) := by decide +kernel
theorem dX4_namesLongYanked_28 : decode cX4_namesLongYanked 28 = .ok (.ifCond .eq 37, 3) := by decide +kernel
theorem dX4_namesLongYanked_31 : decode cX4_namesLongYanked 31 = .ok (.lload 4, 2) := by decide +kernel
theorem dX4_namesLongYanked_33 : decode cX4_namesLongYanked 33 = .ok (.iload 6, 2) := by decide +kernel
theorem dX4_namesLongYanked_35 : decode cX4_namesLongYanked 35 = .ok (.invokestatic 69, 3) := by decide +kernel
theorem dX4_namesLongYanked_38 : decode cX4_namesLongYanked 38 = .ok (.land, 1) := by decide +kernel
theorem dX4_namesLongYanked_39 : decode cX4_namesLongYanked 39 = .ok (.lconst 0, 1) := by decide +kernel
theorem dX4_namesLongYanked_40 : decode cX4_namesLongYanked 40 = .ok (.lcmp, 1) := by decide +kernel
theorem dX4_namesLongYanked_41 : decode cX4_namesLongYanked 41 = .ok (.ifCond .eq 18, 3) := by decide +kernel
theorem dX4_namesLongYanked_44 : decode cX4_namesLongYanked 44 = .ok (.iload_n 2, 1) := by decide +kernel
theorem dX4_namesLongYanked_45 : decode cX4_namesLongYanked 45 = .ok (.aload_n 0, 1) := by decide +kernel
theorem dX4_namesLongYanked_46 : decode cX4_namesLongYanked 46 = .ok (.getfield 15, 3) := by decide +kernel
theorem dX4_namesLongYanked_49 : decode cX4_namesLongYanked 49 = .ok (.iload 6, 2) := by decide +kernel
theorem dX4_namesLongYanked_51 : decode cX4_namesLongYanked 51 = .ok (.iaload, 1) := by decide +kernel
theorem dX4_namesLongYanked_52 : decode cX4_namesLongYanked 52 = .ok (.isub, 1) := by decide +kernel
theorem dX4_namesLongYanked_53 : decode cX4_namesLongYanked 53 = .ok (.iload_n 3, 1) := by decide +kernel
theorem dX4_namesLongYanked_54 : decode cX4_namesLongYanked 54 = .ok (.if_icmp .le 5, 3) := by decide +kernel
theorem dX4_namesLongYanked_57 : decode cX4_namesLongYanked 57 = .ok (.iconst 1, 1) := by decide +kernel
theorem dX4_namesLongYanked_58 : decode cX4_namesLongYanked 58 = .ok (.ireturn, 1) := by decide +kernel
theorem dX4_namesLongYanked_59 : decode cX4_namesLongYanked 59 = .ok (.iinc 6 1, 3) := by decide +kernel
theorem dX4_namesLongYanked_62 : decode cX4_namesLongYanked 62 = .ok (.goto (-47), 3) := by decide +kernel
theorem dX4_namesLongYanked_65 : decode cX4_namesLongYanked 65 = .ok (.iconst 0, 1) := by decide +kernel
theorem dX4_namesLongYanked_66 : decode cX4_namesLongYanked 66 = .ok (.ireturn, 1) := by decide +kernel
set_option maxRecDepth 20000 in
theorem ggX4_packagesNamedIn_X4_namedBy : GoodIn wsX4_packagesNamedIn wsX4_namedBy := goodIn_r _ [5, 6, 7, 8, 9, 4, 10, 11, 12, 13, 14, 15, 16, 17, 18, 19, 20, 21, 22] (by decide +kernel) (by decide +kernel)
set_option maxRecDepth 20000 in
theorem gX4_packagesNamedIn_X4_namedBy : GoodIn wsX4_packagesNamedIn (wsV RX4 53 RX4 yX4_namedBy wsX4_namedBy) := goodIn_app (goodIn_of _ (by decide +kernel)) ggX4_packagesNamedIn_X4_namedBy
theorem dX4_packagesNamedIn_0 : decode cX4_packagesNamedIn 0 = .ok (.iconst 0, 1) := by decide +kernel
theorem dX4_packagesNamedIn_1 : decode cX4_packagesNamedIn 1 = .ok (.istore_n 2, 1) := by decide +kernel
theorem dX4_packagesNamedIn_2 : decode cX4_packagesNamedIn 2 = .ok (.iconst 0, 1) := by decide +kernel
theorem dX4_packagesNamedIn_3 : decode cX4_packagesNamedIn 3 = .ok (.istore_n 3, 1) := by decide +kernel
theorem dX4_packagesNamedIn_4 : decode cX4_packagesNamedIn 4 = .ok (.iload_n 3, 1) := by decide +kernel
theorem dX4_packagesNamedIn_5 : decode cX4_packagesNamedIn 5 = .ok (.bipush 12, 2) := by decide +kernel
theorem dX4_packagesNamedIn_7 : decode cX4_packagesNamedIn 7 = .ok (.if_icmp .ge 22, 3) := by decide +kernel
theorem dX4_packagesNamedIn_10 : decode cX4_packagesNamedIn 10 = .ok (.aload_n 0, 1) := by decide +kernel
theorem dX4_packagesNamedIn_11 : decode cX4_packagesNamedIn 11 = .ok (.iload_n 1, 1) := by decide +kernel
theorem dX4_packagesNamedIn_12 : decode cX4_packagesNamedIn 12 = .ok (.iload_n 3, 1) := by decide +kernel
theorem dX4_packagesNamedIn_13 : decode cX4_packagesNamedIn 13 = .ok (.invokevirtual 53, 3) := by decide +kernel
theorem dX4_packagesNamedIn_16 : decode cX4_packagesNamedIn 16 = .ok (.iconst (-1), 1) := by decide +kernel
theorem dX4_packagesNamedIn_17 : decode cX4_packagesNamedIn 17 = .ok (.if_icmp .eq 6, 3) := by decide +kernel
theorem dX4_packagesNamedIn_20 : decode cX4_packagesNamedIn 20 = .ok (.iinc 2 1, 3) := by decide +kernel
theorem dX4_packagesNamedIn_23 : decode cX4_packagesNamedIn 23 = .ok (.iinc 3 1, 3) := by decide +kernel
theorem dX4_packagesNamedIn_26 : decode cX4_packagesNamedIn 26 = .ok (.goto (-22), 3) := by decide +kernel
theorem dX4_packagesNamedIn_29 : decode cX4_packagesNamedIn 29 = .ok (.iload_n 2, 1) := by decide +kernel
theorem dX4_packagesNamedIn_30 : decode cX4_packagesNamedIn 30 = .ok (.ireturn, 1) := by decide +kernel
set_option maxRecDepth 20000 in
theorem ggX4_filesOf_X4_hasState : GoodIn wsX4_filesOf wsX4_hasState := goodIn_r _ [6, 7, 8, 9, 10, 11, 12, 13, 14, 15] (by decide +kernel) (by decide +kernel)
set_option maxRecDepth 20000 in
theorem gX4_filesOf_X4_hasState : GoodIn wsX4_filesOf (wsV RX4 82 RX4 yX4_hasState wsX4_hasState) := goodIn_app (goodIn_of _ (by decide +kernel)) ggX4_filesOf_X4_hasState
theorem dX4_filesOf_0 : decode cX4_filesOf 0 = .ok (.aload_n 0, 1) := by decide +kernel
theorem dX4_filesOf_1 : decode cX4_filesOf 1 = .ok (.iload_n 1, 1) := by decide +kernel
theorem dX4_filesOf_2 : decode cX4_filesOf 2 = .ok (.invokevirtual 82, 3) := by decide +kernel
theorem dX4_filesOf_5 : decode cX4_filesOf 5 = .ok (.ifCond .eq 12, 3) := by decide +kernel
theorem dX4_filesOf_8 : decode cX4_filesOf 8 = .ok (.aload_n 0, 1) := by decide +kernel
theorem dX4_filesOf_9 : decode cX4_filesOf 9 = .ok (.getfield 21, 3) := by decide +kernel
theorem dX4_filesOf_12 : decode cX4_filesOf 12 = .ok (.iload_n 1, 1) := by decide +kernel
theorem dX4_filesOf_13 : decode cX4_filesOf 13 = .ok (.laload, 1) := by decide +kernel
theorem dX4_filesOf_14 : decode cX4_filesOf 14 = .ok (.goto 4, 3) := by decide +kernel
theorem dX4_filesOf_17 : decode cX4_filesOf 17 = .ok (.lconst 0, 1) := by decide +kernel
theorem dX4_filesOf_18 : decode cX4_filesOf 18 = .ok (.lreturn, 1) := by decide +kernel
set_option maxRecDepth 20000 in
theorem ggX4_tickOf_X4_hasState : GoodIn wsX4_tickOf wsX4_hasState := goodIn_r _ [6, 7, 8, 9, 10, 11, 12, 13, 14, 15] (by decide +kernel) (by decide +kernel)
set_option maxRecDepth 20000 in
theorem gX4_tickOf_X4_hasState : GoodIn wsX4_tickOf (wsV RX4 82 RX4 yX4_hasState wsX4_hasState) := goodIn_app (goodIn_of _ (by decide +kernel)) ggX4_tickOf_X4_hasState
theorem dX4_tickOf_0 : decode cX4_tickOf 0 = .ok (.aload_n 0, 1) := by decide +kernel
theorem dX4_tickOf_1 : decode cX4_tickOf 1 = .ok (.iload_n 1, 1) := by decide +kernel
theorem dX4_tickOf_2 : decode cX4_tickOf 2 = .ok (.invokevirtual 82, 3) := by decide +kernel
theorem dX4_tickOf_5 : decode cX4_tickOf 5 = .ok (.ifCond .eq 12, 3) := by decide +kernel
theorem dX4_tickOf_8 : decode cX4_tickOf 8 = .ok (.aload_n 0, 1) := by decide +kernel
theorem dX4_tickOf_9 : decode cX4_tickOf 9 = .ok (.getfield 18, 3) := by decide +kernel
theorem dX4_tickOf_12 : decode cX4_tickOf 12 = .ok (.iload_n 1, 1) := by decide +kernel
theorem dX4_tickOf_13 : decode cX4_tickOf 13 = .ok (.iaload, 1) := by decide +kernel
theorem dX4_tickOf_14 : decode cX4_tickOf 14 = .ok (.goto 4, 3) := by decide +kernel
theorem dX4_tickOf_17 : decode cX4_tickOf 17 = .ok (.iconst (-1), 1) := by decide +kernel
theorem dX4_tickOf_18 : decode cX4_tickOf 18 = .ok (.ireturn, 1) := by decide +kernel
set_option maxRecDepth 20000 in
theorem ggX4_ageOf_X4_hasState : GoodIn wsX4_ageOf wsX4_hasState := goodIn_r _ [6, 7, 8, 9, 10, 11, 12, 13, 14, 15] (by decide +kernel) (by decide +kernel)
set_option maxRecDepth 20000 in
theorem gX4_ageOf_X4_hasState : GoodIn wsX4_ageOf (wsV RX4 82 RX4 yX4_hasState wsX4_hasState) := goodIn_app (goodIn_of _ (by decide +kernel)) ggX4_ageOf_X4_hasState
theorem dX4_ageOf_0 : decode cX4_ageOf 0 = .ok (.aload_n 0, 1) := by decide +kernel
theorem dX4_ageOf_1 : decode cX4_ageOf 1 = .ok (.iload_n 1, 1) := by decide +kernel
theorem dX4_ageOf_2 : decode cX4_ageOf 2 = .ok (.iconst 1, 1) := by decide +kernel
theorem dX4_ageOf_3 : decode cX4_ageOf 3 = .ok (.iadd, 1) := by decide +kernel
theorem dX4_ageOf_4 : decode cX4_ageOf 4 = .ok (.invokevirtual 82, 3) := by decide +kernel
theorem dX4_ageOf_7 : decode cX4_ageOf 7 = .ok (.ifCond .eq 16, 3) := by decide +kernel
theorem dX4_ageOf_10 : decode cX4_ageOf 10 = .ok (.iload_n 2, 1) := by decide +kernel
theorem dX4_ageOf_11 : decode cX4_ageOf 11 = .ok (.aload_n 0, 1) := by decide +kernel
theorem dX4_ageOf_12 : decode cX4_ageOf 12 = .ok (.getfield 18, 3) := by decide +kernel
theorem dX4_ageOf_15 : decode cX4_ageOf 15 = .ok (.iload_n 1, 1) := by decide +kernel
theorem dX4_ageOf_16 : decode cX4_ageOf 16 = .ok (.iconst 1, 1) := by decide +kernel
theorem dX4_ageOf_17 : decode cX4_ageOf 17 = .ok (.iadd, 1) := by decide +kernel
theorem dX4_ageOf_18 : decode cX4_ageOf 18 = .ok (.iaload, 1) := by decide +kernel
theorem dX4_ageOf_19 : decode cX4_ageOf 19 = .ok (.isub, 1) := by decide +kernel
theorem dX4_ageOf_20 : decode cX4_ageOf 20 = .ok (.goto 4, 3) := by decide +kernel
theorem dX4_ageOf_23 : decode cX4_ageOf 23 = .ok (.iconst 0, 1) := by decide +kernel
theorem dX4_ageOf_24 : decode cX4_ageOf 24 = .ok (.ireturn, 1) := by decide +kernel
set_option maxRecDepth 20000 in
theorem ggX4_sizeOf_X4_hasFile : GoodIn wsX4_sizeOf wsX4_hasFile := goodIn_r _ [6, 7, 8, 9, 10, 11, 12, 13, 14, 15] (by decide +kernel) (by decide +kernel)
set_option maxRecDepth 20000 in
theorem gX4_sizeOf_X4_hasFile : GoodIn wsX4_sizeOf (wsV RX4 73 RX4 yX4_hasFile wsX4_hasFile) := goodIn_app (goodIn_of _ (by decide +kernel)) ggX4_sizeOf_X4_hasFile
theorem dX4_sizeOf_0 : decode cX4_sizeOf 0 = .ok (.aload_n 0, 1) := by decide +kernel
theorem dX4_sizeOf_1 : decode cX4_sizeOf 1 = .ok (.iload_n 1, 1) := by decide +kernel
theorem dX4_sizeOf_2 : decode cX4_sizeOf 2 = .ok (.invokevirtual 73, 3) := by decide +kernel
theorem dX4_sizeOf_5 : decode cX4_sizeOf 5 = .ok (.ifCond .eq 12, 3) := by decide +kernel
theorem dX4_sizeOf_8 : decode cX4_sizeOf 8 = .ok (.aload_n 0, 1) := by decide +kernel
theorem dX4_sizeOf_9 : decode cX4_sizeOf 9 = .ok (.getfield 9, 3) := by decide +kernel
theorem dX4_sizeOf_12 : decode cX4_sizeOf 12 = .ok (.iload_n 1, 1) := by decide +kernel
theorem dX4_sizeOf_13 : decode cX4_sizeOf 13 = .ok (.iaload, 1) := by decide +kernel
theorem dX4_sizeOf_14 : decode cX4_sizeOf 14 = .ok (.goto 4, 3) := by decide +kernel
theorem dX4_sizeOf_17 : decode cX4_sizeOf 17 = .ok (.iconst 0, 1) := by decide +kernel
theorem dX4_sizeOf_18 : decode cX4_sizeOf 18 = .ok (.ireturn, 1) := by decide +kernel
set_option maxRecDepth 20000 in
theorem ggX4_bytesOf_X5_bitOf : GoodIn wsX4_bytesOf wsX5_bitOf := goodIn_r _ [5, 6, 7, 4, 8] (by decide +kernel) (by decide +kernel)
set_option maxRecDepth 20000 in
theorem gX4_bytesOf_X5_bitOf_n69 : GoodIn wsX4_bytesOf (wsX5_bitOf) := ggX4_bytesOf_X5_bitOf
theorem dX4_bytesOf_0 : decode cX4_bytesOf 0 = .ok (.iconst 0, 1) := by decide +kernel
theorem dX4_bytesOf_1 : decode cX4_bytesOf 1 = .ok (.istore_n 3, 1) := by decide +kernel
theorem dX4_bytesOf_2 : decode cX4_bytesOf 2 = .ok (.iconst 0, 1) := by decide +kernel
theorem dX4_bytesOf_3 : decode cX4_bytesOf 3 = .ok (.istore 4, 2) := by decide +kernel
theorem dX4_bytesOf_5 : decode cX4_bytesOf 5 = .ok (.iload 4, 2) := by decide +kernel
theorem dX4_bytesOf_7 : decode cX4_bytesOf 7 = .ok (.aload_n 0, 1) := by decide +kernel
theorem dX4_bytesOf_8 : decode cX4_bytesOf 8 = .ok (.getfield 38, 3) := by decide +kernel
theorem dX4_bytesOf_11 : decode cX4_bytesOf 11 = .ok (.if_icmp .ge 31, 3) := by decide +kernel
theorem dX4_bytesOf_14 : decode cX4_bytesOf 14 = .ok (.lload_n 1, 1) := by decide +kernel
theorem dX4_bytesOf_15 : decode cX4_bytesOf 15 = .ok (.iload 4, 2) := by decide +kernel
theorem dX4_bytesOf_17 : decode cX4_bytesOf 17 = .ok (.invokestatic 69, 3) := by decide +kernel
theorem dX4_bytesOf_20 : decode cX4_bytesOf 20 = .ok (.land, 1) := by decide +kernel
theorem dX4_bytesOf_21 : decode cX4_bytesOf 21 = .ok (.lconst 0, 1) := by decide +kernel
theorem dX4_bytesOf_22 : decode cX4_bytesOf 22 = .ok (.lcmp, 1) := by decide +kernel
theorem dX4_bytesOf_23 : decode cX4_bytesOf 23 = .ok (.ifCond .eq 13, 3) := by decide +kernel
theorem dX4_bytesOf_26 : decode cX4_bytesOf 26 = .ok (.iload_n 3, 1) := by decide +kernel
theorem dX4_bytesOf_27 : decode cX4_bytesOf 27 = .ok (.aload_n 0, 1) := by decide +kernel
theorem dX4_bytesOf_28 : decode cX4_bytesOf 28 = .ok (.getfield 9, 3) := by decide +kernel
theorem dX4_bytesOf_31 : decode cX4_bytesOf 31 = .ok (.iload 4, 2) := by decide +kernel
theorem dX4_bytesOf_33 : decode cX4_bytesOf 33 = .ok (.iaload, 1) := by decide +kernel
theorem dX4_bytesOf_34 : decode cX4_bytesOf 34 = .ok (.iadd, 1) := by decide +kernel
theorem dX4_bytesOf_35 : decode cX4_bytesOf 35 = .ok (.istore_n 3, 1) := by decide +kernel
theorem dX4_bytesOf_36 : decode cX4_bytesOf 36 = .ok (.iinc 4 1, 3) := by decide +kernel
theorem dX4_bytesOf_39 : decode cX4_bytesOf 39 = .ok (.goto (-34), 3) := by decide +kernel
theorem dX4_bytesOf_42 : decode cX4_bytesOf 42 = .ok (.iload_n 3, 1) := by decide +kernel
theorem dX4_bytesOf_43 : decode cX4_bytesOf 43 = .ok (.ireturn, 1) := by decide +kernel
